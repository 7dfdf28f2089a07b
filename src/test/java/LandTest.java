/** Promises 1 to 6: a new object, dig, carry, bar, soil, span. */
public final class LandTest {
    private static final Checks CHECKS = new Checks();

    private static void newObject() {
        int[][] told = {{3, 3, 3, 3}, {8, 8, 8, 8}, {2, 9, 3, 8}, {9, 2, 8, 3}, {5, 4, 5, 4},
            {Integer.MIN_VALUE, Integer.MAX_VALUE, 3, 8}, {-1, 0, 3, 3}};
        for (int[] t : told) {
            MudBoot x = new MudBoot(t[0], t[1]);
            CHECKS.due("A of " + t[0], x.about(0), t[2]);
            CHECKS.due("B of " + t[1], x.about(1), t[3]);
            CHECKS.due("dug", x.about(2), 0);
            CHECKS.due("layers", x.about(3), 0);
            CHECKS.due("laws", x.about(4), 0);
            CHECKS.due("the law", x.about(5), -1);
            CHECKS.due("verdicts", x.about(6), 0);
            CHECKS.due("start", x.about(7), 0);
            CHECKS.due("tape", x.about(8), 0);
            CHECKS.due("fault", x.fault(0), -1);
            CHECKS.due("soil", x.soil(0, -1), -1);
        }
        MudBoot x = new MudBoot(3, 3);
        x.dig(4, 1, 0, 0, 0, 0);
        x.layer(1, 0, 0, 0, 0);
        CHECKS.due("back to the new object", x.back(), 0);
        CHECKS.due("no layers there", x.about(3), 0);
    }

    private static void dig() {
        MudBoot x = new MudBoot(4, 3);
        CHECKS.due("dig first", x.dig(0, 1, 0, 0, 0, 0), 1);
        CHECKS.due("dig last cell", x.dig(11, 9, 9, 9, 9, 9), 2);
        CHECKS.due("dig anew", x.dig(11, 0, 0, 0, 0, 1), 2);
        CHECKS.due("dug anew counts alone", x.soil(11, -1), 1);
        CHECKS.due("wing alone", x.soil(11, 4), 1);
        CHECKS.due("no such cell", x.dig(12, 1, 0, 0, 0, 0), -1);
        CHECKS.due("no such cell", x.dig(-1, 1, 0, 0, 0, 0), -1);
        CHECKS.due("nothing together", x.dig(1, 0, 0, 0, 0, 0), -1);
        for (int sort = 0; sort < 5; sort++) {
            int[] v = {1, 1, 1, 1, 1};
            v[sort] = 10;
            CHECKS.due("10 of " + sort, x.dig(1, v[0], v[1], v[2], v[3], v[4]), -1);
            v[sort] = -1;
            CHECKS.due("-1 of " + sort, x.dig(1, v[0], v[1], v[2], v[3], v[4]), -1);
            v[sort] = Integer.MIN_VALUE;
            CHECKS.due("least of " + sort, x.dig(1, v[0], v[1], v[2], v[3], v[4]), -1);
        }
        CHECKS.due("nothing came of these", x.about(2), 2);
        x.bar(1, true);
        CHECKS.due("barred is dug all the same", x.dig(1, 0, 2, 3, 4, 5), 3);
        int[] due = {0, 2, 3, 4, 5};
        for (int sort = 0; sort < 5; sort++) CHECKS.due("soil " + sort, x.soil(1, sort), due[sort]);
    }

    private static void carry() {
        MudBoot x = new MudBoot(3, 3);
        CHECKS.due("carried without soil", x.carry(1, 2), true);
        CHECKS.due("no soil yet", x.soil(1, -1), -1);
        CHECKS.due("onwards", x.carry(2, 3), true);
        CHECKS.due("a circle of three", x.carry(3, 1), false);
        CHECKS.due("a circle of two", x.carry(3, 2), false);
        CHECKS.due("itself", x.carry(4, 4), false);
        CHECKS.due("no such cell", x.carry(9, 0), false);
        CHECKS.due("no such cell", x.carry(-1, 0), false);
        CHECKS.due("no such from", x.carry(0, 9), false);
        CHECKS.due("no such from", x.carry(0, -2), false);
        CHECKS.due("no more of a cell that isn't there", x.carry(9, -1), false);
        x.dig(0, 1, 0, 0, 0, 0);
        x.dig(8, 0, 1, 0, 0, 0);
        CHECKS.due("guessed at the end of the row", x.soil(1, 0), 1);
        CHECKS.due("carried over two from the far side", x.carry(3, 8), true);
        CHECKS.due("grey comes to 1", x.soil(1, 1), 1);
        CHECKS.due("and no red", x.soil(1, 0), 0);
        x.dig(2, 0, 0, 3, 0, 0);
        CHECKS.due("dug stands ahead of carried", x.soil(2, 2), 3);
        CHECKS.due("and is carried on", x.soil(1, -1), 3);
        CHECKS.due("a circle though it is dug", x.carry(8, 2), false);
        CHECKS.due("told anew", x.carry(1, 0), true);
        CHECKS.due("from the new place", x.soil(1, 0), 1);
        CHECKS.due("no more", x.carry(1, -1), true);
        CHECKS.due("no more of none", x.carry(1, -1), true);
        CHECKS.due("guessed from 0 and 2", x.soil(1, -1), 4);
        CHECKS.due("no circle any more", x.carry(3, 1), true);
    }

    private static void longRow() {
        MudBoot x = new MudBoot(8, 8);
        for (int cell = 0; cell < 63; cell++) CHECKS.due("carry", x.carry(cell, cell + 1), true);
        CHECKS.due("a circle of all", x.carry(63, 0), false);
        x.dig(63, 0, 0, 0, 7, 0);
        CHECKS.due("carried over 63", x.soil(0, 3), 7);
        x.dig(1, 0, 0, 0, 0, 5);
        CHECKS.due("from the next", x.soil(0, 4), 5);
        CHECKS.due("from the last", x.soil(2, 3), 7);
    }

    private static void bar() {
        MudBoot x = new MudBoot(3, 3);
        CHECKS.due("bar", x.bar(4, true), true);
        CHECKS.due("barred", x.paces(4, 4), -1);
        CHECKS.due("bar twice", x.bar(4, true), true);
        CHECKS.due("unbar", x.bar(4, false), true);
        CHECKS.due("not barred", x.paces(4, 4), 0);
        CHECKS.due("no such cell", x.bar(9, true), false);
        CHECKS.due("no such cell", x.bar(-1, false), false);
    }

    private static void soil() {
        MudBoot x = new MudBoot(5, 3);
        x.dig(0, 3, 0, 0, 0, 1);
        x.dig(4, 0, 2, 0, 0, 0);
        x.dig(14, 0, 0, 7, 0, 0);
        CHECKS.due("nearest alone", x.soil(1, -1), 4);
        CHECKS.due("two as near are added", x.soil(2, -1), 6);
        CHECKS.due("sort by sort", x.soil(2, 1), 2);
        CHECKS.due("and the others", x.soil(2, 4), 1);
        CHECKS.due("three ways", x.soil(9, -1), 9);
        CHECKS.due("in y alone", x.soil(10, -1), 4);
        CHECKS.due("in x and in y", x.soil(11, -1), 11);
        CHECKS.due("three are as near", x.soil(7, -1), 13);
        CHECKS.due("no such sort", x.soil(0, 5), -1);
        CHECKS.due("no such sort", x.soil(0, -2), -1);
        CHECKS.due("no such cell", x.soil(15, 0), -1);
        CHECKS.due("no such cell", x.soil(-1, -1), -1);
        x.bar(4, true);
        CHECKS.due("bars do not matter", x.soil(2, -1), 6);
    }

    private static void span() {
        MudBoot x = new MudBoot(3, 3);
        CHECKS.due("none dug", x.span(0, 0, true), -1);
        x.dig(0, 1, 2, 0, 0, 0);
        x.dig(2, 2, 0, 0, 0, 1);
        CHECKS.due("own, cut", x.span(0, 0, false), 333);
        CHECKS.due("own, cut", x.span(0, 1, true), 666);
        CHECKS.due("least of two", x.span(1, 0, false), 333);
        CHECKS.due("greatest of two", x.span(1, 0, true), 666);
        CHECKS.due("none of it", x.span(1, 3, true), 0);
        CHECKS.due("least wing", x.span(7, 4, false), 0);
        CHECKS.due("greatest wing", x.span(7, 4, true), 333);
        CHECKS.due("a side", x.span(3, 4, true), 0);
        x.carry(1, 0);
        CHECKS.due("carried does not matter", x.span(1, 0, true), 666);
        CHECKS.due("no such cell", x.span(9, 0, true), -1);
        CHECKS.due("no such cell", x.span(-1, 0, true), -1);
        CHECKS.due("no such sort", x.span(0, -1, true), -1);
        CHECKS.due("no such sort", x.span(0, 5, true), -1);
    }

    private static void sizes() {
        for (int a = 0; a <= 11; a++) {
            int due = a < 3 ? 3 : a > 8 ? 8 : a;
            MudBoot x = new MudBoot(a, 4);
            CHECKS.due("A of " + a, x.about(0), due);
            CHECKS.due("the last cell of A " + a, x.bar(4 * due - 1, false), true);
            CHECKS.due("one more of A " + a, x.bar(4 * due, false), false);
            MudBoot y = new MudBoot(5, a);
            CHECKS.due("B of " + a, y.about(1), due);
            CHECKS.due("the last cell of B " + a, y.bar(5 * due - 1, false), true);
            CHECKS.due("one more of B " + a, y.bar(5 * due, false), false);
        }
    }

    private static void atFirst() {
        MudBoot x = new MudBoot(8, 8);
        for (int cell = 0; cell < 64; cell++) {
            CHECKS.due("not barred: " + cell, x.paces(cell, cell), 0);
            CHECKS.due("no soil: " + cell, x.soil(cell, -1), -1);
            CHECKS.due("no red: " + cell, x.soil(cell, 0), -1);
            CHECKS.due("no span: " + cell, x.span(cell, 0, false), -1);
        }
        // No cell is carried to: each can be the trowel's.
        x.layer(1, 0, 0, 0, 0);
        x.dig(63, 1, 0, 0, 0, 0);
        CHECKS.due("cell 0 is not carried to", x.trowel(0), 0);
        for (int cell = 0; cell < 63; cell++) CHECKS.due("no soil but of 63: " + cell, x.soil(cell, 0), 1);
    }

    private static void refusedDigs() {
        MudBoot x = new MudBoot(3, 3);
        x.dig(4, 0, 5, 0, 0, 0);
        CHECKS.due("10 of a sort", x.dig(4, 10, 0, 0, 0, 0), -1);
        CHECKS.due("nothing together", x.dig(4, 0, 0, 0, 0, 0), -1);
        CHECKS.due("less than nothing with more", x.dig(4, -1, 5, 0, 0, 0), -1);
        CHECKS.due("as before", x.soil(4, 1), 5);
        CHECKS.due("and no red", x.soil(4, 0), 0);
        for (int sort = 0; sort < 5; sort++) {
            int[] v = new int[5];
            v[sort] = 1;
            CHECKS.due("1 together of " + sort, x.dig(8, v[0], v[1], v[2], v[3], v[4]), 2);
            v[sort] = 9;
            CHECKS.due("9 of " + sort, x.dig(8, v[0], v[1], v[2], v[3], v[4]), 2);
            CHECKS.due("9 are there", x.soil(8, sort), 9);
            CHECKS.due("and nothing else", x.soil(8, -1), 9);
        }
        MudBoot y = new MudBoot(8, 8);
        for (int cell = 0; cell < 64; cell++) CHECKS.due("all are dug", y.dig(cell, 9, 9, 9, 9, 9), cell + 1);
        CHECKS.due("one of them anew", y.dig(63, 1, 0, 0, 0, 0), 64);
        CHECKS.due("one beyond", y.dig(64, 1, 0, 0, 0, 0), -1);
    }

    private static void refusedCarries() {
        MudBoot x = new MudBoot(3, 3);
        x.dig(0, 1, 0, 0, 0, 0);
        x.dig(8, 0, 1, 0, 0, 0);
        x.carry(7, 0);
        x.carry(1, 7);
        int[] froms = {7, 1, 9, -2, Integer.MAX_VALUE, Integer.MIN_VALUE};
        for (int from : froms) {
            CHECKS.due("refused from " + from, x.carry(7, from), false);
            CHECKS.due("as before", x.soil(7, 0), 1);
            CHECKS.due("as before onwards", x.soil(1, 0), 1);
        }
        CHECKS.due("a dug cell may be carried to", x.carry(8, 0), true);
        CHECKS.due("its own is what was dug", x.soil(8, 0), 0);
        CHECKS.due("a circle over dug cells", x.carry(0, 8), false);
        CHECKS.due("a circle over all", x.carry(0, 1), false);
        CHECKS.due("cell 0 from another", x.carry(0, 4), true);
        CHECKS.due("cell 0 no more", x.carry(0, -1), true);
        CHECKS.due("the last cell from the first", x.carry(8, 0), true);
        CHECKS.due("told anew as it was", x.carry(7, 0), true);
        CHECKS.due("no more", x.carry(7, -1), true);
        CHECKS.due("guessed again", x.soil(7, 1), 1);
        CHECKS.due("and what hangs on it", x.soil(1, 1), 1);
    }

    private static void wideGuesses() {
        MudBoot x = new MudBoot(8, 8);
        x.dig(0, 0, 0, 0, 0, 9);
        CHECKS.due("fourteen away", x.soil(63, 4), 9);
        CHECKS.due("its span", x.span(63, 4, false), 1000);
        x.dig(63, 0, 0, 0, 7, 0);
        CHECKS.due("seven away from both", x.soil(7, -1), 16);
        CHECKS.due("seven from one, less from the other", x.soil(15, -1), 7);
        MudBoot y = new MudBoot(8, 8);
        // All twelve that are 3 away from (3, 3).
        int[] ring = {3, 10, 12, 17, 21, 24, 30, 33, 37, 42, 44, 51};
        for (int cell : ring) y.dig(cell, 9, 9, 9, 9, 9);
        CHECKS.due("twelve together", y.soil(27, -1), 540);
        CHECKS.due("of each sort", y.soil(27, 2), 108);
        y.dig(26, 1, 0, 0, 0, 0);
        CHECKS.due("a nearer one alone", y.soil(27, -1), 1);
        y.layer(1, 0, 0, 0, 0);
        CHECKS.due("far of it", y.far(0, 27), 0);
    }

    private static void spans() {
        MudBoot x = new MudBoot(8, 8);
        x.dig(63, 0, 1, 0, 0, 0);
        CHECKS.due("all of one grain", x.span(63, 1, true), 1000);
        CHECKS.due("the same from afar", x.span(0, 1, false), 1000);
        CHECKS.due("none of it", x.span(0, 4, false), 0);
        x.dig(62, 1, 9, 9, 9, 0);
        x.dig(55, 9, 9, 9, 9, 9);
        CHECKS.due("a dug one: its own", x.span(63, 1, false), 1000);
        CHECKS.due("1 of 28, cut", x.span(62, 0, true), 35);
        CHECKS.due("the least of two", x.span(54, 0, false), 35);
        CHECKS.due("the greatest of two", x.span(54, 0, true), 200);
        CHECKS.due("wing of none", x.span(54, 4, false), 0);
        CHECKS.due("wing of a fifth", x.span(54, 4, true), 200);
        CHECKS.due("the cell behind the last", x.span(64, 0, true), -1);
        x.carry(54, 63);
        CHECKS.due("the soil comes from afar", x.soil(54, 1), 1);
        CHECKS.due("the nearest dug ones stay", x.span(54, 1, true), 321);
    }

    public static void main(String[] args) {
        newObject();
        dig();
        carry();
        longRow();
        bar();
        soil();
        span();
        sizes();
        atFirst();
        refusedDigs();
        refusedCarries();
        wideGuesses();
        spans();
        CHECKS.finish("LandTest");
    }
}
