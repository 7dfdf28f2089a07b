/** Promises 18 to 22: flowers, months, when, journey, trowel. */
public final class MonthsTest {
    private static final Checks CHECKS = new Checks();

    private static void flowers() {
        MudBoot x = new MudBoot(3, 3);
        CHECKS.due("whole", x.flowers(0, 0, 11), true);
        CHECKS.due("one month", x.flowers(4, 11, 11), true);
        CHECKS.due("round the year", x.flowers(1, 11, 0), true);
        CHECKS.due("no such sort", x.flowers(5, 0, 0), false);
        CHECKS.due("no such sort", x.flowers(-1, 0, 0), false);
        CHECKS.due("no such sort, no more", x.flowers(5, -1, 0), false);
        CHECKS.due("no such from", x.flowers(0, 12, 0), false);
        CHECKS.due("no such from", x.flowers(0, -2, 0), false);
        CHECKS.due("no such to", x.flowers(0, 0, 12), false);
        CHECKS.due("no such to", x.flowers(0, 0, -1), false);
        CHECKS.due("no more, whatever to", x.flowers(0, -1, 99), true);
        CHECKS.due("no more, whatever to", x.flowers(0, -1, -99), true);
    }

    private static void months() {
        MudBoot x = new MudBoot(3, 3);
        CHECKS.due("no such layer", x.months(0), -1);
        CHECKS.due("no such layer", x.months(-1), -1);
        x.layer(1, 0, 0, 0, 0);
        x.layer(1, 1, 0, 0, 0);
        CHECKS.due("no flowers", x.months(0), 4095);
        x.flowers(0, 2, 4);
        CHECKS.due("2 to 4", x.months(0), 4 + 8 + 16);
        x.flowers(0, 10, 1);
        CHECKS.due("round the year", x.months(0), 1024 + 2048 + 1 + 2);
        x.rules(150, 10, 3, 300, 400);
        CHECKS.due("kept three months", x.months(0), 1024 + 2048 + 1 + 2 + 4 + 8 + 16);
        x.flowers(1, 4, 4);
        CHECKS.due("both", x.months(1), 16);
        CHECKS.due("the other has none of it", x.months(0), 1024 + 2048 + 1 + 2 + 4 + 8 + 16);
        x.flowers(1, 5, 5);
        CHECKS.due("never", x.months(1), 0);
        x.flowers(1, -1, 5);
        CHECKS.due("no more", x.months(1), 1024 + 2048 + 1 + 2 + 4 + 8 + 16);
        x.rules(150, 10, 11, 300, 400);
        x.flowers(0, 7, 7);
        CHECKS.due("kept a year", x.months(0), 4095);
        CHECKS.due("no such layer", x.months(2), -1);
    }

    private static void when() {
        MudBoot x = new MudBoot(3, 3);
        CHECKS.due("no such layer", x.when(0, false), -1);
        x.layer(1, 0, 0, 0, 0);
        x.layer(0, 1, 0, 0, 0);
        x.layer(0, 0, 1, 0, 0);
        x.flowers(0, 4, 6);
        x.flowers(1, 8, 5);
        x.flowers(2, 2, 9);
        int[][] due = {{4, 6}, {4, 9}, {4, 9}};
        for (int layer = 0; layer < 3; layer++) {
            CHECKS.due("earliest of " + layer, x.when(layer, false), due[layer][0]);
            CHECKS.due("latest of " + layer, x.when(layer, true), due[layer][1]);
        }
        x.flowers(2, 2, 4);
        for (int layer = 0; layer < 3; layer++) {
            CHECKS.due("4 alone", x.when(layer, false), 4);
            CHECKS.due("4 alone", x.when(layer, true), 4);
        }
        x.flowers(2, 2, 3);
        for (int layer = 0; layer < 3; layer++) {
            CHECKS.due("no such row", x.when(layer, false), -1);
            CHECKS.due("no such row", x.when(layer, true), -1);
        }
        CHECKS.due("no such layer", x.when(3, false), -1);
        CHECKS.due("no such layer", x.when(-1, true), -1);
        x.flowers(2, -1, 0);
        x.flowers(1, 11, 0);
        CHECKS.due("the last month", x.when(2, false), 11);
        CHECKS.due("of the first", x.when(0, true), 6);
    }

    private static void journey() {
        MudBoot x = new MudBoot(3, 3);
        CHECKS.due("no layers", x.journey(-1), 0);
        CHECKS.due("no layers", x.journey(0), -1);
        x.layer(1, 0, 0, 0, 0);
        CHECKS.due("no soil", x.journey(-1), -1);
        for (int cell = 0; cell < 9; cell++) x.dig(cell, 1, 0, 0, 0, 0);
        x.dig(1, 0, 1, 0, 0, 0);
        x.dig(2, 1, 1, 0, 0, 0);
        x.rules(500, 0, 0, 0, 0);
        x.layer(1, 1, 0, 0, 0);
        x.layer(0, 1, 0, 0, 0);
        // Red is alike to all but 1, half and half to all, grey to 1 and 2: 2 is of them all.
        CHECKS.due("one cell of all", x.journey(-1), 1);
        CHECKS.due("from the first", x.journey(0), 0);
        x.dig(2, 1, 0, 0, 0, 0);
        x.bar(1, true);
        CHECKS.due("red with half, then grey", x.journey(-1), 2);
        CHECKS.due("first", x.journey(0), 0);
        CHECKS.due("second, barred or not", x.journey(1), 2);
        CHECKS.due("none such", x.journey(2), -1);
        CHECKS.due("others", x.journey(-2), -1);
        x.layer(1, 1, 0, 0, 0);
        x.layer(1, 0, 0, 0, 0);
        CHECKS.due("grey with half, then red", x.journey(-1), 3);
        CHECKS.due("third", x.journey(2), 4);
        x.layer(0, 0, 1, 0, 0);
        CHECKS.due("chalk is alike to none", x.journey(-1), -1);
        CHECKS.due("chalk is alike to none", x.journey(0), -1);
    }

    private static void trowel() {
        MudBoot x = new MudBoot(3, 3);
        CHECKS.due("none dug", x.trowel(0), -1);
        x.dig(0, 1, 0, 0, 0, 0);
        CHECKS.due("no layers", x.trowel(0), -1);
        CHECKS.due("no layers", x.trowel(1), -1);
        x.layer(1, 0, 0, 0, 0);
        x.layer(9, 1, 0, 0, 0);
        x.layer(0, 1, 0, 0, 0);
        CHECKS.due("the farthest", x.trowel(0), 8);
        CHECKS.due("4 times 2", x.trowel(1), 8);
        x.bar(8, true);
        CHECKS.due("not a barred one, the lowest", x.trowel(0), 5);
        CHECKS.due("3 times 2", x.trowel(1), 6);
        x.carry(5, 1);
        CHECKS.due("not one that was carried to", x.trowel(0), 7);
        x.carry(5, -1);
        CHECKS.due("no more", x.trowel(0), 5);
        x.dig(8, 0, 1, 0, 0, 0);
        // 2, 4 and 6 are half and half: alike to none. 1 and 3 are red, 5 and 7 grey: 1 * 2 and 1 * 1.
        CHECKS.due("near and alike", x.trowel(0), 1);
        CHECKS.due("1 times 2", x.trowel(1), 2);
        CHECKS.due("others", x.trowel(2), -1);
        CHECKS.due("others", x.trowel(-1), -1);
        x.clean();
        x.layer(0, 0, 1, 0, 0);
        CHECKS.due("0 is none", x.trowel(0), -1);
        CHECKS.due("0 is none", x.trowel(1), -1);
        for (int cell = 0; cell < 9; cell++) x.dig(cell, 0, 0, 1, 0, 0);
        CHECKS.due("all dug", x.trowel(0), -1);
    }

    private static void refusedFlowers() {
        MudBoot x = new MudBoot(3, 3);
        for (int sort = 0; sort < 5; sort++) {
            int[] v = new int[5];
            v[sort] = 1;
            x.layer(v[0], v[1], v[2], v[3], v[4]);
            CHECKS.due("none at first", x.months(sort), 4095);
            CHECKS.due("told", x.flowers(sort, sort, sort + 1), true);
            CHECKS.due("above 11", x.flowers(sort, 12, 3), false);
            CHECKS.due("to above 11", x.flowers(sort, 3, 12), false);
            CHECKS.due("to below 0", x.flowers(sort, 3, -1), false);
            CHECKS.due("from below none", x.flowers(sort, -2, 3), false);
            CHECKS.due("as before", x.months(sort), 3 << sort);
        }
        CHECKS.due("no such sort", x.flowers(Integer.MAX_VALUE, 0, 0), false);
        CHECKS.due("the others are as told", x.months(0), 3);
        CHECKS.due("no more, whatever to", x.flowers(0, -1, Integer.MIN_VALUE), true);
        CHECKS.due("none", x.months(0), 4095);
        CHECKS.due("the others are as told", x.months(4), 3 << 4);
    }

    private static void roundTheYear() {
        MudBoot x = new MudBoot(3, 3);
        x.layer(0, 0, 0, 0, 1);
        int[][] told = {{0, 0, 1}, {11, 11, 1 << 11}, {0, 11, 4095}, {1, 0, 4095}, {11, 10, 4095}, {11, 0, 1 + (1 << 11)},
            {10, 1, 3 + (3 << 10)}, {1, 10, 4094 - (1 << 11)}};
        for (int[] t : told) {
            x.flowers(4, t[0], t[1]);
            CHECKS.due("flowers " + t[0] + " to " + t[1], x.months(0), t[2]);
        }
        x.flowers(4, 11, 11);
        for (int keep = 0; keep < 12; keep++) {
            x.rules(150, 10, keep, 300, 400);
            CHECKS.due("kept " + keep, x.months(0), (1 << 11) + (1 << keep) - 1);
        }
        x.flowers(4, 3, 4);
        x.rules(150, 10, 9, 300, 400);
        CHECKS.due("all but 2", x.months(0), 4095 - 4);
        x.rules(150, 10, 10, 300, 400);
        CHECKS.due("all", x.months(0), 4095);
    }

    private static void oneYear() {
        MudBoot x = new MudBoot(3, 3);
        x.layer(1, 0, 0, 0, 0);
        CHECKS.due("the earliest of all", x.when(0, false), 0);
        CHECKS.due("the latest of all", x.when(0, true), 11);
        x.flowers(0, 0, 0);
        CHECKS.due("month 0 alone", x.when(0, false), 0);
        CHECKS.due("month 0 alone", x.when(0, true), 0);
        x.layer(0, 1, 0, 0, 0);
        x.flowers(1, 11, 11);
        CHECKS.due("first", x.when(0, true), 0);
        CHECKS.due("last", x.when(1, false), 11);
        x.flowers(0, 11, 11);
        x.flowers(1, 0, 0);
        for (int layer = 0; layer < 2; layer++) {
            CHECKS.due("not over the year's end", x.when(layer, false), -1);
            CHECKS.due("not over the year's end", x.when(layer, true), -1);
        }
        x.flowers(1, 11, 0);
        CHECKS.due("in one month", x.when(0, false), 11);
        CHECKS.due("in one month", x.when(1, false), 11);
        x.flowers(0, 5, 5);
        x.layer(1, 1, 0, 0, 0);
        CHECKS.due("a layer of no month", x.when(0, false), -1);
        CHECKS.due("a layer of no month", x.when(2, true), -1);
        x.clean();
        CHECKS.due("no layers", x.when(0, false), -1);
        for (int n = 0; n < 8; n++) x.layer(1, 0, 0, 0, 0);
        for (int n = 0; n < 8; n++) CHECKS.due("eight in a month", x.when(n, n % 2 == 0), 5);
        CHECKS.due("no layer 8", x.when(8, false), -1);
    }

    private static void journeyEdges() {
        MudBoot x = new MudBoot(3, 3);
        for (int cell = 0; cell < 9; cell++) x.dig(cell, cell, 9 - cell, 0, 0, 0);
        x.rules(0, 0, 0, 0, 0);
        for (int n = 0; n < 8; n++) x.layer(n % 2, 1 - n % 2, 0, 0, 0);
        CHECKS.due("pure red is of no cell", x.journey(-1), -1);
        CHECKS.due("nor is the first journey told", x.journey(0), -1);
        x.dig(4, 9, 0, 0, 0, 0);
        CHECKS.due("each its own", x.journey(-1), 8);
        for (int n = 0; n < 8; n++) CHECKS.due("journey " + n, x.journey(n), n);
        CHECKS.due("none such", x.journey(8), -1);
        CHECKS.due("none such", x.journey(Integer.MAX_VALUE), -1);
        CHECKS.due("others", x.journey(Integer.MIN_VALUE), -1);
        x.rules(1000, 0, 0, 0, 0);
        CHECKS.due("all in one", x.journey(-1), 1);
        CHECKS.due("from 0", x.journey(0), 0);
        CHECKS.due("none such", x.journey(1), -1);
        x.clean();
        CHECKS.due("none", x.journey(-1), 0);
        // On a land of 8 by 8 the last cell alone is of both.
        MudBoot y = new MudBoot(8, 8);
        for (int cell = 0; cell < 64; cell++) y.dig(cell, cell % 2, 1 - cell % 2, 0, 0, 0);
        y.dig(63, 1, 1, 0, 0, 0);
        y.rules(500, 0, 0, 0, 0);
        y.layer(1, 0, 0, 0, 0);
        y.layer(0, 1, 0, 0, 0);
        CHECKS.due("one cell is enough", y.journey(-1), 1);
        y.dig(63, 2, 1, 0, 0, 0);
        CHECKS.due("too far from grey", y.journey(-1), 2);
    }

    private static void trowelEdges() {
        MudBoot x = new MudBoot(3, 3);
        for (int cell = 0; cell < 9; cell++) if (cell != 4) x.dig(cell, 1, 0, 0, 0, 0);
        x.layer(1, 0, 0, 0, 0);
        CHECKS.due("the last one", x.trowel(0), 4);
        CHECKS.due("1 times 1", x.trowel(1), 1);
        x.bar(4, true);
        CHECKS.due("it is barred", x.trowel(0), -1);
        CHECKS.due("none", x.trowel(1), -1);
        x.bar(4, false);
        x.carry(4, 0);
        CHECKS.due("it is carried to", x.trowel(0), -1);
        x.carry(4, -1);
        x.clean();
        x.layer(0, 1, 0, 0, 0);
        CHECKS.due("alike to none", x.trowel(0), -1);
        x.layer(1, 0, 0, 0, 0);
        CHECKS.due("alike to one", x.trowel(1), 1);
        x.dig(4, 1, 0, 0, 0, 0);
        CHECKS.due("it is dug", x.trowel(0), -1);
        MudBoot y = new MudBoot(8, 8);
        y.dig(63, 1, 0, 0, 0, 0);
        for (int n = 0; n < 8; n++) y.layer(1, 0, 0, 0, 0);
        CHECKS.due("the first cell", y.trowel(0), 0);
        CHECKS.due("14 times 8", y.trowel(1), 112);
        y.dig(0, 0, 1, 0, 0, 0);
        // Of cells red alone, 6 away from 63 and more from 0, the lowest is 15.
        CHECKS.due("half and half is alike to none", y.trowel(0), 15);
        CHECKS.due("6 times 8", y.trowel(1), 48);
        MudBoot z = new MudBoot(8, 8);
        z.dig(0, 1, 0, 0, 0, 0);
        z.layer(1, 0, 0, 0, 0);
        CHECKS.due("the last cell", z.trowel(0), 63);
        z.carry(63, 0);
        CHECKS.due("the lowest of the next", z.trowel(0), 55);
        CHECKS.due("13 times 1", z.trowel(1), 13);
        CHECKS.due("others", z.trowel(Integer.MAX_VALUE), -1);
        CHECKS.due("others", z.trowel(Integer.MIN_VALUE), -1);
    }

    public static void main(String[] args) {
        flowers();
        months();
        when();
        journey();
        trowel();
        refusedFlowers();
        roundTheYear();
        oneYear();
        journeyEdges();
        trowelEdges();
        CHECKS.finish("MonthsTest");
    }
}
