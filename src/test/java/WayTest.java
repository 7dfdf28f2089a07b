/** Promises 14 to 17: start, paces, way, ways. */
public final class WayTest {
    private static final Checks CHECKS = new Checks();

    private static void start() {
        MudBoot x = new MudBoot(3, 4);
        CHECKS.due("at first", x.about(7), 0);
        CHECKS.due("start", x.start(11), true);
        CHECKS.due("told", x.about(7), 11);
        CHECKS.due("no such cell", x.start(12), false);
        CHECKS.due("no such cell", x.start(-1), false);
        CHECKS.due("as before", x.about(7), 11);
        x.bar(5, true);
        CHECKS.due("barred is a cell", x.start(5), true);
        CHECKS.due("told", x.about(7), 5);
    }

    private static void paces() {
        MudBoot x = new MudBoot(4, 3);
        CHECKS.due("none", x.paces(0, 0), 0);
        CHECKS.due("over a row's end", x.paces(3, 4), 4);
        CHECKS.due("all across", x.paces(0, 11), 5);
        CHECKS.due("and back", x.paces(11, 0), 5);
        // ..#.
        // .#..
        // ....
        x.bar(2, true);
        x.bar(5, true);
        CHECKS.due("around", x.paces(1, 3), 8);
        CHECKS.due("from a barred one", x.paces(2, 3), -1);
        CHECKS.due("to a barred one", x.paces(3, 2), -1);
        x.bar(8, true);
        CHECKS.due("shut off", x.paces(0, 3), -1);
        CHECKS.due("within", x.paces(1, 4), 2);
        CHECKS.due("no such cell", x.paces(0, 12), -1);
        CHECKS.due("no such cell", x.paces(-1, 0), -1);
        CHECKS.due("no such cell", x.paces(12, 0), -1);
        CHECKS.due("no such cell", x.paces(0, -1), -1);
    }

    /** Red at 0 and 2, grey at 6 and 8, of nothing else alike: all others are dug as chalk. */
    private static MudBoot corners() {
        MudBoot x = new MudBoot(3, 3);
        for (int cell = 0; cell < 9; cell++) x.dig(cell, 0, 0, 1, 0, 0);
        x.dig(0, 1, 0, 0, 0, 0);
        x.dig(2, 9, 1, 0, 0, 0);
        x.dig(6, 0, 1, 0, 0, 0);
        x.dig(8, 1, 9, 0, 0, 0);
        return x;
    }

    private static void way() {
        MudBoot x = corners();
        CHECKS.due("no layers", x.way(-1), -1);
        CHECKS.due("no layers", x.way(0), -1);
        CHECKS.due("no layers, no ways", x.ways(), 0);
        x.layer(99, 1, 0, 0, 0);
        x.layer(1, 99, 0, 0, 0);
        x.start(4);
        CHECKS.due("2 + 2 paces, 10 far both", x.way(-1), 60);
        CHECKS.due("red", x.way(0), 0);
        CHECKS.due("grey", x.way(1), 6);
        CHECKS.due("ways", x.ways(), 4);
        x.start(2);
        CHECKS.due("from 2: 0 is 2 away, 2 is 90 far", x.way(-1), 60);
        x.rules(150, 81, 0, 0, 0);
        CHECKS.due("from 2: 2 and then 8, 90 far both", x.way(-1), 342);
        CHECKS.due("2", x.way(0), 2);
        CHECKS.due("8", x.way(1), 8);
        x.rules(150, 80, 0, 0, 0);
        CHECKS.due("of like cost", x.way(-1), 340);
        CHECKS.due("the lowest", x.way(0), 0);
        CHECKS.due("then the lowest", x.way(1), 6);
        x.rules(89, 50, 0, 0, 0);
        CHECKS.due("bound counts", x.ways(), 1);
        x.rules(150, 10, 0, 0, 0);
        x.bar(0, true);
        CHECKS.due("a barred one is of no way", x.way(0), 2);
        CHECKS.due("two are left", x.ways(), 2);
        x.bar(2, true);
        CHECKS.due("no way", x.way(-1), -1);
        CHECKS.due("no way", x.way(0), -1);
        CHECKS.due("none", x.ways(), 0);
        x.bar(2, false);
        x.start(0);
        CHECKS.due("start is barred", x.way(-1), -1);
        CHECKS.due("none", x.ways(), 0);
        x.start(1);
        CHECKS.due("no such layer", x.way(2), -1);
        CHECKS.due("no such layer", x.way(-2), -1);
    }

    private static void shutOff() {
        MudBoot x = corners();
        x.layer(99, 1, 0, 0, 0);
        x.layer(1, 99, 0, 0, 0);
        x.layer(99, 1, 0, 0, 0);
        x.bar(3, true);
        x.bar(4, true);
        CHECKS.due("to 6 and back, six paces each", x.way(-1), 10 + 60 + 10 + 60 + 10);
        x.rules(150, 40, 0, 0, 0);
        CHECKS.due("to 8, and back to 0 or 2", x.way(-1), 10 + 160 + 90 + 160 + 10);
        CHECKS.due("red", x.way(0), 0);
        CHECKS.due("grey", x.way(1), 8);
        CHECKS.due("the lowest red", x.way(2), 0);
        x.rules(150, 41, 0, 0, 0);
        CHECKS.due("back to 2", x.way(-1), 10 + 164 + 90 + 82 + 90);
        CHECKS.due("red", x.way(2), 2);
        CHECKS.due("ways", x.ways(), 8);
        x.bar(5, true);
        CHECKS.due("grey can't be come to", x.way(-1), -1);
        CHECKS.due("ways", x.ways(), 0);
    }

    private static void many() {
        MudBoot x = new MudBoot(8, 8);
        x.dig(0, 1, 0, 0, 0, 0);
        long due = 1;
        for (int n = 0; n < 8; n++) {
            x.layer(1, 0, 0, 0, 0);
            due = Math.min(1000000, due * 64);
            CHECKS.due("ways of " + (n + 1), x.ways(), due);
        }
        CHECKS.due("stays at start", x.way(-1), 0);
        x.clean();
        for (int n = 0; n < 7; n++) x.layer(1, 0, 0, 0, 0);
        x.layer(0, 1, 0, 0, 0);
        CHECKS.due("none of the last", x.ways(), 0);
        CHECKS.due("no way", x.way(0), -1);
    }

    private static void longRoads() {
        MudBoot x = new MudBoot(8, 8);
        CHECKS.due("corner to corner", x.paces(0, 63), 14);
        CHECKS.due("and back", x.paces(63, 0), 14);
        CHECKS.due("the other corners", x.paces(7, 56), 14);
        CHECKS.due("none from side to side over the edge", x.paces(7, 8), 8);
        // Rows 1, 3 and 5 are open at one end alone, in turn right, left and right.
        for (int n = 0; n < 7; n++) {
            x.bar(8 + n, true);
            x.bar(24 + n + 1, true);
            x.bar(40 + n, true);
        }
        CHECKS.due("to and fro", x.paces(0, 56), 35);
        CHECKS.due("and back", x.paces(56, 0), 35);
        x.bar(47, true);
        CHECKS.due("shut off", x.paces(0, 56), -1);
        CHECKS.due("no cell 64", x.paces(0, 64), -1);
        CHECKS.due("no cell 64", x.paces(64, 0), -1);
        x.bar(0, true);
        CHECKS.due("a barred one from itself", x.paces(0, 0), -1);
        CHECKS.due("over none from side to side", x.paces(1, 7), 6);
        MudBoot y = new MudBoot(3, 3);
        y.bar(1, true);
        y.bar(3, true);
        CHECKS.due("not over corners", y.paces(0, 4), -1);
        CHECKS.due("but to itself", y.paces(0, 0), 0);
    }

    private static void waysUnasked() {
        MudBoot x = new MudBoot(3, 3);
        x.dig(0, 1, 0, 0, 0, 0);
        x.layer(1, 0, 0, 0, 0);
        x.bar(1, true);
        x.bar(3, true);
        CHECKS.due("start alone", x.ways(), 1);
        CHECKS.due("stays there", x.way(-1), 0);
        CHECKS.due("at 0", x.way(0), 0);
        x.start(8);
        CHECKS.due("all but start's corner", x.ways(), 6);
        CHECKS.due("the nearest is 8 itself", x.way(-1), 0);
        CHECKS.due("but the least cell is asked for of like cost alone", x.way(0), 8);
        x.bar(8, true);
        CHECKS.due("start is barred", x.ways(), 0);
        MudBoot y = new MudBoot(3, 3);
        y.dig(0, 1, 0, 0, 0, 0);
        y.layer(1, 0, 0, 0, 0);
        y.bar(0, true);
        CHECKS.due("first asked: start is barred", y.ways(), 0);
        MudBoot z = new MudBoot(3, 3);
        z.layer(1, 0, 0, 0, 0);
        CHECKS.due("no soil, no ways", z.ways(), 0);
        CHECKS.due("no soil, no way", z.way(-1), -1);
        CHECKS.due("nor a cell", z.way(0), -1);
    }

    /** 7, 4, 2, 14, 10 and 27 cells, each class a tenth redder, from half red to all red. */
    private static MudBoot classes() {
        MudBoot x = new MudBoot(8, 8);
        int[] many = {7, 4, 2, 14, 10, 27};
        int[][] soils = {{1, 1}, {3, 2}, {7, 3}, {4, 1}, {9, 1}, {1, 0}};
        int cell = 0;
        for (int c = 0; c < 6; c++) {
            for (int n = 0; n < many[c]; n++) x.dig(cell++, soils[c][0], soils[c][1], 0, 0, 0);
        }
        x.rules(450, 0, 0, 0, 0);
        return x;
    }

    private static void toldWays() {
        MudBoot x = classes();
        int[] alike = {7, 11, 13, 27, 37};
        int due = 1;
        for (int n = 0; n < 5; n++) {
            CHECKS.due("layer", x.layer(n + 1, 9 - n, 0, 0, 0), n);
            CHECKS.due("cells of layer " + n, x.where(n, -1), alike[n]);
            due *= alike[n];
            CHECKS.due("ways", x.ways(), due);
        }
        CHECKS.due("just below", due, 999999);
        x.layer(9, 1, 0, 0, 0);
        CHECKS.due("1000000 at most", x.ways(), 1000000);
        x.layer(0, 0, 1, 0, 0);
        CHECKS.due("none is none", x.ways(), 0);
        MudBoot y = new MudBoot(4, 3);
        for (int cell = 0; cell < 12; cell++) y.dig(cell, cell < 10 ? 1 : 0, 0, 1, 0, 0);
        for (int n = 0; n < 5; n++) y.layer(1, 0, 1, 0, 0);
        CHECKS.due("five", y.ways(), 100000);
        y.layer(1, 0, 1, 0, 0);
        CHECKS.due("just 1000000", y.ways(), 1000000);
        y.layer(1, 0, 1, 0, 0);
        CHECKS.due("no more are told", y.ways(), 1000000);
    }

    private static void ofLikeCost() {
        MudBoot x = corners();
        x.rules(1000, 0, 0, 0, 0);
        x.layer(1, 0, 0, 0, 0);
        x.layer(0, 1, 0, 0, 0);
        x.layer(0, 0, 1, 0, 0);
        x.start(8);
        CHECKS.due("paces are free", x.way(-1), 0);
        CHECKS.due("red", x.way(0), 0);
        CHECKS.due("grey", x.way(1), 6);
        CHECKS.due("the lowest chalk", x.way(2), 1);
        x.rules(1000, 99, 0, 0, 0);
        // To 0 and 6 and beside it are 4 + 2 + 1 paces; to 2, back to 8 and beside it 2 + 2 + 1, and 200 far.
        CHECKS.due("dear paces", x.way(-1), 7 * 99);
        CHECKS.due("red", x.way(0), 0);
        CHECKS.due("grey", x.way(1), 6);
        CHECKS.due("the lowest of two beside", x.way(2), 3);
        x.start(5);
        CHECKS.due("3 + 2 + 1 is less than 1 + 2 + 1 and 200 far", x.way(-1), 6 * 99);
        x.bar(3, true);
        x.bar(4, true);
        CHECKS.due("now 0 and 6 are too far", x.way(-1), 4 * 99 + 200);
        CHECKS.due("red", x.way(0), 2);
        CHECKS.due("grey", x.way(1), 8);
        CHECKS.due("the lowest of two beside", x.way(2), 5);
        CHECKS.due("the last layer", x.way(3), -1);
        CHECKS.due("others", x.way(Integer.MAX_VALUE), -1);
        CHECKS.due("others", x.way(Integer.MIN_VALUE), -1);
        MudBoot y = new MudBoot(8, 8);
        for (int cell = 0; cell < 64; cell++) y.dig(cell, 0, 1, 0, 0, 0);
        y.dig(0, 1, 0, 0, 0, 0);
        y.dig(63, 0, 0, 1, 0, 0);
        for (int n = 0; n < 8; n++) y.layer(n % 2, 0, 1 - n % 2, 0, 0);
        y.rules(150, 99, 0, 0, 0);
        CHECKS.due("eight times all across", y.way(-1), 8 * 14 * 99);
        for (int n = 0; n < 8; n++) CHECKS.due("cell of " + n, y.way(n), n % 2 == 0 ? 63 : 0);
        CHECKS.due("one way", y.ways(), 1);
    }

    public static void main(String[] args) {
        start();
        paces();
        way();
        shutOff();
        many();
        longRoads();
        waysUnasked();
        toldWays();
        ofLikeCost();
        CHECKS.finish("WayTest");
    }
}
