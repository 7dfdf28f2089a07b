/** Promises 14 to 17: start, paces, way, ways. */
public final class WayTest {
    private static final Checks CHECKS = new Checks();

    private static void start() {
        MudBoot x = new MudBoot(3, 4);
        CHECKS.due("at first", x.about(7), 0);
        CHECKS.due("start", x.start(11), true);
        CHECKS.due("told", x.about(7), 11);
        CHECKS.due("no such cell", x.start(12), false);
        CHECKS.due("no such cell", x.start(-1), false);
        CHECKS.due("as before", x.about(7), 11);
        x.bar(5, true);
        CHECKS.due("barred is a cell", x.start(5), true);
        CHECKS.due("told", x.about(7), 5);
    }

    private static void paces() {
        MudBoot x = new MudBoot(4, 3);
        CHECKS.due("none", x.paces(0, 0), 0);
        CHECKS.due("over a row's end", x.paces(3, 4), 4);
        CHECKS.due("all across", x.paces(0, 11), 5);
        CHECKS.due("and back", x.paces(11, 0), 5);
        // ..#.
        // .#..
        // ....
        x.bar(2, true);
        x.bar(5, true);
        CHECKS.due("around", x.paces(1, 3), 8);
        CHECKS.due("from a barred one", x.paces(2, 3), -1);
        CHECKS.due("to a barred one", x.paces(3, 2), -1);
        x.bar(8, true);
        CHECKS.due("shut off", x.paces(0, 3), -1);
        CHECKS.due("within", x.paces(1, 4), 2);
        CHECKS.due("no such cell", x.paces(0, 12), -1);
        CHECKS.due("no such cell", x.paces(-1, 0), -1);
        CHECKS.due("no such cell", x.paces(12, 0), -1);
        CHECKS.due("no such cell", x.paces(0, -1), -1);
    }

    /** Red at 0 and 2, grey at 6 and 8, of nothing else alike: all others are dug as chalk. */
    private static MudBoot corners() {
        MudBoot x = new MudBoot(3, 3);
        for (int cell = 0; cell < 9; cell++) x.dig(cell, 0, 0, 1, 0, 0);
        x.dig(0, 1, 0, 0, 0, 0);
        x.dig(2, 9, 1, 0, 0, 0);
        x.dig(6, 0, 1, 0, 0, 0);
        x.dig(8, 1, 9, 0, 0, 0);
        return x;
    }

    private static void way() {
        MudBoot x = corners();
        CHECKS.due("no layers", x.way(-1), -1);
        CHECKS.due("no layers", x.way(0), -1);
        CHECKS.due("no layers, no ways", x.ways(), 0);
        x.layer(99, 1, 0, 0, 0);
        x.layer(1, 99, 0, 0, 0);
        x.start(4);
        CHECKS.due("2 + 2 paces, 10 far both", x.way(-1), 60);
        CHECKS.due("red", x.way(0), 0);
        CHECKS.due("grey", x.way(1), 6);
        CHECKS.due("ways", x.ways(), 4);
        x.start(2);
        CHECKS.due("from 2: 0 is 2 away, 2 is 90 far", x.way(-1), 60);
        x.rules(150, 81, 0, 0, 0);
        CHECKS.due("from 2: 2 and then 8, 90 far both", x.way(-1), 342);
        CHECKS.due("2", x.way(0), 2);
        CHECKS.due("8", x.way(1), 8);
        x.rules(150, 80, 0, 0, 0);
        CHECKS.due("of like cost", x.way(-1), 340);
        CHECKS.due("the lowest", x.way(0), 0);
        CHECKS.due("then the lowest", x.way(1), 6);
        x.rules(89, 50, 0, 0, 0);
        CHECKS.due("bound counts", x.ways(), 1);
        x.rules(150, 10, 0, 0, 0);
        x.bar(0, true);
        CHECKS.due("a barred one is of no way", x.way(0), 2);
        CHECKS.due("two are left", x.ways(), 2);
        x.bar(2, true);
        CHECKS.due("no way", x.way(-1), -1);
        CHECKS.due("no way", x.way(0), -1);
        CHECKS.due("none", x.ways(), 0);
        x.bar(2, false);
        x.start(0);
        CHECKS.due("start is barred", x.way(-1), -1);
        CHECKS.due("none", x.ways(), 0);
        x.start(1);
        CHECKS.due("no such layer", x.way(2), -1);
        CHECKS.due("no such layer", x.way(-2), -1);
    }

    private static void shutOff() {
        MudBoot x = corners();
        x.layer(99, 1, 0, 0, 0);
        x.layer(1, 99, 0, 0, 0);
        x.layer(99, 1, 0, 0, 0);
        x.bar(3, true);
        x.bar(4, true);
        CHECKS.due("to 6 and back, six paces each", x.way(-1), 10 + 60 + 10 + 60 + 10);
        x.rules(150, 40, 0, 0, 0);
        CHECKS.due("to 8, and back to 0 or 2", x.way(-1), 10 + 160 + 90 + 160 + 10);
        CHECKS.due("red", x.way(0), 0);
        CHECKS.due("grey", x.way(1), 8);
        CHECKS.due("the lowest red", x.way(2), 0);
        x.rules(150, 41, 0, 0, 0);
        CHECKS.due("back to 2", x.way(-1), 10 + 164 + 90 + 82 + 90);
        CHECKS.due("red", x.way(2), 2);
        CHECKS.due("ways", x.ways(), 8);
        x.bar(5, true);
        CHECKS.due("grey can't be come to", x.way(-1), -1);
        CHECKS.due("ways", x.ways(), 0);
    }

    private static void many() {
        MudBoot x = new MudBoot(8, 8);
        x.dig(0, 1, 0, 0, 0, 0);
        long due = 1;
        for (int n = 0; n < 8; n++) {
            x.layer(1, 0, 0, 0, 0);
            due = Math.min(1000000, due * 64);
            CHECKS.due("ways of " + (n + 1), x.ways(), due);
        }
        CHECKS.due("stays at start", x.way(-1), 0);
        x.clean();
        for (int n = 0; n < 7; n++) x.layer(1, 0, 0, 0, 0);
        x.layer(0, 1, 0, 0, 0);
        CHECKS.due("none of the last", x.ways(), 0);
        CHECKS.due("no way", x.way(0), -1);
    }

    public static void main(String[] args) {
        start();
        paces();
        way();
        shutOff();
        many();
        CHECKS.finish("WayTest");
    }
}
