/** Promises 32 and 33: held, believed. */
public final class HeldTest {
    private static final Checks CHECKS = new Checks();

    /** Each step makes a layer of the cell's one sort. */
    private static MudBoot sorts() {
        MudBoot x = new MudBoot(3, 3);
        for (int cell = 0; cell < 5; cell++) {
            x.dig(cell, cell == 0 ? 1 : 0, cell == 1 ? 1 : 0, cell == 2 ? 1 : 0, cell == 3 ? 1 : 0, cell == 4 ? 1 : 0);
        }
        x.by(Checks.tell(x, "take 10; new 1=1;"));
        return x;
    }

    private static void walk(MudBoot x, int story, int... cells) {
        x.forget(story);
        for (int cell : cells) x.step(story, cell, 0, 0);
    }

    private static void held() {
        MudBoot x = sorts();
        CHECKS.due("nothing against nothing", x.held(0, 0), 0);
        CHECKS.due("none", x.held(0, 100), -1);
        walk(x, 0, 0, 1, 2);
        CHECKS.due("three are missing", x.held(0, 0), 900);
        CHECKS.due("three in no pair", x.held(0, 1), 3);
        CHECKS.due("none of the boot", x.held(0, 2), 0);
        x.layer(1, 0, 0, 0, 0);
        x.layer(0, 0, 1, 0, 0);
        x.layer(0, 0, 0, 1, 0);
        CHECKS.due("1 missing, 1 odd", x.held(0, 0), 700);
        CHECKS.due("1 missing", x.held(0, 1), 1);
        CHECKS.due("1 odd", x.held(0, 2), 1);
        CHECKS.due("red", x.held(0, 100), 0);
        CHECKS.due("chalk", x.held(0, 101), 2);
        CHECKS.due("sand", x.held(0, 102), -1);
        CHECKS.due("no such layer", x.held(0, 103), -1);
        CHECKS.due("others", x.held(0, 99), -1);
        CHECKS.due("others", x.held(0, 3), -1);
        CHECKS.due("others", x.held(0, -1), -1);
        CHECKS.due("others", x.held(4, 0), -1);
        CHECKS.due("others", x.held(-1, 0), -1);
        CHECKS.due("others", x.held(0, Integer.MAX_VALUE), -1);
        CHECKS.due("others", x.held(0, Integer.MIN_VALUE), -1);
    }

    private static void ofLikeOnes() {
        MudBoot x = sorts();
        walk(x, 0, 0, 0);
        x.layer(1, 0, 0, 0, 0);
        CHECKS.due("the first is paired", x.held(0, 100), 0);
        x.layer(1, 0, 0, 0, 0);
        x.layer(1, 0, 0, 0, 0);
        CHECKS.due("first", x.held(0, 100), 0);
        CHECKS.due("second", x.held(0, 101), 1);
        CHECKS.due("the last is odd", x.held(0, 102), -1);
        x.clean();
        x.layer(0, 1, 0, 0, 0);
        walk(x, 0, 0);
        x.rules(150, 10, 0, 500, 500);
        CHECKS.due("a pair costs 1000 as well", x.held(0, 0), 1000);
        CHECKS.due("a pair is ahead", x.held(0, 100), 0);
        x.rules(150, 10, 0, 500, 499);
        CHECKS.due("less without", x.held(0, 0), 999);
        CHECKS.due("no pair", x.held(0, 100), -1);
        // Walked grey, red; boot red, grey: either is left over at the same cost, a walked one first.
        walk(x, 0, 1, 0);
        x.clean();
        x.layer(1, 0, 0, 0, 0);
        x.layer(0, 1, 0, 0, 0);
        x.rules(150, 10, 0, 300, 300);
        CHECKS.due("1 missing, 1 odd", x.held(0, 0), 600);
        CHECKS.due("red with red: a walked one is left first", x.held(0, 100), 1);
        CHECKS.due("grey is odd", x.held(0, 101), -1);
    }

    private static void byFar() {
        MudBoot x = sorts();
        walk(x, 0, 0);
        x.layer(9, 1, 0, 0, 0);
        CHECKS.due("far of the pair", x.held(0, 0), 100);
        x.layer(19, 1, 0, 0, 0);
        CHECKS.due("the nearer is paired", x.held(0, 0), 450);
        CHECKS.due("not the first", x.held(0, 100), -1);
        CHECKS.due("but the second", x.held(0, 101), 0);
        x.rules(0, 0, 0, 0, 0);
        CHECKS.due("free to be alone", x.held(0, 0), 0);
        CHECKS.due("no pairs", x.held(0, 1), 1);
        CHECKS.due("no pairs", x.held(0, 2), 2);
    }

    private static void allAlone() {
        MudBoot x = sorts();
        walk(x, 0, 0, 0, 0, 0, 0, 0, 0, 0);
        for (int n = 0; n < 8; n++) x.layer(0, 1, 0, 0, 0);
        CHECKS.due("eight pairs would cost 8000", x.held(0, 0), 8 * 700);
        CHECKS.due("all walked ones", x.held(0, 1), 8);
        CHECKS.due("all of the boot", x.held(0, 2), 8);
        for (int n = 0; n < 8; n++) CHECKS.due("no pair", x.held(0, 100 + n), -1);
        x.rules(150, 10, 0, 600, 600);
        CHECKS.due("eight pairs", x.held(0, 0), 8000);
        CHECKS.due("none alone", x.held(0, 1), 0);
        for (int n = 0; n < 8; n++) CHECKS.due("pair", x.held(0, 100 + n), n);
    }

    private static void believed() {
        MudBoot x = sorts();
        x.layer(1, 0, 0, 0, 0);
        x.layer(0, 1, 0, 0, 0);
        walk(x, 0, 1);
        walk(x, 1, 0, 1);
        walk(x, 2, 0, 1);
        CHECKS.due("the best, the lowest of like ones", x.believed(15), 1);
        CHECKS.due("of the others", x.believed(8 + 1), 0);
        CHECKS.due("one alone", x.believed(8), 3);
        CHECKS.due("two of like", x.believed(4 + 2), 1);
        CHECKS.due("later one", x.believed(4 + 1), 2);
        CHECKS.due("of none", x.believed(0), -1);
        CHECKS.due("others", x.believed(16), -1);
        CHECKS.due("others", x.believed(-1), -1);
        CHECKS.due("others", x.believed(17), -1);
    }

    public static void main(String[] args) {
        held();
        ofLikeOnes();
        byFar();
        allAlone();
        believed();
        CHECKS.finish("HeldTest");
    }
}
