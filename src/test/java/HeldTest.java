/** Promises 32 and 33: held, believed. */
public final class HeldTest {
    private static final Checks CHECKS = new Checks();

    /** Each step makes a layer of the cell's one sort. */
    private static MudBoot sorts() {
        MudBoot x = new MudBoot(3, 3);
        for (int cell = 0; cell < 5; cell++) {
            x.dig(cell, cell == 0 ? 1 : 0, cell == 1 ? 1 : 0, cell == 2 ? 1 : 0, cell == 3 ? 1 : 0, cell == 4 ? 1 : 0);
        }
        x.by(Checks.tell(x, "take 10; new 1=1;"));
        return x;
    }

    private static void walk(MudBoot x, int story, int... cells) {
        x.forget(story);
        for (int cell : cells) x.step(story, cell, 0, 0);
    }

    private static void held() {
        MudBoot x = sorts();
        CHECKS.due("nothing against nothing", x.held(0, 0), 0);
        CHECKS.due("none", x.held(0, 100), -1);
        walk(x, 0, 0, 1, 2);
        CHECKS.due("three are missing", x.held(0, 0), 900);
        CHECKS.due("three in no pair", x.held(0, 1), 3);
        CHECKS.due("none of the boot", x.held(0, 2), 0);
        x.layer(1, 0, 0, 0, 0);
        x.layer(0, 0, 1, 0, 0);
        x.layer(0, 0, 0, 1, 0);
        CHECKS.due("1 missing, 1 odd", x.held(0, 0), 700);
        CHECKS.due("1 missing", x.held(0, 1), 1);
        CHECKS.due("1 odd", x.held(0, 2), 1);
        CHECKS.due("red", x.held(0, 100), 0);
        CHECKS.due("chalk", x.held(0, 101), 2);
        CHECKS.due("sand", x.held(0, 102), -1);
        CHECKS.due("no such layer", x.held(0, 103), -1);
        CHECKS.due("others", x.held(0, 99), -1);
        CHECKS.due("others", x.held(0, 3), -1);
        CHECKS.due("others", x.held(0, -1), -1);
        CHECKS.due("others", x.held(4, 0), -1);
        CHECKS.due("others", x.held(-1, 0), -1);
        CHECKS.due("others", x.held(0, Integer.MAX_VALUE), -1);
        CHECKS.due("others", x.held(0, Integer.MIN_VALUE), -1);
    }

    private static void ofLikeOnes() {
        MudBoot x = sorts();
        walk(x, 0, 0, 0);
        x.layer(1, 0, 0, 0, 0);
        CHECKS.due("the first is paired", x.held(0, 100), 0);
        x.layer(1, 0, 0, 0, 0);
        x.layer(1, 0, 0, 0, 0);
        CHECKS.due("first", x.held(0, 100), 0);
        CHECKS.due("second", x.held(0, 101), 1);
        CHECKS.due("the last is odd", x.held(0, 102), -1);
        x.clean();
        x.layer(0, 1, 0, 0, 0);
        walk(x, 0, 0);
        x.rules(150, 10, 0, 500, 500);
        CHECKS.due("a pair costs 1000 as well", x.held(0, 0), 1000);
        CHECKS.due("a pair is ahead", x.held(0, 100), 0);
        x.rules(150, 10, 0, 500, 499);
        CHECKS.due("less without", x.held(0, 0), 999);
        CHECKS.due("no pair", x.held(0, 100), -1);
        // Walked grey, red; boot red, grey: either is left over at the same cost, a walked one first.
        walk(x, 0, 1, 0);
        x.clean();
        x.layer(1, 0, 0, 0, 0);
        x.layer(0, 1, 0, 0, 0);
        x.rules(150, 10, 0, 300, 300);
        CHECKS.due("1 missing, 1 odd", x.held(0, 0), 600);
        CHECKS.due("red with red: a walked one is left first", x.held(0, 100), 1);
        CHECKS.due("grey is odd", x.held(0, 101), -1);
    }

    private static void byFar() {
        MudBoot x = sorts();
        walk(x, 0, 0);
        x.layer(9, 1, 0, 0, 0);
        CHECKS.due("far of the pair", x.held(0, 0), 100);
        x.layer(19, 1, 0, 0, 0);
        CHECKS.due("the nearer is paired", x.held(0, 0), 450);
        CHECKS.due("not the first", x.held(0, 100), -1);
        CHECKS.due("but the second", x.held(0, 101), 0);
        x.rules(0, 0, 0, 0, 0);
        CHECKS.due("free to be alone", x.held(0, 0), 0);
        CHECKS.due("no pairs", x.held(0, 1), 1);
        CHECKS.due("no pairs", x.held(0, 2), 2);
    }

    private static void allAlone() {
        MudBoot x = sorts();
        walk(x, 0, 0, 0, 0, 0, 0, 0, 0, 0);
        for (int n = 0; n < 8; n++) x.layer(0, 1, 0, 0, 0);
        CHECKS.due("eight pairs would cost 8000", x.held(0, 0), 8 * 700);
        CHECKS.due("all walked ones", x.held(0, 1), 8);
        CHECKS.due("all of the boot", x.held(0, 2), 8);
        for (int n = 0; n < 8; n++) CHECKS.due("no pair", x.held(0, 100 + n), -1);
        x.rules(150, 10, 0, 600, 600);
        CHECKS.due("eight pairs", x.held(0, 0), 8000);
        CHECKS.due("none alone", x.held(0, 1), 0);
        for (int n = 0; n < 8; n++) CHECKS.due("pair", x.held(0, 100 + n), n);
    }

    private static void believed() {
        MudBoot x = sorts();
        x.layer(1, 0, 0, 0, 0);
        x.layer(0, 1, 0, 0, 0);
        walk(x, 0, 1);
        walk(x, 1, 0, 1);
        walk(x, 2, 0, 1);
        CHECKS.due("the best, the lowest of like ones", x.believed(15), 1);
        CHECKS.due("of the others", x.believed(8 + 1), 0);
        CHECKS.due("one alone", x.believed(8), 3);
        CHECKS.due("two of like", x.believed(4 + 2), 1);
        CHECKS.due("later one", x.believed(4 + 1), 2);
        CHECKS.due("of none", x.believed(0), -1);
        CHECKS.due("others", x.believed(16), -1);
        CHECKS.due("others", x.believed(-1), -1);
        CHECKS.due("others", x.believed(17), -1);
    }

    private static void heldEdges() {
        MudBoot x = sorts();
        x.rules(150, 10, 0, 1000, 1000);
        walk(x, 0, 0, 0, 0, 0, 0, 0, 0, 0);
        CHECKS.due("eight missing", x.held(0, 0), 8000);
        CHECKS.due("eight in no pair", x.held(0, 1), 8);
        CHECKS.due("without layers on the boot", x.held(0, 100), -1);
        for (int n = 0; n < 8; n++) x.layer(0, 1, 0, 0, 0);
        CHECKS.due("eight pairs are less than sixteen alone", x.held(0, 0), 8000);
        CHECKS.due("none alone", x.held(0, 1) + x.held(0, 2), 0);
        CHECKS.due("the last pair", x.held(0, 107), 7);
        CHECKS.due("no layer 8", x.held(0, 108), -1);
        CHECKS.due("a story without steps: eight odd", x.held(1, 0), 8000);
        CHECKS.due("eight odd", x.held(1, 2), 8);
        CHECKS.due("none walked", x.held(1, 1), 0);
        CHECKS.due("no pair", x.held(1, 107), -1);
        x.rules(150, 10, 0, 0, 0);
        CHECKS.due("all alone for nothing", x.held(0, 0), 0);
        CHECKS.due("all alone", x.held(0, 1) + x.held(0, 2), 16);
        x.clean();
        for (int n = 0; n < 8; n++) x.layer(1, 0, 0, 0, 0);
        CHECKS.due("pairs for nothing as well", x.held(0, 0), 0);
        CHECKS.due("pairs are ahead", x.held(0, 1) + x.held(0, 2), 0);
        walk(x, 0, 1, 0, 1);
        CHECKS.due("grey is left, red is paired", x.held(0, 100), 1);
        CHECKS.due("the other grey is left ahead of the boot's", x.held(0, 1), 2);
        CHECKS.due("seven of the boot", x.held(0, 2), 7);
        int[] others = {3, 50, 99, 108, 110, 1000, Integer.MAX_VALUE, Integer.MIN_VALUE};
        for (int other : others) CHECKS.due("others " + other, x.held(0, other), -1);
        CHECKS.due("no such story", x.held(Integer.MAX_VALUE, 0), -1);
        CHECKS.due("no such story", x.held(Integer.MIN_VALUE, 0), -1);
    }

    private static void firstOfLike() {
        // Walked red, grey; boot half of both: either pair is 500 far, the first one is ahead.
        MudBoot x = sorts();
        walk(x, 0, 0, 1);
        x.layer(1, 1, 0, 0, 0);
        CHECKS.due("one of two like pairs", x.held(0, 0), 800);
        CHECKS.due("the first walked one", x.held(0, 100), 0);
        // Walked half of both; boot red, grey: again the first one.
        x.clean();
        x.layer(1, 0, 0, 0, 0);
        x.layer(0, 1, 0, 0, 0);
        x.dig(8, 1, 1, 0, 0, 0);
        walk(x, 0, 8);
        CHECKS.due("one of two like pairs", x.held(0, 0), 900);
        CHECKS.due("the first of the boot", x.held(0, 100), 0);
        CHECKS.due("not the second", x.held(0, 101), -1);
        // A pair as dear as both alone is ahead of these; 1 dearer it is not.
        walk(x, 0, 0);
        x.clean();
        x.layer(0, 1, 0, 0, 0);
        x.rules(150, 10, 0, 600, 400);
        CHECKS.due("paired", x.held(0, 100), 0);
        x.rules(150, 10, 0, 599, 400);
        CHECKS.due("not paired", x.held(0, 100), -1);
        CHECKS.due("both alone", x.held(0, 0), 999);
    }

    private static void believedEdges() {
        MudBoot x = sorts();
        CHECKS.due("of four without steps", x.believed(15), 0);
        for (int story = 0; story < 4; story++) CHECKS.due("one alone", x.believed(1 << story), story);
        x.layer(1, 0, 0, 0, 0);
        walk(x, 3, 0);
        CHECKS.due("the last", x.believed(15), 3);
        CHECKS.due("without it the lowest", x.believed(7), 0);
        CHECKS.due("the lowest of two", x.believed(6), 1);
        walk(x, 0, 0);
        CHECKS.due("of like ones the lowest", x.believed(9), 0);
        CHECKS.due("without the lowest", x.believed(14), 3);
        int[] others = {0, 16, 31, -1, -16, Integer.MAX_VALUE, Integer.MIN_VALUE};
        for (int other : others) CHECKS.due("others " + other, x.believed(other), -1);
    }

    public static void main(String[] args) {
        held();
        ofLikeOnes();
        byFar();
        allAlone();
        believed();
        heldEdges();
        firstOfLike();
        believedEdges();
        CHECKS.finish("HeldTest");
    }
}
