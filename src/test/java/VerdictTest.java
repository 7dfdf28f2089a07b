/** Promises 34 to 36: verdict, lean, agree. */
public final class VerdictTest {
    private static final Checks CHECKS = new Checks();

    private static void verdict() {
        MudBoot x = new MudBoot(3, 3);
        int[][] wrong = {{-1, 0, 0}, {4, 0, 0}, {0, -1, 0}, {0, 8, 0}, {0, 0, -1}, {0, 0, 9}};
        for (int[] w : wrong) CHECKS.due("others", x.verdict(w[0], w[1], w[2], true, true), -1);
        for (int n = 1; n <= 60; n++) CHECKS.due("verdict", x.verdict(3, 7, 8, n % 3 == 0, n % 2 == 0), n);
        CHECKS.due("the 61st", x.verdict(0, 0, 0, true, true), -1);
        CHECKS.due("60", x.about(6), 60);
        CHECKS.due("10 of 30 and 10 of 30", x.lean(3), 0);
    }

    private static void lean() {
        MudBoot x = new MudBoot(3, 3);
        CHECKS.due("without", x.lean(0), -2000);
        x.verdict(0, 0, 0, true, true);
        CHECKS.due("of one kind", x.lean(0), -2000);
        x.verdict(1, 0, 0, true, false);
        CHECKS.due("of the other kind", x.lean(1), -2000);
        x.verdict(0, 0, 0, false, true);
        x.verdict(0, 1, 0, false, true);
        x.verdict(0, 0, 1, true, false);
        CHECKS.due("333 less 1000", x.lean(0), -667);
        x.verdict(0, 0, 1, true, false);
        x.verdict(0, 0, 1, false, false);
        CHECKS.due("333 less 666, cut each", x.lean(0), -333);
        x.verdict(1, 0, 0, false, true);
        CHECKS.due("0 less 1000", x.lean(1), -1000);
        x.verdict(2, 0, 0, true, true);
        x.verdict(2, 0, 0, false, false);
        CHECKS.due("1000 less 0", x.lean(2), 1000);
        CHECKS.due("others", x.lean(4), -2000);
        CHECKS.due("others", x.lean(-1), -2000);
    }

    private static void agree() {
        MudBoot x = new MudBoot(3, 3);
        CHECKS.due("without", x.agree(0, 1), -1);
        x.verdict(0, 0, 0, true, true);
        x.verdict(1, 0, 1, true, true);
        CHECKS.due("another cell", x.agree(0, 1), -1);
        x.verdict(1, 1, 0, true, true);
        CHECKS.due("another layer", x.agree(0, 1), -1);
        x.verdict(1, 0, 0, true, false);
        CHECKS.due("the same", x.agree(0, 1), 1000);
        CHECKS.due("and so the other way", x.agree(1, 0), 1000);
        x.verdict(1, 0, 0, false, false);
        CHECKS.due("of two pairs", x.agree(0, 1), 500);
        x.verdict(0, 0, 0, true, true);
        x.verdict(0, 0, 1, true, true);
        // yes, yes with yes, no: 2 of 4; and yes with yes on cell 1.
        CHECKS.due("3 of 5", x.agree(0, 1), 600);
        x.verdict(1, 0, 1, false, true);
        CHECKS.due("3 of 6", x.agree(0, 1), 500);
        x.verdict(1, 0, 1, false, true);
        CHECKS.due("3 of 7, cut", x.agree(0, 1), 428);
        CHECKS.due("one and the same", x.agree(0, 0), -1);
        CHECKS.due("others", x.agree(0, 4), -1);
        CHECKS.due("others", x.agree(-1, 0), -1);
        CHECKS.due("nobody", x.agree(0, 3), -1);
    }

    private static void verdictEdges() {
        MudBoot x = new MudBoot(8, 8);
        CHECKS.due("least of all, without layers or soil", x.verdict(0, 0, 0, false, false), 1);
        CHECKS.due("greatest of all", x.verdict(3, 7, 63, true, true), 2);
        int[] wrong = {-1, 64, Integer.MIN_VALUE, Integer.MAX_VALUE};
        for (int w : wrong) {
            CHECKS.due("no such looker", x.verdict(w, 0, 0, true, true), -1);
            CHECKS.due("no such layer", x.verdict(0, w, 0, true, true), -1);
            CHECKS.due("no such cell", x.verdict(0, 0, w, true, true), -1);
            CHECKS.due("no such looker", x.lean(w), -2000);
            CHECKS.due("no such one", x.agree(w, 0), -1);
            CHECKS.due("no such other", x.agree(0, w), -1);
            CHECKS.due("neither", x.agree(w, w), -1);
        }
        CHECKS.due("two stay", x.about(6), 2);
        x.clean();
        for (int n = 3; n <= 60; n++) CHECKS.due("verdict " + n, x.verdict(n % 4, n % 8, n, true, true), n);
        CHECKS.due("the 61st", x.verdict(0, 0, 0, true, false), -1);
        CHECKS.due("60 stay", x.about(6), 60);
        CHECKS.due("the 61st is not heard: 1000 less 0", x.lean(0), 1000);
    }

    private static void leanEdges() {
        for (int looker = 0; looker < 4; looker++) {
            MudBoot x = new MudBoot(3, 3);
            x.verdict(looker, 0, 0, false, true);
            CHECKS.due("knew alone", x.lean(looker), -2000);
            x.verdict(looker, 0, 0, false, false);
            CHECKS.due("0 less 0", x.lean(looker), 0);
            x.verdict(looker, 0, 0, true, true);
            x.verdict(looker, 0, 0, true, true);
            CHECKS.due("666 less 0", x.lean(looker), 666);
            x.verdict(looker, 0, 0, true, false);
            x.verdict(looker, 0, 0, true, false);
            CHECKS.due("666 less 666", x.lean(looker), 0);
            x.verdict(looker, 0, 0, false, true);
            x.verdict(looker, 0, 0, false, true);
            x.verdict(looker, 0, 0, false, true);
            CHECKS.due("333 less 666", x.lean(looker), -333);
            x.verdict((looker + 1) % 4, 0, 0, true, true);
            CHECKS.due("of another it is none", x.lean(looker), -333);
            CHECKS.due("who has none of one kind", x.lean((looker + 1) % 4), -2000);
            CHECKS.due("nor of both", x.lean((looker + 2) % 4), -2000);
        }
    }

    private static void agreeEdges() {
        MudBoot x = new MudBoot(8, 8);
        x.verdict(3, 7, 63, true, true);
        x.verdict(2, 7, 63, false, true);
        CHECKS.due("never the same", x.agree(2, 3), 0);
        CHECKS.due("and so the other way", x.agree(3, 2), 0);
        x.verdict(2, 7, 62, true, true);
        x.verdict(2, 6, 63, true, true);
        x.verdict(3, 6, 62, true, true);
        CHECKS.due("other places do not count", x.agree(2, 3), 0);
        x.verdict(2, 7, 63, true, false);
        CHECKS.due("who knew does not count", x.agree(2, 3), 500);
        x.verdict(2, 7, 63, false, false);
        CHECKS.due("a third, cut", x.agree(3, 2), 333);
        x.verdict(3, 7, 63, false, false);
        CHECKS.due("3 of 6", x.agree(3, 2), 500);
        CHECKS.due("one and the same", x.agree(3, 3), -1);
        CHECKS.due("one who said nothing", x.agree(3, 0), -1);
        CHECKS.due("two who said nothing", x.agree(0, 1), -1);
        // The next cell of a layer is not the first of the next: 8 by 8 has 64 cells.
        MudBoot y = new MudBoot(8, 8);
        y.verdict(0, 0, 63, true, true);
        y.verdict(1, 1, 0, true, true);
        CHECKS.due("two places", y.agree(0, 1), -1);
    }

    public static void main(String[] args) {
        verdict();
        lean();
        agree();
        verdictEdges();
        leanEdges();
        agreeEdges();
        CHECKS.finish("VerdictTest");
    }
}
