/** Promises 34 to 36: verdict, lean, agree. */
public final class VerdictTest {
    private static final Checks CHECKS = new Checks();

    private static void verdict() {
        MudBoot x = new MudBoot(3, 3);
        int[][] wrong = {{-1, 0, 0}, {4, 0, 0}, {0, -1, 0}, {0, 8, 0}, {0, 0, -1}, {0, 0, 9}};
        for (int[] w : wrong) CHECKS.due("others", x.verdict(w[0], w[1], w[2], true, true), -1);
        for (int n = 1; n <= 60; n++) CHECKS.due("verdict", x.verdict(3, 7, 8, n % 3 == 0, n % 2 == 0), n);
        CHECKS.due("the 61st", x.verdict(0, 0, 0, true, true), -1);
        CHECKS.due("60", x.about(6), 60);
        CHECKS.due("10 of 30 and 10 of 30", x.lean(3), 0);
    }

    private static void lean() {
        MudBoot x = new MudBoot(3, 3);
        CHECKS.due("without", x.lean(0), -2000);
        x.verdict(0, 0, 0, true, true);
        CHECKS.due("of one kind", x.lean(0), -2000);
        x.verdict(1, 0, 0, true, false);
        CHECKS.due("of the other kind", x.lean(1), -2000);
        x.verdict(0, 0, 0, false, true);
        x.verdict(0, 1, 0, false, true);
        x.verdict(0, 0, 1, true, false);
        CHECKS.due("333 less 1000", x.lean(0), -667);
        x.verdict(0, 0, 1, true, false);
        x.verdict(0, 0, 1, false, false);
        CHECKS.due("333 less 666, cut each", x.lean(0), -333);
        x.verdict(1, 0, 0, false, true);
        CHECKS.due("0 less 1000", x.lean(1), -1000);
        x.verdict(2, 0, 0, true, true);
        x.verdict(2, 0, 0, false, false);
        CHECKS.due("1000 less 0", x.lean(2), 1000);
        CHECKS.due("others", x.lean(4), -2000);
        CHECKS.due("others", x.lean(-1), -2000);
    }

    private static void agree() {
        MudBoot x = new MudBoot(3, 3);
        CHECKS.due("without", x.agree(0, 1), -1);
        x.verdict(0, 0, 0, true, true);
        x.verdict(1, 0, 1, true, true);
        CHECKS.due("another cell", x.agree(0, 1), -1);
        x.verdict(1, 1, 0, true, true);
        CHECKS.due("another layer", x.agree(0, 1), -1);
        x.verdict(1, 0, 0, true, false);
        CHECKS.due("the same", x.agree(0, 1), 1000);
        CHECKS.due("and so the other way", x.agree(1, 0), 1000);
        x.verdict(1, 0, 0, false, false);
        CHECKS.due("of two pairs", x.agree(0, 1), 500);
        x.verdict(0, 0, 0, true, true);
        x.verdict(0, 0, 1, true, true);
        // yes, yes with yes, no: 2 of 4; and yes with yes on cell 1.
        CHECKS.due("3 of 5", x.agree(0, 1), 600);
        x.verdict(1, 0, 1, false, true);
        CHECKS.due("3 of 6", x.agree(0, 1), 500);
        x.verdict(1, 0, 1, false, true);
        CHECKS.due("3 of 7, cut", x.agree(0, 1), 428);
        CHECKS.due("one and the same", x.agree(0, 0), -1);
        CHECKS.due("others", x.agree(0, 4), -1);
        CHECKS.due("others", x.agree(-1, 0), -1);
        CHECKS.due("nobody", x.agree(0, 3), -1);
    }

    public static void main(String[] args) {
        verdict();
        lean();
        agree();
        CHECKS.finish("VerdictTest");
    }
}
