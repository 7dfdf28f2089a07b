/** What the tests share: counts of checks, and texts put on the tape of an object. */
final class Checks {
    private static final int SHOWN = 20;
    private int right = 0;
    private int wrong = 0;

    void due(String call, long got, long want) {
        if (got == want) {
            right++;
            return;
        }
        wrong++;
        if (wrong <= SHOWN) System.out.println(call + " answered " + got + ", due is " + want);
    }

    void due(String call, boolean got, boolean want) {
        due(call, got ? 1 : 0, want ? 1 : 0);
    }

    int wrong() {
        return wrong;
    }

    void finish(String name) {
        System.out.println(name + ": " + right + " answers as due, " + wrong + " not");
        if (wrong > 0) System.exit(1);
    }

    /** Puts a text on the empty tape. */
    static void type(MudBoot x, String text) {
        for (int at = 0; at < text.length(); at += 20) {
            x.feed(four(text, at), four(text, at + 4), four(text, at + 8), four(text, at + 12), four(text, at + 16));
        }
        x.end(text.length());
    }

    static int four(String text, int at) {
        int four = 0;
        for (int i = at; i < at + 4; i++) four = four << 8 | (i < text.length() ? text.charAt(i) & 255 : 32);
        return four;
    }

    /** Reads a text as a law: its number, or NONE. */
    static int tell(MudBoot x, String text) {
        x.end(0);
        type(x, text);
        return x.law();
    }

    void fault(String text, int fault, int place) {
        MudBoot x = new MudBoot(3, 3);
        due("law of '" + text + "'", tell(x, text), fault == 0 ? 0 : -1);
        due("fault(0) of '" + text + "'", x.fault(0), fault);
        due("fault(1) of '" + text + "'", x.fault(1), place);
        due("tape behind '" + text + "'", x.about(8), 0);
        due("laws behind '" + text + "'", x.about(4), fault == 0 ? 1 : 0);
    }
}
