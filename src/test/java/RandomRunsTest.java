import java.util.Random;

/** Runs of 512 calls, the same ones each time, on MudBoot and on PlainMud: the answers are to be alike. */
public final class RandomRunsTest {
    private static final Checks CHECKS = new Checks();
    private static final int RUNS = 400;
    private static final int CALLS = 512;

    private final Random dice;
    private final MudBoot x;
    private final PlainMud y;
    private final int cells;
    private final int wildness;
    private final int run;

    private RandomRunsTest(int run) {
        this.run = run;
        dice = new Random(run);
        int a = run % 7 == 0 ? upTo(20) - 5 : 3 + upTo(run % 3 == 0 ? 5 : 2);
        int b = run % 7 == 0 ? upTo(20) - 5 : 3 + upTo(run % 3 == 0 ? 5 : 2);
        x = new MudBoot(a, b);
        y = new PlainMud(a, b);
        cells = y.a * y.b;
        wildness = run % 4 == 0 ? 6 : 60;
    }

    private int upTo(int most) { return dice.nextInt(most + 1); }

    /** Mostly within, now and then beside or far from it. */
    private int pick(int least, int most) {
        if (dice.nextInt(wildness) > 0) return least + upTo(most - least);
        int[] others = {least - 1, most + 1, -1, -2, Integer.MAX_VALUE, Integer.MIN_VALUE, least, most};
        return others[upTo(others.length - 1)];
    }

    private int cell() { return pick(0, cells - 1); }
    private int layer() { return pick(-1, 7); }
    private int onLayer() { return pick(0, Math.max(0, y.boot.size() - 1)); }
    private boolean coin() { return dice.nextBoolean(); }

    private int[] grains(int most) {
        int[] v = new int[5];
        for (int s = 0; s < 5; s++) if (upTo(2) > 0) v[s] = pick(0, upTo(3) == 0 ? most : 3);
        return v;
    }

    private void same(String call, long got, long want) { CHECKS.due("run " + run + " " + call, got, want); }
    private void same(String call, boolean got, boolean want) { same(call, got ? 1 : 0, want ? 1 : 0); }

    private void play() {
        for (int n = 0; n < CALLS && CHECKS.wrong() == 0; n++) {
            if (n < 20) tellLand(); else one();
        }
    }

    private void one() {
        switch (upTo(11)) {
            case 0: case 1: tellLand(); break;
            case 2: tellBoot(); break;
            case 3: askLand(); break;
            case 4: case 5: askBoot(); break;
            case 6: askWays(); break;
            case 7: askMonths(); break;
            case 8: tellLaw(); break;
            case 9: tellStory(); break;
            case 10: askStory(); break;
            default: rest(); break;
        }
    }

    private void tellLand() {
        int c = cell();
        int d = cell();
        boolean is = upTo(2) == 0;
        int[] v = grains(9);
        switch (upTo(5)) {
            case 0: case 1: same("dig", x.dig(c, v[0], v[1], v[2], v[3], v[4]), y.dig(c, v)); break;
            case 2: case 3: same("carry", x.carry(c, d), y.carry(c, d)); break;
            default: same("bar", x.bar(c, is), y.bar(c, is)); break;
        }
    }

    private void askLand() {
        int c = cell();
        int d = cell();
        int sort = pick(-1, 4);
        boolean high = coin();
        switch (upTo(3)) {
            case 0: same("soil", x.soil(c, sort), y.soil(c, sort)); break;
            case 1: same("span", x.span(c, sort, high), y.span(c, sort, high)); break;
            case 2: same("start", x.start(c), y.start(c)); break;
            default: same("paces", x.paces(c, d), y.paces(c, d)); break;
        }
    }

    private void tellBoot() {
        int[] v = grains(99);
        int[] r = {pick(0, 1000), pick(0, 99), pick(0, 11), pick(0, 1000), pick(0, 1000)};
        if (coin()) r[0] = upTo(400);
        if (upTo(3) == 0) r[1] = upTo(2);
        if (coin()) r[2] = upTo(3);
        switch (upTo(9)) {
            case 0: same("clean", x.clean(), y.clean()); break;
            case 1: same("rules", x.rules(r[0], r[1], r[2], r[3], r[4]), y.rules(r[0], r[1], r[2], r[3], r[4])); break;
            default: same("layer", x.layer(v[0], v[1], v[2], v[3], v[4]), y.layer(v)); break;
        }
    }

    private void askBoot() {
        int l = onLayer();
        int c = cell();
        int i = pick(-1, 8);
        int what = pick(0, 3);
        switch (upTo(6)) {
            case 0: same("far", x.far(l, c), y.far(l, c)); break;
            case 1: same("where", x.where(l, i), y.where(l, i)); break;
            case 2: same("odds", x.odds(l, c), y.odds(l, c)); break;
            case 3: same("parted", x.parted(l, what), y.parted(l, what)); break;
            case 4: same("journey", x.journey(i), y.journey(i)); break;
            default: same("trowel", x.trowel(what), y.trowel(what)); break;
        }
    }

    private void askWays() {
        if (upTo(2) == 0) {
            same("ways", x.ways(), y.ways());
            return;
        }
        for (int layer = -1; layer < y.boot.size(); layer++) same("way " + layer, x.way(layer), y.way(layer));
        int layer = layer();
        same("way " + layer, x.way(layer), y.way(layer));
    }

    private void askMonths() {
        int sort = pick(0, 4);
        int from = upTo(3) == 0 ? -1 : pick(0, 11);
        int to = pick(0, 11);
        int l = onLayer();
        boolean late = coin();
        switch (upTo(2)) {
            case 0: same("flowers", x.flowers(sort, from, to), y.flowers(sort, from, to)); break;
            case 1: same("months", x.months(l), y.months(l)); break;
            default: same("when", x.when(l, late), y.when(l, late)); break;
        }
    }

    private void tellLaw() {
        int n = pick(0, 300);
        int what = pick(0, 1);
        int law = pick(-1, 3);
        switch (upTo(9)) {
            case 0: same("end", x.end(n), y.end(n)); break;
            case 1: same("fault", x.fault(what), y.fault(what)); break;
            case 2: case 3: same("by", x.by(law), y.by(law)); break;
            case 4: feed(n, n * 31, n ^ 0x20202020, dice.nextInt(), what); break;
            default: tellText(new LawTexts(dice).text()); break;
        }
    }

    private void feed(int a, int b, int c, int d, int e) {
        same("feed", x.feed(a, b, c, d, e), y.feed(a, b, c, d, e));
    }

    private void tellText(String text) {
        if (upTo(5) > 0) same("end 0", x.end(0), y.end(0));
        int was = y.tape.length();
        for (int i = 0; i < text.length(); i += 20) {
            feed(Checks.four(text, i), Checks.four(text, i + 4), Checks.four(text, i + 8), Checks.four(text, i + 12),
                Checks.four(text, i + 16));
        }
        int n = Math.min(300, was + text.length());
        same("end " + n, x.end(n), y.end(n));
        String read = y.tape;
        same("law of " + read, x.law(), y.law());
        same("fault(0) of " + read, x.fault(0), y.fault(0));
        same("fault(1) of " + read, x.fault(1), y.fault(1));
        int law = y.laws.size() - 1;
        same("by " + law, x.by(law), y.by(law));
    }

    private void tellStory() {
        int story = pick(0, 3);
        if (upTo(14) == 0) {
            same("forget", x.forget(story), y.forget(story));
            return;
        }
        int many = 1 + upTo(6);
        for (int i = 0; i < many; i++) {
            int c = cell();
            int wet = pick(0, 9);
            int hour = pick(0, 23);
            same("step", x.step(story, c, wet, hour), y.step(story, c, wet, hour));
        }
    }

    private void askStory() {
        int story = pick(0, 3);
        int l = layer();
        int sort = pick(0, 4);
        int set = pick(1, 15);
        switch (upTo(4)) {
            case 0: case 1:
                same("walked", x.walked(story, l, sort), y.walked(story, l, sort));
                for (int i = 0; i < 40; i++) same("walked " + i, x.walked(story, i / 5, i % 5), y.walked(story, i / 5, i % 5));
                break;
            case 2: same("believed", x.believed(set), y.believed(set)); break;
            case 3:
                if (upTo(3) == 0) same("wear", x.wear(story), y.wear(story));
                else for (int i = 0; i < 4; i++) same("held " + i, x.held(story, i), y.held(story, i));
                break;
            default:
                for (int i = 98; i < 110; i++) same("held " + i, x.held(story, i), y.held(story, i));
                int what = pick(0, 3);
                same("held", x.held(story, what), y.held(story, what));
                break;
        }
    }

    private void rest() {
        int one = pick(0, 3);
        int other = pick(0, 3);
        int l = pick(0, upTo(3) == 0 ? 7 : 1);
        int c = upTo(3) == 0 ? cell() : upTo(1);
        boolean yes = coin();
        boolean knew = coin();
        int what = pick(0, 13);
        switch (upTo(11)) {
            case 0: case 1: case 2: case 3:
                same("verdict", x.verdict(one, l, c, yes, knew), y.verdict(one, l, c, yes, knew));
                break;
            case 4: case 5: same("lean", x.lean(one), y.lean(one)); break;
            case 6: case 7: same("agree", x.agree(one, other), y.agree(one, other)); break;
            case 8: same("image", x.image(), y.image()); break;
            case 9: same("back", x.back(), y.back()); break;
            default: same("about", x.about(what), y.about(what)); break;
        }
    }

    public static void main(String[] args) {
        int runs = args.length > 0 ? Integer.parseInt(args[0]) : RUNS;
        for (int run = 1; run <= runs; run++) new RandomRunsTest(run).play();
        CHECKS.finish("RandomRunsTest");
    }
}
