/** Promises 28 to 31: step, forget, walked, wear; and what laws say on the way. */
public final class StoryTest {
    private static final Checks CHECKS = new Checks();

    private static void step() {
        MudBoot x = new MudBoot(3, 3);
        x.bar(8, true);
        for (int n = 1; n <= 20; n++) CHECKS.due("step", x.step(3, 8, 9, 23), n);
        CHECKS.due("the 21st", x.step(3, 8, 9, 23), -1);
        CHECKS.due("another story", x.step(0, 0, 0, 0), 1);
        int[][] wrong = {{-1, 0, 0, 0}, {4, 0, 0, 0}, {0, -1, 0, 0}, {0, 9, 0, 0}, {0, 0, -1, 0}, {0, 0, 10, 0},
            {0, 0, 0, -1}, {0, 0, 0, 24}};
        for (int[] w : wrong) CHECKS.due("others", x.step(w[0], w[1], w[2], w[3]), -1);
        CHECKS.due("as before", x.about(10), 1);
        CHECKS.due("20", x.about(13), 20);
        CHECKS.due("forget", x.forget(3), 20);
        CHECKS.due("forget again", x.forget(3), 0);
        CHECKS.due("others", x.forget(4), -1);
        CHECKS.due("others", x.forget(-1), -1);
        CHECKS.due("from the first again", x.step(3, 0, 0, 0), 1);
    }

    private static void walked() {
        MudBoot x = new MudBoot(3, 3);
        x.step(0, 0, 0, 0);
        CHECKS.due("without soil", x.walked(0, -1, 0), 0);
        x.dig(0, 1, 2, 0, 0, 0);
        CHECKS.due("one, whatever sort", x.walked(0, -1, 99), 1);
        CHECKS.due("10 * 1 / 3", x.walked(0, 0, 0), 3);
        CHECKS.due("10 * 2 / 3", x.walked(0, 0, 1), 6);
        x.step(0, 0, 0, 0);
        CHECKS.due("more of it", x.walked(0, 0, 1), 12);
        CHECKS.due("no such layer", x.walked(0, 1, 0), -1);
        CHECKS.due("no such layer", x.walked(0, -2, 0), -1);
        CHECKS.due("no such sort", x.walked(0, 0, 5), -1);
        CHECKS.due("no such sort", x.walked(0, 0, -1), -1);
        CHECKS.due("no such story", x.walked(4, -1, 0), -1);
        CHECKS.due("no such story", x.walked(-1, 0, 0), -1);
        CHECKS.due("a story without steps", x.walked(1, -1, 0), 0);
        CHECKS.due("nothing in it", x.walked(1, 0, 0), -1);
        x.dig(0, 0, 0, 0, 0, 1);
        CHECKS.due("by the soil as it is now", x.walked(0, 0, 4), 20);
    }

    /** The amount of red behind a step of red soil by a text's take. */
    private static int taken(String sum, int wet, int hour) {
        MudBoot x = new MudBoot(3, 3);
        x.dig(0, 1, 0, 0, 0, 0);
        CHECKS.due("law " + sum, Checks.tell(x, "take " + sum + ";"), 0);
        x.by(0);
        x.step(0, 0, wet, hour);
        return x.walked(0, -1, 0) == 0 ? 0 : x.walked(0, 0, 0);
    }

    private static void sums() {
        CHECKS.due("99 at most", taken("100", 0, 0), 99);
        CHECKS.due("99", taken("99", 0, 0), 99);
        CHECKS.due("0 at least", taken("0-5", 0, 0), 0);
        CHECKS.due("0", taken("0", 0, 0), 0);
        CHECKS.due("wet, hour", taken("wet*10+hour/2", 3, 21), 40);
        CHECKS.due("from the left", taken("50-20-7", 0, 0), 23);
        CHECKS.due("from the left", taken("100/7/2", 0, 0), 7);
        CHECKS.due("from the left", taken("7/2*2", 0, 0), 6);
        CHECKS.due("product first", taken("1+2*3-4/2", 0, 0), 5);
        CHECKS.due("brackets", taken("(1+2)*(3-1)", 0, 0), 6);
        CHECKS.due("cut towards 0", taken("10+(0-7)/2", 0, 0), 7);
        CHECKS.due("by 0", taken("5+7/(wet-wet)", 1, 0), 5);
        CHECKS.due("minus of one", taken("--5+-(2-3)", 0, 0), 6);
        CHECKS.due("minus ahead of times", taken("-2*-3", 0, 0), 6);
        CHECKS.due("cut at 1000000", taken("9999*9999/9999-90", 0, 0), 10);
        CHECKS.due("cut at -1000000", taken("-9999*9999/9999+170", 0, 0), 70);
        CHECKS.due("each step", taken("9999*9999-9999*9999+3", 0, 0), 3);
        CHECKS.due("sums are cut too", taken("(9999*9999+9999-9999*99)/1000", 0, 0), 10);
        CHECKS.due("and below", taken("(-9999*9999-9999+9999*99+9999+100)/1000+20", 0, 0), 20);
        CHECKS.due("just 1000000", taken("9999*9999-9999*100-50", 0, 0), 50);
        CHECKS.due("just -1000000", taken("-9999*9999+9999*100+150", 0, 0), 50);
        CHECKS.due("of a sum", taken("9999*100+9999-9999*100-50", 0, 0), 50);
        CHECKS.due("of a sum below", taken("-9999*100-9999+9999*100+150", 0, 0), 50);
        CHECKS.due("minus of a bracket", taken("50--(2*-(3+4))", 0, 0), 36);
        CHECKS.due("share", taken("red/20", 0, 0), 50);
        CHECKS.due("share of all", taken("red-950", 0, 0), 50);
        CHECKS.due("no share", taken("grey+chalk+sand+wing+5", 0, 0), 5);
        CHECKS.due("no layers", taken("layers+mass+1", 0, 0), 1);
        CHECKS.due("far without", taken("far/20", 0, 0), 50);
        CHECKS.due("steps ahead", taken("steps+4", 0, 0), 4);
    }

    /** Whether a text's asks make a second layer. */
    private static boolean isNew(String either) {
        MudBoot x = new MudBoot(3, 3);
        x.dig(0, 1, 0, 0, 0, 0);
        CHECKS.due("law " + either, Checks.tell(x, "new " + either + ";"), 0);
        x.by(0);
        x.step(0, 0, 1, 2);
        x.step(0, 0, 1, 2);
        return x.walked(0, -1, 0) == 2;
    }

    private static void asks() {
        boolean[][] due = {{true, true, false, false, false, true}, {false, true, false, true, true, false},
            {false, false, true, true, false, true}};
        String[] signs = {"<", "<=", ">", ">=", "=", "#"};
        String[] pairs = {"wet", "hour", "2", "hour", "3", "hour"};
        for (int pair = 0; pair < 3; pair++) {
            for (int sign = 0; sign < 6; sign++) {
                String ask = pairs[pair * 2] + signs[sign] + pairs[pair * 2 + 1];
                CHECKS.due(ask, isNew(ask), due[pair][sign]);
                CHECKS.due("not " + ask, isNew("not " + ask), !due[pair][sign]);
                CHECKS.due("not not " + ask, isNew("not not " + ask), due[pair][sign]);
            }
        }
        CHECKS.due("and binds more", isNew("1=1 or 1=1 and 1=2"), true);
        CHECKS.due("and binds more", isNew("1=2 and 1=1 or 1=1"), true);
        CHECKS.due("and", isNew("1=1 and 1=2"), false);
        CHECKS.due("and", isNew("1=2 and 1=1"), false);
        CHECKS.due("and", isNew("1=1 and 1=1 and 1=1"), true);
        CHECKS.due("or", isNew("1=2 or 1=2 or 1=1"), true);
        CHECKS.due("or", isNew("1=2 or 1=2"), false);
        CHECKS.due("or", isNew("1=2 or 1=2 or 1=2"), false);
        CHECKS.due("or", isNew("1=1 or 1=2 or 1=2"), true);
        CHECKS.due("or", isNew("1=2 or 1=1 or 1=2"), true);
        CHECKS.due("or and and", isNew("1=2 or 1=1 and 1=2 or 1=2"), false);
        CHECKS.due("not of one ask", isNew("not 1=1 or 1=1"), true);
        CHECKS.due("not of one ask", isNew("not 1=2 and 1=2"), false);
        CHECKS.due("any clause", isNew("1=2; new 1=1; new 1=2"), true);
        CHECKS.due("falls is not new", isNew("1=2; falls 1=2"), false);
    }

    private static MudBoot by(String text) {
        MudBoot x = new MudBoot(3, 3);
        for (int cell = 0; cell < 5; cell++) {
            x.dig(cell, cell == 0 ? 1 : 0, cell == 1 ? 1 : 0, cell == 2 ? 1 : 0, cell == 3 ? 1 : 0, cell == 4 ? 1 : 0);
        }
        CHECKS.due("law " + text, Checks.tell(x, text), 0);
        x.by(0);
        return x;
    }

    private static void loses() {
        MudBoot x = by("take 10; lose 25; new far=1000;");
        x.step(0, 0, 0, 0);
        x.step(0, 1, 0, 0);
        CHECKS.due("two", x.walked(0, -1, 0), 2);
        CHECKS.due("10 less 2", x.walked(0, 0, 0), 8);
        x.step(0, 1, 0, 0);
        CHECKS.due("8 less 2", x.walked(0, 0, 0), 6);
        CHECKS.due("10 less 2 and 10", x.walked(0, 1, 1), 18);
    }

    private static void gone() {
        MudBoot x = by("take 10; lose wet*50; new far>0;");
        x.step(0, 0, 0, 0);
        x.step(0, 1, 0, 0);
        x.step(0, 2, 2, 0);
        CHECKS.due("all are gone, one comes", x.walked(0, -1, 0), 1);
        CHECKS.due("chalk", x.walked(0, 0, 2), 10);
        CHECKS.due("no red", x.walked(0, 0, 0), 0);
        x.step(0, 2, 9, 0);
        CHECKS.due("100 at most", x.walked(0, 0, 2), 10);
        x = by("take 10-steps*9; lose hour*10; new far>0;");
        x.step(0, 0, 0, 0);
        x.step(0, 1, 0, 0);
        for (int n = 0; n < 3; n++) x.step(0, 2, 0, 10);
        CHECKS.due("nothing is taken then", x.walked(0, -1, 0), 0);
        x = by("take 4+steps; lose 0-50; new far>0;");
        x.step(0, 0, 0, 0);
        x.step(0, 0, 0, 0);
        CHECKS.due("0 at least", x.walked(0, 0, 0), 9);
    }

    private static void inner() {
        // The inner layer of 1 grain stays, as a half of 1 is cut to 0; 2 lose 1; 100 hundredths lose all.
        MudBoot x = by("take 1+steps*5; lose 50; new far>0;");
        x.step(0, 0, 0, 0);
        x.step(0, 1, 0, 0);
        x.step(0, 2, 0, 0);
        CHECKS.due("three", x.walked(0, -1, 0), 3);
        CHECKS.due("1", x.walked(0, 0, 0), 1);
        CHECKS.due("6 less 3", x.walked(0, 1, 1), 3);
        CHECKS.due("11", x.walked(0, 2, 2), 11);
    }

    private static void falls() {
        MudBoot x = by("take 10; new far>0; falls mass>=20; falls wet=9;");
        x.step(0, 0, 0, 0);
        x.step(0, 1, 0, 0);
        x.step(0, 1, 0, 0);
        CHECKS.due("20 are on", x.walked(0, 1, 1), 20);
        x.step(0, 1, 0, 0);
        CHECKS.due("fell, and came anew", x.walked(0, 1, 1), 10);
        CHECKS.due("two", x.walked(0, -1, 0), 2);
        x.step(0, 0, 9, 0);
        CHECKS.due("fell, and red is on red", x.walked(0, -1, 0), 1);
        CHECKS.due("20", x.walked(0, 0, 0), 20);
        x.step(0, 0, 9, 0);
        CHECKS.due("both are so, one falls", x.walked(0, 0, 0), 10);
        MudBoot y = by("falls wet=wet; take 7;");
        y.step(0, 0, 0, 0);
        CHECKS.due("nothing to fall", y.walked(0, 0, 0), 7);
        y = by("take 7-steps*7; falls wet>0; new far>0;");
        y.step(0, 0, 0, 0);
        y.step(0, 0, 1, 0);
        CHECKS.due("fell, and nothing came", y.walked(0, -1, 0), 0);
    }

    private static void wordsOnTheWay() {
        // At lose the layer is on; it falls; then there is none: far is 1000, mass 0, layers 0.
        MudBoot x = by("lose layers*10+mass/10; falls mass=8 and far=1000; take far/100+layers+mass*50;");
        x.step(0, 0, 0, 0);
        CHECKS.due("far without is 1000", x.walked(0, 0, 0), 10);
        x.step(0, 1, 0, 0);
        // Loses 11 hundredths of 10: 9 are left, none falls; take 10 + 1 + 450 is 99.
        CHECKS.due("9 are left", x.walked(0, 0, 0), 9);
        CHECKS.due("99 came", x.walked(0, 0, 1), 99);
        MudBoot y = by("lose 20; falls mass=8; take far/100+layers; new layers>0;");
        y.step(0, 0, 0, 0);
        y.step(0, 1, 0, 0);
        CHECKS.due("mass behind lose is 8: fell", y.walked(0, -1, 0), 1);
        CHECKS.due("far is 1000 again", y.walked(0, 0, 1), 10);
        MudBoot z = by("take 1+steps;");
        z.step(0, 0, 0, 0);
        z.step(0, 0, 0, 0);
        z.step(0, 0, 0, 0);
        CHECKS.due("1 and 2 and 3", z.walked(0, 0, 0), 6);
    }

    private static void shares() {
        String[] names = {"red", "grey", "chalk", "sand", "wing"};
        for (int sort = 0; sort < 5; sort++) {
            for (int cell = 0; cell < 5; cell++) {
                MudBoot x = by("take " + names[sort] + "/50+1;");
                x.step(0, cell, 0, 0);
                CHECKS.due(names[sort] + " at " + cell, x.walked(0, 0, cell), cell == sort ? 21 : 1);
            }
        }
        MudBoot x = new MudBoot(3, 3);
        x.dig(0, 1, 2, 0, 0, 0);
        x.by(Checks.tell(x, "take red-240;"));
        x.step(0, 0, 0, 0);
        CHECKS.due("333 less 240: 93 / 3", x.walked(0, 0, 0), 31);
        CHECKS.due("93 * 2 / 3", x.walked(0, 0, 1), 62);
        x.by(Checks.tell(x, "take 1;"));
        CHECKS.due("1 / 3 and 2 / 3 are nothing", x.walked(0, -1, 0), 0);
        x.by(-1);
        CHECKS.due("takes 10", x.walked(0, 0, 1), 6);
    }

    private static void limits() {
        MudBoot x = by("take 99; new wet=1;");
        for (int n = 0; n < 20; n++) x.step(0, 0, 0, 0);
        CHECKS.due("999 at most", x.walked(0, 0, 0), 999);
        CHECKS.due("wear", x.wear(0), 1);
        x.dig(0, 9, 0, 0, 0, 0);
        CHECKS.due("99 at most", x.held(0, 0), 0);
        for (int n = 0; n < 10; n++) x.step(1, n % 2, 1, 0);
        CHECKS.due("eight", x.walked(1, -1, 0), 8);
        CHECKS.due("the ninth came to the outermost", x.walked(1, 7, 0), 99);
        CHECKS.due("the eighth and the tenth", x.walked(1, 7, 1), 198);
        CHECKS.due("wear", x.wear(1), 8);
        CHECKS.due("eight", x.about(3), 8);
        CHECKS.due("a full boot", x.layer(1, 0, 0, 0, 0), -1);
    }

    private static void wear() {
        MudBoot x = by("take 99;");
        x.layer(1, 1, 1, 1, 1);
        x.layer(1, 1, 1, 1, 1);
        x.step(0, 0, 0, 0);
        x.step(0, 0, 0, 0);
        x.step(0, 1, 0, 0);
        CHECKS.due("198 of red", x.walked(0, 0, 0), 198);
        CHECKS.due("wear", x.wear(0), 1);
        CHECKS.due("one", x.about(3), 1);
        CHECKS.due("99 of red, 99 of grey: half", x.far(0, 0), 500);
        CHECKS.due("walked as before", x.walked(0, 0, 0), 198);
        CHECKS.due("no steps", x.wear(1), 0);
        CHECKS.due("none", x.about(3), 0);
        CHECKS.due("others", x.wear(4), -1);
        CHECKS.due("others", x.wear(-1), -1);
    }

    private static void withoutSoil() {
        MudBoot x = new MudBoot(3, 3);
        CHECKS.due("law", Checks.tell(x, "take 5+steps;"), 0);
        x.by(0);
        x.step(0, 0, 0, 0);
        CHECKS.due("nothing", x.wear(0), 0);
        x.dig(8, 1, 0, 0, 0, 0);
        CHECKS.due("guessed soil counts", x.walked(0, 0, 0), 5);
        x.carry(0, 4);
        x.dig(4, 0, 1, 0, 0, 0);
        CHECKS.due("carried soil counts", x.walked(0, 0, 1), 5);
    }

    private static void stepEdges() {
        MudBoot x = new MudBoot(8, 8);
        for (int story = 0; story < 4; story++) {
            CHECKS.due("least of all", x.step(story, 0, 0, 0), 1);
            CHECKS.due("greatest of all", x.step(story, 63, 9, 23), 2);
        }
        int[] far = {Integer.MIN_VALUE, Integer.MAX_VALUE};
        for (int v : far) {
            CHECKS.due("others", x.step(v, 0, 0, 0), -1);
            CHECKS.due("others", x.step(0, v, 0, 0), -1);
            CHECKS.due("others", x.step(0, 0, v, 0), -1);
            CHECKS.due("others", x.step(0, 0, 0, v), -1);
            CHECKS.due("others", x.forget(v), -1);
            CHECKS.due("others", x.wear(v), -1);
            CHECKS.due("others", x.walked(v, -1, 0), -1);
            CHECKS.due("others", x.walked(0, v, 0), -1);
        }
        CHECKS.due("no cell 64", x.step(0, 64, 0, 0), -1);
        for (int story = 0; story < 4; story++) CHECKS.due("two each", x.about(10 + story), 2);
        for (int n = 3; n <= 20; n++) CHECKS.due("step " + n, x.step(2, 1, 0, 0), n);
        CHECKS.due("the 21st", x.step(2, 1, 0, 0), -1);
        CHECKS.due("20 stay", x.about(12), 20);
        CHECKS.due("the next story has room", x.step(3, 1, 0, 0), 3);
        CHECKS.due("forgotten", x.forget(2), 20);
        CHECKS.due("the others are not", x.about(13), 3);
        CHECKS.due("nor the first", x.about(10), 2);
        x.dig(0, 1, 0, 0, 0, 0);
        CHECKS.due("nothing is walked", x.walked(2, -1, 0), 0);
        CHECKS.due("of the other story all is", x.walked(3, 0, 0), 30);
    }

    private static MudBoot red(String text) {
        MudBoot x = new MudBoot(3, 3);
        x.dig(0, 1, 0, 0, 0, 0);
        CHECKS.due("law " + text, Checks.tell(x, text), 0);
        x.by(0);
        return x;
    }

    private static void walks(MudBoot x, int wet, int hour, int due) {
        x.step(0, 0, wet, hour);
        CHECKS.due("red at wet " + wet + " hour " + hour, x.walked(0, -1, 0) < 1 ? 0 : x.walked(0, 0, 0), due);
    }

    private static void hundredths() {
        MudBoot x = red("take wet*11; lose hour;");
        walks(x, 9, 0, 99);
        walks(x, 0, 1, 99);
        walks(x, 9, 0, 198);
        walks(x, 0, 1, 197);
        x = red("take wet*11; lose hour*5-1;");
        walks(x, 9, 0, 99);
        walks(x, 9, 0, 198);
        walks(x, 0, 0, 198);
        walks(x, 0, 20, 2);
        walks(x, 0, 20, 1);
        walks(x, 0, 20, 1);
        CHECKS.due("one grain is on", x.walked(0, -1, 0), 1);
        walks(x, 0, 21, 0);
        CHECKS.due("104 are 100: it is gone", x.walked(0, -1, 0), 0);
        walks(x, 1, 23, 11);
        x = red("take wet*11; lose hour*9999;");
        walks(x, 9, 0, 99);
        walks(x, 9, 23, 99);
        walks(x, 0, 1, 0);
        x = red("take wet*11; lose hour*-9999;");
        walks(x, 9, 0, 99);
        walks(x, 9, 23, 198);
    }

    private static void threeLayers() {
        MudBoot x = red("take 80; lose hour*10; new far>0;");
        x.dig(0, 1, 1, 1, 1, 1);
        x.dig(1, 0, 0, 0, 1, 2);
        x.dig(2, 3, 1, 0, 0, 0);
        x.step(0, 0, 0, 0);
        x.step(0, 1, 0, 0);
        x.step(0, 2, 0, 0);
        x.step(0, 2, 0, 3);
        x.step(0, 2, 0, 0);
        int[][] due = {{12, 12, 12, 12, 12}, {0, 0, 0, 19, 38}, {162, 54, 0, 0, 0}};
        CHECKS.due("three", x.walked(0, -1, 0), 3);
        for (int i = 0; i < 15; i++) CHECKS.due("layer " + i / 5 + " sort " + i % 5, x.walked(0, i / 5, i % 5), due[i / 5][i % 5]);
        CHECKS.due("wear", x.wear(0), 3);
        CHECKS.due("the inner ones are below 99", x.far(0, 0), 0);
        CHECKS.due("and this", x.far(1, 1), 0);
        CHECKS.due("99 and 54", x.far(2, 2), 102);
        CHECKS.due("walked stays above", x.walked(0, 2, 0), 162);
    }

    private static void eightLayers() {
        MudBoot x = red("take 50; lose hour*10; new 1=1;");
        x.dig(0, 1, 1, 1, 1, 1);
        for (int n = 0; n < 8; n++) x.step(0, 0, 0, 0);
        CHECKS.due("eight", x.walked(0, -1, 0), 8);
        x.step(0, 0, 0, 5);
        CHECKS.due("still eight", x.walked(0, -1, 0), 8);
        for (int i = 0; i < 40; i++) CHECKS.due("half of each", x.walked(0, i / 5, i % 5), i < 35 ? 5 : 15);
        CHECKS.due("no layer 8", x.walked(0, 8, 0), -1);
        MudBoot y = red("take 10+layers; new 1=1;");
        for (int n = 0; n < 9; n++) y.step(0, 0, 0, 0);
        for (int n = 0; n < 7; n++) CHECKS.due("taken with " + n + " on", y.walked(0, n, 0), 10 + n);
        CHECKS.due("17 and 18", y.walked(0, 7, 0), 35);
        MudBoot z = red("take 10; new 1=1; falls hour=1;");
        for (int n = 0; n < 8; n++) z.step(0, 0, 0, 0);
        z.step(0, 0, 0, 1);
        CHECKS.due("one fell, one came", z.walked(0, -1, 0), 8);
        CHECKS.due("the new one", z.walked(0, 7, 0), 10);
    }

    private static void wordEdges() {
        CHECKS.due("wet and hour at most", taken("wet*hour/3", 9, 23), 69);
        CHECKS.due("wet and hour at least", taken("wet+hour+1", 0, 0), 1);
        CHECKS.due("cut towards 0", taken("7/-2+10", 0, 0), 7);
        CHECKS.due("cut towards 0", taken("-7/2+10", 0, 0), 7);
        CHECKS.due("cut towards 0", taken("-7/-2+10", 0, 0), 13);
        CHECKS.due("less than one", taken("-1/9999+10", 0, 0), 10);
        CHECKS.due("0 by 0", taken("0/0+1", 0, 0), 1);
        CHECKS.due("below 0 by 0", taken("-5/0+1", 0, 0), 1);
        CHECKS.due("by 0 in a product", taken("5/0*7+1", 0, 0), 1);
        CHECKS.due("just below 1000000", taken("9999*100+99-9999*100-9", 0, 0), 90);
        CHECKS.due("1000000", taken("9999*100+100-9999*100-9", 0, 0), 91);
        CHECKS.due("1000001 is 1000000", taken("9999*100+101-9999*100-9", 0, 0), 91);
        CHECKS.due("-1000000", taken("-9999*100-100+9999*100+191", 0, 0), 91);
        CHECKS.due("-1000001 is -1000000", taken("-9999*100-101+9999*100+191", 0, 0), 91);
        CHECKS.due("a product above", taken("1001*1000-9999*100-9", 0, 0), 91);
        CHECKS.due("a product below", taken("1001*-1000+9999*100+191", 0, 0), 91);
        CHECKS.due("products of the greatest", taken("9999*9999*9999*9999*0+5", 0, 0), 5);
        CHECKS.due("minus of the least", taken("-(-9999*9999)-9999*100-9", 0, 0), 91);
        MudBoot x = red("take mass/2+10;");
        x.dig(0, 1, 1, 0, 0, 0);
        int[] due = {5, 12, 23};
        for (int n = 0; n < 3; n++) walks(x, 0, 0, due[n]);
        CHECKS.due("and so of grey", x.walked(0, 0, 1), 23);
        x = red("take steps; lose 100;");
        for (int n = 0; n < 20; n++) walks(x, 0, 0, n);
        x = red("take far/20+5; new hour=1;");
        walks(x, 0, 0, 55);
        walks(x, 0, 0, 60);
        x.dig(8, 0, 1, 0, 0, 0);
        x.step(0, 8, 0, 1);
        CHECKS.due("far of the outermost: 1000", x.walked(0, 1, 1), 55);
        x.step(0, 4, 0, 0);
        CHECKS.due("half and half: 500", x.walked(0, 1, 1), 70);
        CHECKS.due("30 of both together", x.walked(0, 1, 0), 15);
    }

    private static void grains() {
        MudBoot x = red("take wet; new 1=1;");
        walks(x, 0, 0, 0);
        CHECKS.due("nothing is no layer", x.walked(0, -1, 0), 0);
        walks(x, 1, 0, 1);
        CHECKS.due("one grain is a layer", x.walked(0, -1, 0), 1);
        x.step(0, 0, 0, 0);
        CHECKS.due("nothing is no other layer", x.walked(0, -1, 0), 1);
        x.step(0, 0, 1, 0);
        CHECKS.due("one grain is another layer", x.walked(0, -1, 0), 2);
        MudBoot y = red("take wet;");
        y.dig(0, 1, 1, 1, 1, 1);
        y.step(0, 0, 4, 0);
        CHECKS.due("4 of five sorts are cut to nothing", y.walked(0, -1, 0), 0);
        y.step(0, 0, 5, 0);
        CHECKS.due("5 are one each", y.walked(0, 0, 4), 1);
        y.step(0, 0, 9, 0);
        CHECKS.due("and so are 9", y.walked(0, 0, 4), 2);
        MudBoot z = red("take 99;");
        for (int n = 1; n <= 12; n++) walks(z, 0, 0, Math.min(999, 99 * n));
        z.dig(8, 0, 1, 0, 0, 0);
        z.step(0, 8, 0, 0);
        CHECKS.due("another sort has its own 999", z.walked(0, 0, 1), 99);
        CHECKS.due("red stays", z.walked(0, 0, 0), 999);
        MudBoot w = red("take 7; falls layers>0;");
        walks(w, 0, 0, 7);
        walks(w, 0, 0, 7);
        CHECKS.due("fell, and one came without a new clause", w.walked(0, -1, 0), 1);
    }

    public static void main(String[] args) {
        step();
        walked();
        sums();
        asks();
        loses();
        gone();
        inner();
        falls();
        wordsOnTheWay();
        shares();
        limits();
        wear();
        withoutSoil();
        stepEdges();
        hundredths();
        threeLayers();
        eightLayers();
        wordEdges();
        grains();
        CHECKS.finish("StoryTest");
    }
}
