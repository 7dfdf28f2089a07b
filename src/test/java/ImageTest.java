/** Promises 37 to 39: image, back, about. */
public final class ImageTest {
    private static final Checks CHECKS = new Checks();

    private static void tellAll(MudBoot x) {
        x.dig(0, 1, 0, 0, 0, 0);
        x.dig(8, 0, 1, 0, 0, 0);
        x.carry(4, 8);
        x.bar(1, true);
        x.layer(1, 0, 0, 0, 0);
        x.layer(0, 1, 0, 0, 0);
        x.rules(100, 20, 1, 30, 40);
        x.start(3);
        x.flowers(0, 2, 3);
        x.flowers(1, 4, 5);
        x.by(Checks.tell(x, "take 3;"));
        x.step(0, 0, 1, 2);
        x.step(3, 8, 1, 2);
        x.verdict(0, 0, 0, true, true);
        x.verdict(0, 0, 0, false, false);
    }

    private static void otherwise(MudBoot x) {
        x.dig(2, 0, 0, 0, 0, 3);
        x.dig(0, 0, 0, 0, 0, 3);
        x.carry(4, 0);
        x.carry(5, 0);
        x.bar(1, false);
        x.bar(3, true);
        x.clean();
        x.layer(0, 0, 0, 0, 1);
        x.rules(1, 2, 3, 4, 5);
        x.start(6);
        x.flowers(0, 7, 7);
        x.flowers(1, -1, 0);
        x.by(Checks.tell(x, "take 99;"));
        x.forget(0);
        x.step(3, 0, 0, 0);
        x.verdict(0, 0, 0, false, true);
    }

    private static void same(String at, MudBoot x) {
        CHECKS.due(at + " dug", x.about(2), 2);
        CHECKS.due(at + " layers", x.about(3), 2);
        CHECKS.due(at + " laws", x.about(4), 1);
        CHECKS.due(at + " the law", x.about(5), 0);
        CHECKS.due(at + " verdicts", x.about(6), 2);
        CHECKS.due(at + " start", x.about(7), 3);
        CHECKS.due(at + " steps of 0", x.about(10), 1);
        CHECKS.due(at + " steps of 3", x.about(13), 1);
        CHECKS.due(at + " red", x.soil(0, 0), 1);
        CHECKS.due(at + " carried", x.soil(4, 1), 1);
        CHECKS.due(at + " not carried", x.soil(5, 1), 1);
        CHECKS.due(at + " barred", x.paces(1, 1), -1);
        CHECKS.due(at + " not barred", x.paces(3, 3), 0);
        CHECKS.due(at + " way", x.way(-1), 20);
        CHECKS.due(at + " months", x.months(0), 4 + 8 + 16);
        CHECKS.due(at + " other months", x.months(1), 16 + 32 + 64);
        CHECKS.due(at + " walked", x.walked(0, 0, 0), 3);
        CHECKS.due(at + " walked", x.walked(3, 0, 1), 3);
        CHECKS.due(at + " odd", x.held(1, 0), 80);
        CHECKS.due(at + " lean", x.lean(0), 1000);
    }

    private static void imageAndBack() {
        MudBoot x = new MudBoot(3, 3);
        tellAll(x);
        same("told", x);
        CHECKS.due("image", x.image(), 2);
        same("image", x);
        otherwise(x);
        CHECKS.due("back", x.back(), 2);
        same("back", x);
        otherwise(x);
        CHECKS.due("it stays", x.back(), 2);
        same("back again", x);
        CHECKS.due("the law told behind it is gone", x.by(1), false);
        CHECKS.due("another one", Checks.tell(x, "take 7;"), 1);
        x.by(1);
        CHECKS.due("walked by it", x.walked(0, 0, 0), 7);
        x.image();
        x.by(0);
        CHECKS.due("by the first", x.walked(0, 0, 0), 3);
        x.back();
        CHECKS.due("by the second", x.walked(0, 0, 0), 7);
    }

    private static void tapeAndFault() {
        MudBoot x = new MudBoot(3, 3);
        Checks.tell(x, "take 10000;");
        x.feed(1, 2, 3, 4, 5);
        x.image();
        x.feed(1, 2, 3, 4, 5);
        CHECKS.due("back", x.back(), 0);
        CHECKS.due("the tape is as it was", x.about(8), 40);
        CHECKS.due("law", Checks.tell(x, "wet"), -1);
        x.back();
        CHECKS.due("the fault is the latest", x.fault(0), 1);
        CHECKS.due("its place", x.fault(1), 0);
        CHECKS.due("the tape is empty", x.about(8), 0);
        MudBoot y = new MudBoot(3, 3);
        Checks.tell(y, "take 1;");
        y.back();
        CHECKS.due("a text was read all the same", y.fault(0), 0);
        CHECKS.due("its law is gone", y.about(4), 0);
        for (int n = 0; n < 4; n++) CHECKS.due("four anew", Checks.tell(y, "take 1;"), n);
        CHECKS.due("the fifth", Checks.tell(y, "take 1;"), -1);
        y.back();
        CHECKS.due("the tape stayed", y.law(), 0);
    }

    private static void about() {
        MudBoot x = new MudBoot(4, 5);
        for (int story = 0; story < 4; story++) {
            for (int n = 0; n <= story; n++) x.step(story, 0, 0, 0);
            CHECKS.due("steps of " + story, x.about(10 + story), story + 1);
        }
        CHECKS.due("A", x.about(0), 4);
        CHECKS.due("B", x.about(1), 5);
        int[] others = {-1, 9, 14, 100, Integer.MIN_VALUE, Integer.MAX_VALUE};
        for (int what : others) CHECKS.due("others " + what, x.about(what), -1);
    }

    private static void backToTheNewObject() {
        MudBoot x = new MudBoot(3, 3);
        tellAll(x);
        x.bar(0, true);
        x.carry(7, 6);
        x.feed(0, 0, 0, 0, 0);
        CHECKS.due("back", x.back(), 0);
        for (int what = 2; what < 8; what++) CHECKS.due("as new: " + what, x.about(what), what == 5 ? -1 : 0);
        for (int what = 10; what < 14; what++) CHECKS.due("as new: " + what, x.about(what), 0);
        CHECKS.due("the tape is as it was", x.about(8), 20);
        CHECKS.due("the fault is as it was", x.fault(0), 0);
        for (int cell = 0; cell < 9; cell++) {
            CHECKS.due("no soil", x.soil(cell, -1), -1);
            CHECKS.due("not barred", x.paces(cell, cell), 0);
        }
        CHECKS.due("no layer", x.months(0), -1);
        CHECKS.due("no lean", x.lean(0), -2000);
        CHECKS.due("no law", x.by(0), false);
        CHECKS.due("17 is too many", x.dig(8, 3, 17, 0, 0, 0), -1);
        CHECKS.due("dug anew", x.dig(8, 3, 7, 0, 0, 0), 1);
        CHECKS.due("guessed again, not dug, not carried", x.soil(0, 1) + x.soil(4, 1) + x.soil(7, 1), 21);
        x.layer(9, 11, 0, 0, 0);
        x.flowers(2, 3, 3);
        CHECKS.due("bound is 150", x.where(0, -1), 9);
        CHECKS.due("pace is 10, none is dear", x.way(-1), 150);
        CHECKS.due("start is 0", x.way(0), 0);
        CHECKS.due("no flowers", x.months(0), 4095);
        x.layer(0, 0, 1, 0, 0);
        CHECKS.due("keep is 0", x.months(1), 8);
        CHECKS.due("odd is 400", x.held(0, 0), 800);
        x.clean();
        x.step(0, 8, 0, 0);
        CHECKS.due("missing is 300", x.held(0, 0), 300);
        CHECKS.due("takes 10", x.walked(0, 0, 1), 7);
    }

    /** All cells and layers there can be, each kept and brought back. */
    private static void wholeLand() {
        MudBoot x = new MudBoot(8, 8);
        for (int cell = 0; cell < 64; cell += 2) x.dig(cell, cell % 10, 1, 0, 0, 0);
        for (int cell = 1; cell < 64; cell += 4) x.bar(cell, true);
        for (int cell = 3; cell < 64; cell += 4) x.carry(cell, (cell + 31) % 64);
        for (int n = 0; n < 8; n++) x.layer(n, 0, 0, 1, 99 - n);
        for (int sort = 0; sort < 5; sort++) x.flowers(sort, sort, sort + 2);
        int[] soils = new int[320];
        for (int i = 0; i < 320; i++) soils[i] = x.soil(i / 5, i % 5);
        int[] fars = new int[512];
        for (int i = 0; i < 512; i++) fars[i] = x.far(i / 64, i % 64);
        CHECKS.due("32 are dug", x.image(), 32);
        for (int cell = 0; cell < 64; cell++) {
            x.dig(cell, 0, 0, 9, 0, 0);
            x.bar(cell, cell % 4 != 1);
            x.carry(cell, -1);
        }
        x.clean();
        for (int n = 0; n < 8; n++) x.layer(0, 0, 1, 0, 0);
        CHECKS.due("back", x.back(), 32);
        for (int i = 0; i < 320; i++) CHECKS.due("soil of " + i / 5, x.soil(i / 5, i % 5), soils[i]);
        for (int i = 0; i < 512; i++) CHECKS.due("far of " + i, x.far(i / 64, i % 64), fars[i]);
        for (int cell = 0; cell < 64; cell++) CHECKS.due("barred " + cell, x.paces(cell, cell), cell % 4 == 1 ? -1 : 0);
        for (int cell = 1; cell < 64; cell += 4) {
            CHECKS.due("not dug: guessed from two or three", x.soil(cell, 1) > 1, true);
            CHECKS.due("dug as one more", x.dig(cell, 1, 0, 0, 0, 0), 33 + cell / 4);
        }
        for (int n = 0; n < 8; n++) CHECKS.due("sand and wing", x.months(n), n == 0 ? 16 + 32 : 0);
        CHECKS.due("eight layers", x.about(3), 8);
    }

    private static void cellZero() {
        MudBoot x = new MudBoot(3, 3);
        x.dig(8, 1, 0, 0, 0, 0);
        x.image();
        x.dig(0, 0, 1, 0, 0, 0);
        x.bar(0, true);
        CHECKS.due("dug", x.soil(0, 1), 1);
        CHECKS.due("back", x.back(), 1);
        CHECKS.due("not dug", x.soil(0, 0), 1);
        CHECKS.due("span of what is near", x.span(0, 0, false), 1000);
        CHECKS.due("not barred", x.paces(0, 0), 0);
        x.layer(1, 0, 0, 0, 0);
        CHECKS.due("the trowel's", x.trowel(0), 0);
        x.carry(0, 8);
        x.back();
        x.layer(1, 0, 0, 0, 0);
        CHECKS.due("not carried to", x.trowel(0), 0);
        x.dig(0, 0, 5, 0, 0, 0);
        x.bar(0, true);
        CHECKS.due("a new image", x.image(), 2);
        x.bar(0, false);
        x.dig(0, 7, 0, 0, 0, 0);
        CHECKS.due("back", x.back(), 2);
        CHECKS.due("dug", x.soil(0, 1), 5);
        CHECKS.due("barred", x.paces(0, 0), -1);
    }

    private static void stories() {
        MudBoot x = new MudBoot(3, 3);
        x.by(Checks.tell(x, "take wet*10; new hour=1;"));
        for (int cell = 0; cell < 5; cell++) {
            x.dig(cell, cell == 0 ? 1 : 0, cell == 1 ? 1 : 0, cell == 2 ? 1 : 0, cell == 3 ? 1 : 0, cell == 4 ? 1 : 0);
        }
        for (int i = 0; i < 80; i++) x.step(i / 20, i / 20, i % 20 == 19 ? 9 : 0, 1);
        x.image();
        for (int story = 0; story < 4; story++) x.forget(story);
        for (int i = 0; i < 80; i++) x.step(i / 20, 4, 1, 0);
        CHECKS.due("other steps", x.walked(3, 0, 4), 200);
        x.back();
        for (int story = 0; story < 4; story++) {
            CHECKS.due("steps", x.about(10 + story), 20);
            CHECKS.due("the last step alone takes", x.walked(story, -1, 0), 1);
            CHECKS.due("at its cell", x.walked(story, 0, story), 90);
        }
        CHECKS.due("20 are there", x.step(0, 0, 0, 0), -1);
        x.forget(0);
        CHECKS.due("forgotten", x.walked(0, -1, 0), 0);
        x.back();
        CHECKS.due("and back", x.walked(0, 0, 0), 90);
    }

    private static void verdicts() {
        MudBoot x = new MudBoot(3, 3);
        x.verdict(0, 0, 0, true, true);
        x.verdict(0, 0, 0, true, false);
        x.verdict(1, 0, 0, true, true);
        x.image();
        x.verdict(1, 0, 0, false, false);
        CHECKS.due("1000 less 0", x.lean(1), 1000);
        CHECKS.due("half", x.agree(0, 1), 500);
        x.back();
        CHECKS.due("no verdicts of both kinds", x.lean(1), -2000);
        CHECKS.due("the same", x.agree(0, 1), 1000);
        CHECKS.due("three", x.about(6), 3);
        x.verdict(1, 0, 0, true, false);
        CHECKS.due("1000 less 1000", x.lean(1), 0);
        for (int n = 5; n <= 60; n++) CHECKS.due("verdict", x.verdict(2, 1, 1, true, true), n);
        x.image();
        CHECKS.due("the 61st", x.verdict(2, 1, 1, true, true), -1);
        x.back();
        CHECKS.due("60", x.about(6), 60);
    }

    public static void main(String[] args) {
        imageAndBack();
        tapeAndFault();
        about();
        backToTheNewObject();
        wholeLand();
        cellZero();
        stories();
        verdicts();
        CHECKS.finish("ImageTest");
    }
}
