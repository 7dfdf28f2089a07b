/** Promises 37 to 39: image, back, about. */
public final class ImageTest {
    private static final Checks CHECKS = new Checks();

    private static void tellAll(MudBoot x) {
        x.dig(0, 1, 0, 0, 0, 0);
        x.dig(8, 0, 1, 0, 0, 0);
        x.carry(4, 8);
        x.bar(1, true);
        x.layer(1, 0, 0, 0, 0);
        x.layer(0, 1, 0, 0, 0);
        x.rules(100, 20, 1, 30, 40);
        x.start(3);
        x.flowers(0, 2, 3);
        x.flowers(1, 4, 5);
        x.by(Checks.tell(x, "take 3;"));
        x.step(0, 0, 1, 2);
        x.step(3, 8, 1, 2);
        x.verdict(0, 0, 0, true, true);
        x.verdict(0, 0, 0, false, false);
    }

    private static void otherwise(MudBoot x) {
        x.dig(2, 0, 0, 0, 0, 3);
        x.dig(0, 0, 0, 0, 0, 3);
        x.carry(4, 0);
        x.carry(5, 0);
        x.bar(1, false);
        x.bar(3, true);
        x.clean();
        x.layer(0, 0, 0, 0, 1);
        x.rules(1, 2, 3, 4, 5);
        x.start(6);
        x.flowers(0, 7, 7);
        x.flowers(1, -1, 0);
        x.by(Checks.tell(x, "take 99;"));
        x.forget(0);
        x.step(3, 0, 0, 0);
        x.verdict(0, 0, 0, false, true);
    }

    private static void same(String at, MudBoot x) {
        CHECKS.due(at + " dug", x.about(2), 2);
        CHECKS.due(at + " layers", x.about(3), 2);
        CHECKS.due(at + " laws", x.about(4), 1);
        CHECKS.due(at + " the law", x.about(5), 0);
        CHECKS.due(at + " verdicts", x.about(6), 2);
        CHECKS.due(at + " start", x.about(7), 3);
        CHECKS.due(at + " steps of 0", x.about(10), 1);
        CHECKS.due(at + " steps of 3", x.about(13), 1);
        CHECKS.due(at + " red", x.soil(0, 0), 1);
        CHECKS.due(at + " carried", x.soil(4, 1), 1);
        CHECKS.due(at + " not carried", x.soil(5, 1), 1);
        CHECKS.due(at + " barred", x.paces(1, 1), -1);
        CHECKS.due(at + " not barred", x.paces(3, 3), 0);
        CHECKS.due(at + " way", x.way(-1), 20);
        CHECKS.due(at + " months", x.months(0), 4 + 8 + 16);
        CHECKS.due(at + " other months", x.months(1), 16 + 32 + 64);
        CHECKS.due(at + " walked", x.walked(0, 0, 0), 3);
        CHECKS.due(at + " walked", x.walked(3, 0, 1), 3);
        CHECKS.due(at + " odd", x.held(1, 0), 80);
        CHECKS.due(at + " lean", x.lean(0), 1000);
    }

    private static void imageAndBack() {
        MudBoot x = new MudBoot(3, 3);
        tellAll(x);
        same("told", x);
        CHECKS.due("image", x.image(), 2);
        same("image", x);
        otherwise(x);
        CHECKS.due("back", x.back(), 2);
        same("back", x);
        otherwise(x);
        CHECKS.due("it stays", x.back(), 2);
        same("back again", x);
        CHECKS.due("the law told behind it is gone", x.by(1), false);
        CHECKS.due("another one", Checks.tell(x, "take 7;"), 1);
        x.by(1);
        CHECKS.due("walked by it", x.walked(0, 0, 0), 7);
        x.image();
        x.by(0);
        CHECKS.due("by the first", x.walked(0, 0, 0), 3);
        x.back();
        CHECKS.due("by the second", x.walked(0, 0, 0), 7);
    }

    private static void tapeAndFault() {
        MudBoot x = new MudBoot(3, 3);
        Checks.tell(x, "take 10000;");
        x.feed(1, 2, 3, 4, 5);
        x.image();
        x.feed(1, 2, 3, 4, 5);
        CHECKS.due("back", x.back(), 0);
        CHECKS.due("the tape is as it was", x.about(8), 40);
        CHECKS.due("law", Checks.tell(x, "wet"), -1);
        x.back();
        CHECKS.due("the fault is the latest", x.fault(0), 1);
        CHECKS.due("its place", x.fault(1), 0);
        CHECKS.due("the tape is empty", x.about(8), 0);
        MudBoot y = new MudBoot(3, 3);
        Checks.tell(y, "take 1;");
        y.back();
        CHECKS.due("a text was read all the same", y.fault(0), 0);
        CHECKS.due("its law is gone", y.about(4), 0);
        for (int n = 0; n < 4; n++) CHECKS.due("four anew", Checks.tell(y, "take 1;"), n);
        CHECKS.due("the fifth", Checks.tell(y, "take 1;"), -1);
        y.back();
        CHECKS.due("the tape stayed", y.law(), 0);
    }

    private static void about() {
        MudBoot x = new MudBoot(4, 5);
        for (int story = 0; story < 4; story++) {
            for (int n = 0; n <= story; n++) x.step(story, 0, 0, 0);
            CHECKS.due("steps of " + story, x.about(10 + story), story + 1);
        }
        CHECKS.due("A", x.about(0), 4);
        CHECKS.due("B", x.about(1), 5);
        int[] others = {-1, 9, 14, 100, Integer.MIN_VALUE, Integer.MAX_VALUE};
        for (int what : others) CHECKS.due("others " + what, x.about(what), -1);
    }

    public static void main(String[] args) {
        imageAndBack();
        tapeAndFault();
        about();
        CHECKS.finish("ImageTest");
    }
}
