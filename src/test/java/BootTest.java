/** Promises 7 to 13: layer, clean, rules, far, where, odds, parted. */
public final class BootTest {
    private static final Checks CHECKS = new Checks();

    private static void layer() {
        MudBoot x = new MudBoot(3, 3);
        CHECKS.due("nothing together", x.layer(0, 0, 0, 0, 0), -1);
        for (int sort = 0; sort < 5; sort++) {
            int[] v = {1, 1, 1, 1, 1};
            v[sort] = 100;
            CHECKS.due("100 of " + sort, x.layer(v[0], v[1], v[2], v[3], v[4]), -1);
            v[sort] = -1;
            CHECKS.due("-1 of " + sort, x.layer(v[0], v[1], v[2], v[3], v[4]), -1);
        }
        for (int n = 0; n < 8; n++) CHECKS.due("layer " + n, x.layer(99, 99, 99, 99, 99), n);
        CHECKS.due("the ninth", x.layer(1, 0, 0, 0, 0), -1);
        CHECKS.due("eight are there", x.about(3), 8);
        CHECKS.due("clean", x.clean(), 8);
        CHECKS.due("clean again", x.clean(), 0);
        CHECKS.due("from 0 on again", x.layer(0, 0, 0, 0, 1), 0);
        x.dig(0, 0, 0, 0, 0, 5);
        CHECKS.due("of wing alone", x.far(0, 0), 0);
    }

    private static void rules() {
        MudBoot x = new MudBoot(3, 3);
        int[] least = {0, 0, 0, 0, 0};
        int[] most = {1000, 99, 11, 1000, 1000};
        CHECKS.due("all least", x.rules(0, 0, 0, 0, 0), true);
        CHECKS.due("all greatest", x.rules(1000, 99, 11, 1000, 1000), true);
        for (int i = 0; i < 5; i++) {
            int[] v = most.clone();
            v[i] = most[i] + 1;
            CHECKS.due("above " + i, x.rules(v[0], v[1], v[2], v[3], v[4]), false);
            v = least.clone();
            v[i] = -1;
            CHECKS.due("below " + i, x.rules(v[0], v[1], v[2], v[3], v[4]), false);
        }
        x.layer(1, 0, 0, 0, 0);
        x.step(0, 0, 0, 0);
        CHECKS.due("odd is as told", x.held(0, 0), 1000);
        x.dig(0, 0, 1, 0, 0, 0);
        CHECKS.due("bound is as told", x.where(0, -1), 9);
        x.flowers(0, 3, 3);
        CHECKS.due("keep is as told", x.months(0), 4095);
        x.start(8);
        CHECKS.due("pace is as told, of no paces", x.way(-1), 1000);
        x.rules(999, 0, 0, 7, 9);
        CHECKS.due("bound less", x.where(0, -1), 0);
        CHECKS.due("missing and odd", x.held(0, 0), 16);
        CHECKS.due("keep none", x.months(0), 8);
        CHECKS.due("one wrong", x.rules(1000, 0, 0, 7, -1), false);
        CHECKS.due("changes nothing", x.where(0, -1), 0);
        MudBoot y = new MudBoot(3, 3);
        y.layer(17, 3, 0, 0, 0);
        y.layer(169, 0, 0, 0, 0);
        y.layer(84, 16, 0, 0, 0);
        y.dig(0, 1, 0, 0, 0, 0);
        CHECKS.due("150 is alike at first", y.where(0, -1), 9);
        CHECKS.due("160 is not", y.where(1, -1), 0);
        CHECKS.due("odd at first", y.held(0, 0), 800);
        y.step(0, 0, 0, 0);
        y.clean();
        CHECKS.due("missing at first", y.held(0, 0), 300);
    }

    private static void far() {
        MudBoot x = new MudBoot(3, 3);
        x.layer(1, 2, 0, 0, 0);
        CHECKS.due("without soil", x.far(0, 0), -1);
        x.dig(0, 0, 0, 0, 0, 9);
        CHECKS.due("nothing in common", x.far(0, 0), 1000);
        x.dig(0, 2, 4, 0, 0, 0);
        CHECKS.due("the same shares", x.far(0, 0), 0);
        x.dig(0, 2, 0, 0, 0, 0);
        CHECKS.due("cut", x.far(0, 8), 666);
        x.dig(0, 1, 1, 1, 1, 1);
        // |5 - 3| + |10 - 3| + 3 * 3 = 18 of 30
        CHECKS.due("of five sorts", x.far(0, 0), 600);
        CHECKS.due("no such layer", x.far(1, 0), -1);
        CHECKS.due("no such layer", x.far(-1, 0), -1);
        CHECKS.due("no such cell", x.far(0, 9), -1);
        CHECKS.due("no such cell", x.far(0, -1), -1);
        x.layer(99, 99, 99, 99, 99);
        CHECKS.due("big amounts", x.far(1, 0), 0);
    }

    private static void where() {
        MudBoot x = new MudBoot(3, 3);
        x.layer(1, 0, 0, 0, 0);
        CHECKS.due("without soil", x.where(0, -1), 0);
        CHECKS.due("none such", x.where(0, 0), -1);
        x.dig(0, 1, 0, 0, 0, 0);
        x.dig(8, 0, 1, 0, 0, 0);
        x.bar(1, true);
        CHECKS.due("how many, barred ones too", x.where(0, -1), 3);
        CHECKS.due("first", x.where(0, 0), 0);
        CHECKS.due("second", x.where(0, 1), 1);
        CHECKS.due("third", x.where(0, 2), 3);
        CHECKS.due("none such", x.where(0, 3), -1);
        CHECKS.due("others", x.where(0, -2), -1);
        CHECKS.due("no such layer", x.where(1, -1), -1);
        CHECKS.due("no such layer", x.where(-1, -1), -1);
        x.rules(499, 0, 0, 0, 0);
        CHECKS.due("500 is above 499", x.where(0, -1), 3);
        x.rules(500, 0, 0, 0, 0);
        CHECKS.due("500 is 500 or less", x.where(0, -1), 6);
        MudBoot y = new MudBoot(8, 8);
        y.dig(0, 1, 0, 0, 0, 0);
        y.layer(1, 0, 0, 0, 0);
        CHECKS.due("all 64", y.where(0, -1), 64);
        CHECKS.due("the last", y.where(0, 63), 63);
    }

    private static void odds() {
        MudBoot x = new MudBoot(3, 3);
        x.layer(4, 1, 0, 0, 0);
        CHECKS.due("without soil none is alike", x.odds(0, 0), 0);
        x.dig(0, 4, 1, 0, 0, 0);
        x.dig(1, 9, 1, 0, 0, 0);
        CHECKS.due("wrong digs do nothing", x.dig(2, 10, 0, 0, 0, 0), -1);
        x.dig(2, 0, 0, 1, 0, 0);
        x.dig(3, 0, 0, 1, 0, 0);
        x.dig(4, 0, 0, 1, 0, 0);
        x.dig(5, 0, 0, 1, 0, 0);
        x.dig(6, 0, 0, 1, 0, 0);
        x.dig(7, 0, 0, 1, 0, 0);
        x.dig(8, 0, 0, 1, 0, 0);
        // 151 and 51 of 202
        CHECKS.due("far of the second", x.far(0, 1), 100);
        CHECKS.due("first", x.odds(0, 0), 747);
        CHECKS.due("second", x.odds(0, 1), 252);
        CHECKS.due("not alike", x.odds(0, 2), 0);
        x.rules(100, 0, 0, 0, 0);
        CHECKS.due("101 of 102", x.odds(0, 0), 990);
        CHECKS.due("1 of 102", x.odds(0, 1), 9);
        x.rules(0, 0, 0, 0, 0);
        CHECKS.due("alone", x.odds(0, 0), 1000);
        CHECKS.due("no such layer", x.odds(1, 0), -1);
        CHECKS.due("no such layer", x.odds(-1, 0), -1);
        CHECKS.due("no such cell", x.odds(0, 9), -1);
        CHECKS.due("no such cell", x.odds(0, -1), -1);
    }

    private static void parted() {
        MudBoot x = new MudBoot(3, 3);
        x.layer(7, 3, 0, 0, 0);
        for (int what = 0; what < 4; what++) CHECKS.due("no soil", x.parted(0, what), -1);
        x.dig(0, 1, 0, 0, 0, 0);
        x.dig(8, 0, 9, 0, 0, 0);
        // Cells 0, 1, 3 are red, 2, 4, 6 are 1 red with 9 grey, 5, 7, 8 grey: shares count, not amounts.
        CHECKS.due("far", x.parted(0, 0), 0);
        CHECKS.due("a", x.parted(0, 1), 0);
        CHECKS.due("b", x.parted(0, 2), 5);
        CHECKS.due("seven tenths of a", x.parted(0, 3), 7);
        x.clean();
        x.layer(1, 0, 0, 0, 0);
        CHECKS.due("two of the same", x.parted(0, 0), 0);
        CHECKS.due("least a", x.parted(0, 1), 0);
        CHECKS.due("then b", x.parted(0, 2), 1);
        CHECKS.due("then k", x.parted(0, 3), 1);
        x.clean();
        x.layer(0, 0, 1, 0, 0);
        CHECKS.due("never alike", x.parted(0, 0), 1000);
        CHECKS.due("least a of all", x.parted(0, 1), 0);
        CHECKS.due("least b of all", x.parted(0, 2), 1);
        CHECKS.due("least k of all", x.parted(0, 3), 1);
        CHECKS.due("no such what", x.parted(0, 4), -1);
        CHECKS.due("no such what", x.parted(0, -1), -1);
        CHECKS.due("no such layer", x.parted(1, 0), -1);
        CHECKS.due("no such layer", x.parted(-1, 0), -1);
        x.bar(0, true);
        CHECKS.due("bars do not matter", x.parted(0, 1), 0);
        x.clean();
        x.layer(1, 9, 0, 0, 0);
        CHECKS.due("a guess stands alone", x.parted(0, 0), 0);
        CHECKS.due("0 and 5", x.parted(0, 1), 0);
        CHECKS.due("a tenth", x.parted(0, 2), 5);
        CHECKS.due("of 0", x.parted(0, 3), 1);
    }

    private static void layerEdges() {
        MudBoot x = new MudBoot(3, 3);
        x.dig(0, 1, 1, 1, 1, 1);
        for (int sort = 0; sort < 5; sort++) {
            x.clean();
            int[] v = new int[5];
            v[sort] = 1;
            CHECKS.due("1 together of " + sort, x.layer(v[0], v[1], v[2], v[3], v[4]), 0);
            CHECKS.due("far of it", x.far(0, 0), 800);
            v[sort] = 99;
            CHECKS.due("99 of " + sort, x.layer(v[0], v[1], v[2], v[3], v[4]), 1);
            CHECKS.due("far of it", x.far(1, 0), 800);
            v[sort] = 100;
            CHECKS.due("100 of " + sort, x.layer(v[0], v[1], v[2], v[3], v[4]), -1);
            v[sort] = -1;
            CHECKS.due("-1 of " + sort, x.layer(v[0], v[1], v[2], v[3], v[4]), -1);
            v[(sort + 1) % 5] = 5;
            CHECKS.due("-1 with 5 of another", x.layer(v[0], v[1], v[2], v[3], v[4]), -1);
            CHECKS.due("refused ones are not on", x.about(3), 2);
        }
        x.clean();
        for (int n = 0; n < 8; n++) x.layer(n + 1, 0, 0, 0, 0);
        CHECKS.due("the ninth", x.layer(1, 1, 1, 1, 1), -1);
        CHECKS.due("eight stay", x.about(3), 8);
        CHECKS.due("the last is as it was", x.far(7, 0), 800);
        CHECKS.due("no layer 8", x.far(8, 0), -1);
        CHECKS.due("cleaned", x.clean(), 8);
        CHECKS.due("no layer 0 then", x.far(0, 0), -1);
    }

    private static void refusedRules() {
        int[][] wrong = {{-1, 0, 0, 0, 0}, {1001, 0, 0, 0, 0}, {0, -1, 0, 0, 0}, {0, 100, 0, 0, 0}, {0, 0, -1, 0, 0},
            {0, 0, 12, 0, 0}, {0, 0, 0, -1, 0}, {0, 0, 0, 1001, 0}, {0, 0, 0, 0, -1}, {0, 0, 0, 0, 1001},
            {Integer.MIN_VALUE, 0, 0, 0, 0}, {0, 0, 0, 0, Integer.MAX_VALUE}};
        for (int[] w : wrong) {
            MudBoot x = new MudBoot(3, 3);
            CHECKS.due("refused", x.rules(w[0], w[1], w[2], w[3], w[4]), false);
            x.dig(0, 3, 7, 0, 0, 0);
            x.layer(9, 11, 0, 0, 0);
            CHECKS.due("far is 150: bound is 150", x.where(0, -1), 9);
            x.start(8);
            for (int cell = 1; cell < 9; cell++) x.dig(cell, 0, 0, 1, 0, 0);
            CHECKS.due("pace is 10", x.way(-1), 40 + 150);
            x.flowers(0, 5, 5);
            CHECKS.due("keep is 0", x.months(0), 32);
            CHECKS.due("odd is 400", x.held(0, 0), 400);
            x.step(0, 1, 0, 0);
            x.clean();
            CHECKS.due("missing is 300", x.held(0, 0), 300);
        }
    }

    private static void bounds() {
        MudBoot x = new MudBoot(3, 3);
        x.dig(0, 9, 9, 9, 9, 9);
        x.layer(99, 99, 99, 99, 98);
        x.layer(1, 1, 1, 1, 1);
        x.layer(1, 0, 0, 0, 0);
        CHECKS.due("72 of 44460, cut", x.far(0, 0), 1);
        x.rules(0, 10, 0, 300, 400);
        CHECKS.due("1 is above 0", x.where(0, -1), 0);
        CHECKS.due("0 is 0", x.where(1, -1), 9);
        CHECKS.due("a ninth of all, cut", x.odds(1, 8), 111);
        x.rules(1, 10, 0, 300, 400);
        CHECKS.due("1 is 1", x.where(0, -1), 9);
        x.rules(799, 10, 0, 300, 400);
        CHECKS.due("800 is above 799", x.where(2, -1), 0);
        CHECKS.due("no odds", x.odds(2, 0), 0);
        x.rules(800, 10, 0, 300, 400);
        CHECKS.due("800 is 800", x.where(2, -1), 9);
        CHECKS.due("odds of 1 in 9", x.odds(2, 0), 111);
        x.dig(8, 0, 1, 0, 0, 0);
        x.rules(1000, 10, 0, 300, 400);
        CHECKS.due("1000 is 1000", x.where(2, -1), 9);
        CHECKS.due("the last of all", x.where(2, 8), 8);
        CHECKS.due("none behind it", x.where(2, 9), -1);
        CHECKS.due("none so far behind", x.where(2, Integer.MAX_VALUE), -1);
        CHECKS.due("none so far ahead", x.where(2, Integer.MIN_VALUE), -1);
        MudBoot y = new MudBoot(8, 8);
        y.dig(0, 1, 0, 0, 0, 0);
        y.layer(1, 0, 0, 0, 0);
        CHECKS.due("none behind 63", y.where(0, 64), -1);
        CHECKS.due("odds of 64", y.odds(0, 63), 15);
        CHECKS.due("no cell 64", y.odds(0, 64), -1);
        CHECKS.due("far of 63", y.far(0, 63), 0);
        CHECKS.due("no cell 64", y.far(0, 64), -1);
    }

    /** A land all of grey where nothing else is dug behind it. */
    private static MudBoot grey(int wide, int high) {
        MudBoot x = new MudBoot(wide, high);
        for (int cell = 0; cell < wide * high; cell++) x.dig(cell, 0, 1, 0, 0, 0);
        return x;
    }

    private static void parts(String call, MudBoot x, int layer, int far, int a, int b, int tenths) {
        CHECKS.due(call + ": far", x.parted(layer, 0), far);
        CHECKS.due(call + ": a", x.parted(layer, 1), a);
        CHECKS.due(call + ": b", x.parted(layer, 2), b);
        CHECKS.due(call + ": tenths", x.parted(layer, 3), tenths);
    }

    private static void tenths() {
        MudBoot x = grey(3, 3);
        x.dig(0, 5, 0, 0, 0, 0);
        x.layer(1, 0, 0, 0, 0);
        parts("nine tenths of a at most", x, 0, 100, 0, 1, 9);
        x = grey(3, 3);
        x.dig(8, 5, 0, 0, 0, 0);
        x.layer(1, 0, 0, 0, 0);
        parts("one tenth of a at least", x, 0, 100, 0, 8, 1);
        x.layer(0, 7, 0, 0, 0);
        parts("of like ones the least of all", x, 1, 0, 0, 1, 1);
        x.layer(19, 1, 0, 0, 0);
        parts("50 beyond the last tenth", x, 2, 50, 0, 8, 1);
        x.layer(17, 3, 0, 0, 0);
        parts("between two tenths, the least", x, 3, 50, 0, 8, 1);
        x = grey(3, 3);
        x.dig(3, 2, 0, 0, 0, 0);
        x.dig(5, 0, 0, 3, 0, 0);
        x.layer(7, 0, 3, 0, 0);
        parts("neither the first nor the last", x, 0, 0, 3, 5, 7);
        x.layer(1, 1, 0, 0, 0);
        parts("half grey", x, 1, 0, 0, 3, 5);
        x.layer(0, 1, 9, 0, 0);
        parts("a tenth grey", x, 2, 0, 0, 5, 1);
        x.layer(0, 0, 9, 0, 1);
        parts("wing is nowhere", x, 3, 100, 0, 5, 1);
    }

    private static void unlikeInAll() {
        MudBoot x = new MudBoot(3, 3);
        for (int cell = 0; cell < 9; cell++) x.dig(cell, 0, 0, 9, 0, 0);
        x.dig(0, 1, 1, 1, 1, 1);
        x.dig(1, 9, 0, 0, 0, 0);
        x.dig(2, 0, 9, 0, 0, 0);
        x.layer(1, 1, 0, 0, 0);
        parts("amounts of one and none", x, 0, 0, 1, 2, 5);
        x.layer(1, 0, 4, 0, 0);
        parts("a fifth of red", x, 1, 0, 1, 3, 2);
        x.dig(0, 1, 0, 0, 0, 1);
        x.dig(1, 0, 1, 0, 0, 0);
        x.dig(2, 1, 0, 9, 0, 0);
        x.dig(3, 0, 0, 0, 9, 0);
        x.layer(1, 0, 9, 10, 0);
        parts("amounts of a row and of its neighbour", x, 2, 0, 2, 3, 5);
    }

    private static void partedEdges() {
        MudBoot x = grey(8, 8);
        x.layer(1, 1, 0, 0, 0);
        x.dig(63, 1, 0, 0, 0, 0);
        parts("with the last cell", x, 0, 0, 0, 63, 5);
        x.dig(62, 0, 0, 0, 0, 9);
        x.layer(1, 0, 0, 0, 1);
        parts("the last two", x, 1, 0, 62, 63, 5);
        MudBoot y = new MudBoot(8, 8);
        int[] ring = {3, 10, 12, 17, 21, 24, 30, 33, 37, 42, 44, 51};
        for (int cell : ring) y.dig(cell, 9, 9, 9, 9, 9);
        y.layer(99, 99, 99, 99, 99);
        parts("big amounts", y, 0, 0, 0, 1, 1);
        y.layer(99, 0, 0, 0, 0);
        parts("and far ones", y, 1, 800, 0, 1, 1);
        MudBoot z = new MudBoot(3, 3);
        z.layer(1, 0, 0, 0, 0);
        z.carry(1, 2);
        CHECKS.due("no soil, though carried", z.parted(0, 0), -1);
        z.dig(4, 1, 0, 0, 0, 0);
        parts("one is dug, all have soil", z, 0, 0, 0, 1, 1);
        CHECKS.due("others", z.parted(0, Integer.MAX_VALUE), -1);
        CHECKS.due("others", z.parted(0, Integer.MIN_VALUE), -1);
        CHECKS.due("no layer 8", z.parted(8, 0), -1);
    }

    public static void main(String[] args) {
        layer();
        rules();
        far();
        where();
        odds();
        parted();
        layerEdges();
        refusedRules();
        bounds();
        tenths();
        unlikeInAll();
        partedEdges();
        CHECKS.finish("BootTest");
    }
}
