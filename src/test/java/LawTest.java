/** Promises 23 to 27: feed, end, law, fault, by. */
public final class LawTest {
    private static final Checks CHECKS = new Checks();

    private static void tape() {
        MudBoot x = new MudBoot(3, 3);
        CHECKS.due("end of an empty tape", x.end(0), 0);
        CHECKS.due("not so many", x.end(1), -1);
        for (int n = 1; n <= 15; n++) CHECKS.due("feed", x.feed(1, 2, 3, 4, 5), 20 * n);
        CHECKS.due("more than 300", x.feed(1, 2, 3, 4, 5), -1);
        CHECKS.due("none came", x.about(8), 300);
        CHECKS.due("not so many", x.end(301), -1);
        CHECKS.due("below 0", x.end(-1), -1);
        CHECKS.due("nothing is done", x.about(8), 300);
        CHECKS.due("as many", x.end(300), 300);
        CHECKS.due("fewer", x.end(281), 281);
        CHECKS.due("301 would be too many", x.feed(0, 0, 0, 0, 0), -1);
        CHECKS.due("fewer", x.end(280), 280);
        CHECKS.due("300 are not", x.feed(0, 0, 0, 0, 0), 300);
        x.end(0);
        x.feed(0x20200A20, 0x0A0A2074, 0x616B6500, 0, 0);
        CHECKS.due("law", x.law(), -1);
        CHECKS.due("fault", x.fault(0), 1);
        CHECKS.due("the highest of a first", x.fault(1), 11);
        x.feed(-1, 0, 0, 0, 0);
        x.end(3);
        CHECKS.due("law of 255", x.law(), -1);
        CHECKS.due("place", x.fault(1), 0);
    }

    private static void law() {
        MudBoot x = new MudBoot(3, 3);
        CHECKS.due("ahead of any", x.fault(0), -1);
        CHECKS.due("ahead of any", x.fault(1), -1);
        CHECKS.due("no clauses are a law", x.law(), 0);
        CHECKS.due("without a fault", x.fault(0), 0);
        CHECKS.due("without a place", x.fault(1), -1);
        CHECKS.due("others", x.fault(2), -1);
        CHECKS.due("others", x.fault(-1), -1);
        CHECKS.due("a fault", Checks.tell(x, "take"), -1);
        CHECKS.due("latest", x.fault(0), 1);
        CHECKS.due("place", x.fault(1), 4);
        CHECKS.due("the tape is empty", x.about(8), 0);
        CHECKS.due("second", Checks.tell(x, "take 5;"), 1);
        CHECKS.due("the tape is empty", x.about(8), 0);
        CHECKS.due("without", x.fault(0), 0);
        CHECKS.due("by the third", x.by(2), false);
        CHECKS.due("third", Checks.tell(x, "lose 5;"), 2);
        CHECKS.due("by the third", x.by(2), true);
        CHECKS.due("fourth", Checks.tell(x, "new wet>hour or 1=1;"), 3);
        CHECKS.due("a fault, four are there", Checks.tell(x, "take"), -1);
        CHECKS.due("the tape stays", x.about(8), 4);
        CHECKS.due("nothing was read", x.fault(0), 0);
        CHECKS.due("laws", x.about(4), 4);
        CHECKS.due("by", x.by(3), true);
        CHECKS.due("the law", x.about(5), 3);
        CHECKS.due("by", x.by(4), false);
        CHECKS.due("by", x.by(-2), false);
        CHECKS.due("the law", x.about(5), 3);
        CHECKS.due("by none", x.by(-1), true);
        CHECKS.due("the law", x.about(5), -1);
    }

    private static void standing() {
        CHECKS.fault("", 0, -1);
        CHECKS.fault(" \n ", 0, -1);
        CHECKS.fault("take 1;lose 2;new 1<2;falls 1<2;", 0, -1);
        CHECKS.fault("take(wet+hour)*-red/grey-chalk;lose sand+wing+layers+mass+far+steps;", 0, -1);
        CHECKS.fault("new not wet<1 and not not hour>=2 or 1<=2 and 1>2 or 1=2 or 1#2;", 0, -1);
        CHECKS.fault("take\n9999 ;", 0, -1);
        CHECKS.fault("take 000000000012;", 0, -1);
        CHECKS.fault("take 1wet;", 1, 6);
        CHECKS.fault("take 1 <;", 1, 7);
        CHECKS.fault("take 1", 1, 6);
        CHECKS.fault("take 1  ", 1, 8);
        CHECKS.fault("take;", 1, 4);
        CHECKS.fault("  Take 1;", 1, 2);
        CHECKS.fault("taken 1;", 1, 0);
        CHECKS.fault("take1;", 0, -1);
        CHECKS.fault("takez 1;", 1, 0);
        CHECKS.fault("takea 1;", 1, 0);
        CHECKS.fault("takeA 1;", 1, 0);
        CHECKS.fault("takeZ 1;", 1, 0);
        CHECKS.fault("take@1;", 1, 4);
        CHECKS.fault("take[1;", 1, 4);
        CHECKS.fault("take`1;", 1, 4);
        CHECKS.fault("take{1;", 1, 4);
        CHECKS.fault("take 1/:;", 1, 7);
        CHECKS.fault("wet;", 1, 0);
        CHECKS.fault("5;", 1, 0);
        CHECKS.fault(";", 1, 0);
        CHECKS.fault("take 1;;", 1, 7);
        CHECKS.fault("take x;", 1, 5);
        CHECKS.fault("take we t;", 1, 5);
        CHECKS.fault("take not 1<2;", 1, 5);
        CHECKS.fault("take 1<2;", 1, 6);
        CHECKS.fault("take (1;", 1, 7);
        CHECKS.fault("take 1);", 1, 6);
        CHECKS.fault("take ();", 1, 6);
        CHECKS.fault("take (1<2);", 1, 7);
        CHECKS.fault("take + 1;", 1, 5);
        CHECKS.fault("take 1*/2;", 1, 7);
        CHECKS.fault("take 1 --2;", 0, -1);
        CHECKS.fault("take 1*-2/-3;", 0, -1);
        CHECKS.fault("new 1;", 1, 5);
        CHECKS.fault("new 1<2<3;", 1, 7);
        CHECKS.fault("new 1< =2;", 1, 7);
        CHECKS.fault("new 1<>2;", 1, 6);
        CHECKS.fault("new 1==2;", 1, 6);
        CHECKS.fault("new 1=<2;", 1, 6);
        CHECKS.fault("new (1<2);", 1, 6);
        CHECKS.fault("new 1<2 or;", 1, 10);
        CHECKS.fault("new 1<2 and and;", 1, 12);
        CHECKS.fault("new 1<2 not;", 1, 8);
        CHECKS.fault("new or 1<2;", 1, 4);
        CHECKS.fault("new 1 and 2<1;", 1, 6);
        CHECKS.fault("new not;", 1, 7);
        CHECKS.fault("new 1 < not 2;", 1, 8);
        CHECKS.fault("take\t1;", 1, 4);
        CHECKS.fault("take 1; !", 1, 8);
        CHECKS.fault("take \u00e9;", 1, 5);
        CHECKS.fault("take wet hour;", 1, 9);
        CHECKS.fault("take take;", 1, 5);
    }

    private static void numbers() {
        CHECKS.fault("take 10000;", 2, 5);
        CHECKS.fault("take 1+99999999999999999999;", 2, 7);
        CHECKS.fault("new 4294967296<1;", 2, 4);
        CHECKS.fault("10000;", 1, 0);
        CHECKS.fault("take 1 10000;", 1, 7);
        CHECKS.fault("take -10000;", 2, 6);
    }

    private static void nests() {
        CHECKS.fault("take ((((((((1))))))));", 0, -1);
        CHECKS.fault("take (((((((((1)))))))));", 3, 13);
        CHECKS.fault("take --------1;", 0, -1);
        CHECKS.fault("take ---------1;", 3, 13);
        CHECKS.fault("take -(-(-(-(1))));", 0, -1);
        CHECKS.fault("take -(-(-(-(-1))));", 3, 13);
        CHECKS.fault("take -(-(-(-(1))))+-(-(-(-(1))))-(1);", 0, -1);
        CHECKS.fault("take -(-(-(-1-1)-1)-1)-(-(-(-(-1))));", 0, -1);
        CHECKS.fault("new not not not not not not not not 1<2;", 0, -1);
        CHECKS.fault("new not not not not not not not not not 1<2;", 3, 36);
        CHECKS.fault("new not not not not not not not not (1)<2;", 3, 36);
        CHECKS.fault("new not not not not not not not (1)<-2 and not -1<(2);", 0, -1);
        CHECKS.fault("new not not not not not not not 1<(-2);", 3, 35);
        CHECKS.fault("new not not not not not not not not not;", 3, 36);
        CHECKS.fault("take (((((((( );", 1, 14);
        CHECKS.fault("take (1)+(1)+(1)+(1)+(1)+(1)+(1)+(1)+(1)+(1);", 0, -1);
    }

    private static void clauses() {
        CHECKS.fault("take 1; take 2;", 4, 8);
        CHECKS.fault("lose 1; take 1; lose 2;", 4, 16);
        CHECKS.fault("take 1; take", 4, 8);
        String ten = "new 1<2;falls 1<2;new 1<2;falls 1<2;new 1<2;falls 1<2;new 1<2;falls 1<2;new 1<2;take 1;";
        CHECKS.fault(ten, 0, -1);
        CHECKS.fault(ten + "lose 1;", 5, ten.length());
        CHECKS.fault(ten + " new 1<2;", 5, ten.length() + 1);
        CHECKS.fault(ten + "take 1;", 4, ten.length());
        CHECKS.fault(ten + "wet", 1, ten.length());
    }

    private static void longest() {
        StringBuilder all = new StringBuilder("take 1");
        while (all.length() < 298) all.append("+1");
        CHECKS.fault(all + " ;", 0, -1);
        all.append("+;");
        CHECKS.fault(all.toString(), 1, 299);
        StringBuilder ones = new StringBuilder("new 1#1");
        while (ones.length() < 294) ones.append("or 0#1");
        CHECKS.fault(ones + ";", 0, -1);
        CHECKS.fault(";".repeat(300), 1, 0);
        CHECKS.fault(" ".repeat(299) + "!", 1, 299);
        CHECKS.fault(" ".repeat(300), 0, -1);
    }

    private static void bytes() {
        for (int place = 0; place < 20; place++) {
            MudBoot x = new MudBoot(3, 3);
            StringBuilder text = new StringBuilder(" ".repeat(20));
            text.setCharAt(place, '!');
            Checks.type(x, text.toString());
            CHECKS.due("a strange byte", x.law(), -1);
            CHECKS.due("at " + place, x.fault(1), place);
        }
        for (int sign = 0; sign < 256; sign++) {
            boolean isBlank = sign == 32 || sign == 10;
            CHECKS.fault("" + (char) sign, isBlank ? 0 : 1, isBlank ? -1 : 0);
            boolean isDigit = sign >= '0' && sign <= '9';
            boolean isLetter = sign >= 'a' && sign <= 'z' || sign >= 'A' && sign <= 'Z';
            boolean fine = isBlank || isDigit || sign == '-';
            int place = fine ? -1 : isLetter ? 0 : sign == '(' ? 6 : 4;
            CHECKS.fault("take" + (char) sign + "1;", fine ? 0 : 1, place);
        }
    }

    /** What stood behind the end of the tape is not of the text. */
    private static void cutTapes() {
        String[] texts = {"takes 1;", "take 99999;", "take 1;;", "lose !"};
        int[] ends = {4, 9, 7, 5};
        int[] faults = {1, 1, 0, 1};
        int[] places = {4, 9, -1, 5};
        for (int i = 0; i < texts.length; i++) {
            MudBoot x = new MudBoot(3, 3);
            Checks.type(x, texts[i]);
            CHECKS.due("cut", x.end(ends[i]), ends[i]);
            CHECKS.due("law", x.law(), faults[i] == 0 ? 0 : -1);
            CHECKS.due("fault of cut " + texts[i], x.fault(0), faults[i]);
            CHECKS.due("place of cut " + texts[i], x.fault(1), places[i]);
            CHECKS.due("nothing is left", x.about(8), 0);
            CHECKS.due("the empty text", x.law(), faults[i] == 0 ? 1 : 0);
        }
        MudBoot x = new MudBoot(3, 3);
        Checks.type(x, "take 1");
        x.feed(0x3B202020, 0x20202020, 0x20202020, 0x20202020, 0x20202020);
        CHECKS.due("twenty behind six", x.about(8), 26);
        CHECKS.due("as one text", x.law(), 0);
        CHECKS.due("nothing to cut", x.end(1), -1);
        CHECKS.due("nothing stays nothing", x.end(0), 0);
        CHECKS.due("others", x.end(Integer.MIN_VALUE), -1);
        CHECKS.due("others", x.end(Integer.MAX_VALUE), -1);
    }

    /** Texts of 300 bytes whose last one is of the last token. */
    private static void fullTapes() {
        String[] lasts = {"take", "take 9999", "take 10000", "new 1<", "new 1>", "new 1<=", "take 1;", "take (", "wet", "!",
            "new 1=1 or not", "take 1\n"};
        int[] faults = {1, 1, 2, 1, 1, 1, 0, 1, 1, 1, 1, 1};
        int[] places = {300, 300, 295, 300, 300, 300, -1, 300, 297, 299, 300, 300};
        for (int i = 0; i < lasts.length; i++) {
            CHECKS.fault(" ".repeat(300 - lasts[i].length()) + lasts[i], faults[i], places[i]);
        }
        CHECKS.fault("take " + "0".repeat(290) + "9999;", 0, -1);
        CHECKS.fault("take " + "0".repeat(289) + "10000;", 2, 5);
        CHECKS.fault("take 1" + "0".repeat(293) + ";", 2, 5);
        CHECKS.fault("z".repeat(300), 1, 0);
        CHECKS.fault("(".repeat(300), 1, 0);
        CHECKS.fault("take " + "(".repeat(295), 3, 13);
        CHECKS.fault("take " + "-".repeat(295), 3, 13);
        CHECKS.fault("take " + "-0-".repeat(98) + "0", 1, 300);
        CHECKS.fault("take " + "1-".repeat(147) + ";", 1, 299);
        CHECKS.fault("new " + "not ".repeat(74), 3, 36);
        MudBoot x = new MudBoot(3, 3);
        Checks.type(x, " ".repeat(293) + "take 1;");
        CHECKS.due("none come", x.feed(-1, -1, -1, -1, -1), -1);
        CHECKS.due("300 stay", x.about(8), 300);
        CHECKS.due("as they were", x.law(), 0);
    }

    /** Red on red soil behind one step. */
    private static int walked(MudBoot x) {
        return x.walked(0, -1, 0) < 1 ? 0 : x.walked(0, 0, 0);
    }

    private static void fourLaws() {
        MudBoot x = new MudBoot(3, 3);
        x.dig(0, 1, 0, 0, 0, 0);
        x.step(0, 0, 0, 0);
        CHECKS.due("none is told", x.by(0), false);
        CHECKS.due("none is by", x.by(-1), true);
        CHECKS.due("takes 10", walked(x), 10);
        for (int n = 0; n < 4; n++) {
            CHECKS.due("law", Checks.tell(x, "take " + (n + 1) + ";"), n);
            CHECKS.due("the next is not told", x.by(n + 1), false);
            CHECKS.due("so many", x.about(4), n + 1);
            CHECKS.due("the law as before", x.about(5), n == 0 ? -1 : n - 1);
            CHECKS.due("by it", x.by(n), true);
            CHECKS.due("walked by it", walked(x), n + 1);
        }
        for (int n = 3; n >= 0; n--) {
            CHECKS.due("by", x.by(n), true);
            CHECKS.due("walked by " + n, walked(x), n + 1);
        }
        CHECKS.due("the fifth", Checks.tell(x, "take 99;"), -1);
        CHECKS.due("its bytes stay", x.about(8), 8);
        CHECKS.due("and again", x.law(), -1);
        CHECKS.due("four", x.about(4), 4);
        int[] others = {4, -2, Integer.MAX_VALUE, Integer.MIN_VALUE};
        for (int other : others) CHECKS.due("by " + other, x.by(other), false);
        CHECKS.due("walked as before", walked(x), 1);
    }

    /** What was read of a text with a fault is of no law. */
    private static void anew() {
        MudBoot x = new MudBoot(3, 3);
        x.dig(0, 1, 0, 0, 0, 0);
        x.step(0, 0, 0, 0);
        x.step(0, 0, 0, 0);
        Checks.type(x, "wet");
        CHECKS.due("not read yet", x.fault(0), -1);
        CHECKS.due("nor a place", x.fault(1), -1);
        CHECKS.due("read", x.law(), -1);
        CHECKS.due("place", x.fault(1), 0);
        CHECKS.due("a fault in the third clause", Checks.tell(x, "take 50; lose 100; new 1=1 !"), -1);
        CHECKS.due("place", x.fault(1), 27);
        CHECKS.due("no law", x.about(4), 0);
        CHECKS.due("no clauses", x.law(), 0);
        CHECKS.due("no fault", x.fault(0), 0);
        CHECKS.due("no place", x.fault(1), -1);
        x.by(0);
        CHECKS.due("as without a law", walked(x), 20);
        CHECKS.due("one layer", x.walked(0, -1, 0), 1);
        CHECKS.due("a fault behind a law", Checks.tell(x, "lose 100; take 10000;"), -1);
        CHECKS.due("the fault", x.fault(0), 2);
        CHECKS.due("as by the law told", walked(x), 20);
        CHECKS.due("lose, for the first time here", Checks.tell(x, "lose 50; take 8;"), 1);
        CHECKS.due("take and lose, again", Checks.tell(x, "take 4; lose 50;"), 2);
        CHECKS.due("and again", Checks.tell(x, "lose 0;"), 3);
        x.by(1);
        CHECKS.due("8 less 4 and 8", walked(x), 12);
        x.by(2);
        CHECKS.due("4 less 2 and 4", walked(x), 6);
        x.by(3);
        CHECKS.due("10 and 10", walked(x), 20);
        CHECKS.due("others", x.fault(Integer.MAX_VALUE), -1);
        CHECKS.due("others", x.fault(Integer.MIN_VALUE), -1);
    }

    private static void words() {
        String[] words = {"wet", "hour", "red", "grey", "chalk", "sand", "wing", "layers", "mass", "far", "steps"};
        for (String word : words) {
            CHECKS.fault("take " + word + ";", 0, -1);
            CHECKS.fault("new " + word + "<=" + word + ";", 0, -1);
            CHECKS.fault(word + " 1;", 1, 0);
            CHECKS.fault("take " + word + "s;", 1, 5);
            CHECKS.fault("take " + word.substring(1) + ";", 1, 5);
            CHECKS.fault("take " + word.substring(0, word.length() - 1) + ";", 1, 5);
            CHECKS.fault("take " + word.toUpperCase() + ";", 1, 5);
            CHECKS.fault("take " + word + "1;", 1, 5 + word.length());
        }
        String[] clauses = {"take 1", "lose 1", "new 1=1", "falls 1=1"};
        for (String clause : clauses) {
            CHECKS.fault(clause + ";", 0, -1);
            CHECKS.fault(clause, 1, clause.length());
            CHECKS.fault("take " + clause + ";", 1, 5);
            CHECKS.fault("s" + clause + ";", 1, 0);
        }
        CHECKS.fault("take or;", 1, 5);
        CHECKS.fault("take and;", 1, 5);
        CHECKS.fault("new 1=1 or 1=1 and not 1=1;", 0, -1);
        CHECKS.fault("new 1=1 nor 1=1;", 1, 8);
        CHECKS.fault("new 1=1 orr 1=1;", 1, 8);
        CHECKS.fault("new 1>=1;falls 1<=1;", 0, -1);
        CHECKS.fault("new 1=>1;", 1, 6);
        CHECKS.fault("new 1>>1;", 1, 6);
        CHECKS.fault("new 1##1;", 1, 6);
    }

    /** Of one token the least number; of two the first token. */
    private static void leastFaults() {
        String ten = "new 1<2;".repeat(9) + "take 1;";
        CHECKS.fault(ten + "10000;", 1, ten.length());
        CHECKS.fault(ten + "take 10000;", 4, ten.length());
        CHECKS.fault(ten + "lose 10000;", 5, ten.length());
        CHECKS.fault("take (((((((( not", 1, 14);
        CHECKS.fault("take (((((((((10000", 3, 13);
        CHECKS.fault("take 10000 (((((((((", 2, 5);
        CHECKS.fault("take ((((((((10000", 2, 13);
        CHECKS.fault("take --------10000;", 2, 13);
        CHECKS.fault("take 10000; take 1;", 2, 5);
        CHECKS.fault("take 1; take 10000;", 4, 8);
        CHECKS.fault("new not not not not not not not not -1<1;", 3, 36);
        CHECKS.fault("new not not not not not not not not 1<1;", 0, -1);
        CHECKS.fault("new not not not not not not not -1<-1 and not not not not not not not not 1=1;", 0, -1);
        CHECKS.fault("take ((((((((1))))))))-((((((((1))))))));", 0, -1);
        CHECKS.fault("take ((((((((1)-(1)))))))));", 1, 26);
        CHECKS.fault("take -((((((((1))))))));", 3, 13);
        CHECKS.fault("take -(((((((1)))))))*(-((((((1)))))))/--------1;", 0, -1);
        String eleven = "falls 1<2;".repeat(10);
        CHECKS.fault(eleven, 0, -1);
        CHECKS.fault(eleven + ";", 1, 100);
        CHECKS.fault(eleven + "falls", 5, 100);
        CHECKS.fault(eleven + "lose 1;", 5, 100);
    }

    public static void main(String[] args) {
        tape();
        law();
        standing();
        numbers();
        nests();
        clauses();
        longest();
        bytes();
        cutTapes();
        fullTapes();
        fourLaws();
        anew();
        words();
        leastFaults();
        CHECKS.finish("LawTest");
    }
}
