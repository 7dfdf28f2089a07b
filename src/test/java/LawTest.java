/** Promises 23 to 27: feed, end, law, fault, by. */
public final class LawTest {
    private static final Checks CHECKS = new Checks();

    private static void tape() {
        MudBoot x = new MudBoot(3, 3);
        CHECKS.due("end of an empty tape", x.end(0), 0);
        CHECKS.due("not so many", x.end(1), -1);
        for (int n = 1; n <= 15; n++) CHECKS.due("feed", x.feed(1, 2, 3, 4, 5), 20 * n);
        CHECKS.due("more than 300", x.feed(1, 2, 3, 4, 5), -1);
        CHECKS.due("none came", x.about(8), 300);
        CHECKS.due("not so many", x.end(301), -1);
        CHECKS.due("below 0", x.end(-1), -1);
        CHECKS.due("nothing is done", x.about(8), 300);
        CHECKS.due("as many", x.end(300), 300);
        CHECKS.due("fewer", x.end(281), 281);
        CHECKS.due("301 would be too many", x.feed(0, 0, 0, 0, 0), -1);
        CHECKS.due("fewer", x.end(280), 280);
        CHECKS.due("300 are not", x.feed(0, 0, 0, 0, 0), 300);
        x.end(0);
        x.feed(0x20200A20, 0x0A0A2074, 0x616B6500, 0, 0);
        CHECKS.due("law", x.law(), -1);
        CHECKS.due("fault", x.fault(0), 1);
        CHECKS.due("the highest of a first", x.fault(1), 11);
        x.feed(-1, 0, 0, 0, 0);
        x.end(3);
        CHECKS.due("law of 255", x.law(), -1);
        CHECKS.due("place", x.fault(1), 0);
    }

    private static void law() {
        MudBoot x = new MudBoot(3, 3);
        CHECKS.due("ahead of any", x.fault(0), -1);
        CHECKS.due("ahead of any", x.fault(1), -1);
        CHECKS.due("no clauses are a law", x.law(), 0);
        CHECKS.due("without a fault", x.fault(0), 0);
        CHECKS.due("without a place", x.fault(1), -1);
        CHECKS.due("others", x.fault(2), -1);
        CHECKS.due("others", x.fault(-1), -1);
        CHECKS.due("a fault", Checks.tell(x, "take"), -1);
        CHECKS.due("latest", x.fault(0), 1);
        CHECKS.due("place", x.fault(1), 4);
        CHECKS.due("the tape is empty", x.about(8), 0);
        CHECKS.due("second", Checks.tell(x, "take 5;"), 1);
        CHECKS.due("the tape is empty", x.about(8), 0);
        CHECKS.due("without", x.fault(0), 0);
        CHECKS.due("by the third", x.by(2), false);
        CHECKS.due("third", Checks.tell(x, "lose 5;"), 2);
        CHECKS.due("by the third", x.by(2), true);
        CHECKS.due("fourth", Checks.tell(x, "new wet>hour or 1=1;"), 3);
        CHECKS.due("a fault, four are there", Checks.tell(x, "take"), -1);
        CHECKS.due("the tape stays", x.about(8), 4);
        CHECKS.due("nothing was read", x.fault(0), 0);
        CHECKS.due("laws", x.about(4), 4);
        CHECKS.due("by", x.by(3), true);
        CHECKS.due("the law", x.about(5), 3);
        CHECKS.due("by", x.by(4), false);
        CHECKS.due("by", x.by(-2), false);
        CHECKS.due("the law", x.about(5), 3);
        CHECKS.due("by none", x.by(-1), true);
        CHECKS.due("the law", x.about(5), -1);
    }

    private static void standing() {
        CHECKS.fault("", 0, -1);
        CHECKS.fault(" \n ", 0, -1);
        CHECKS.fault("take 1;lose 2;new 1<2;falls 1<2;", 0, -1);
        CHECKS.fault("take(wet+hour)*-red/grey-chalk;lose sand+wing+layers+mass+far+steps;", 0, -1);
        CHECKS.fault("new not wet<1 and not not hour>=2 or 1<=2 and 1>2 or 1=2 or 1#2;", 0, -1);
        CHECKS.fault("take\n9999 ;", 0, -1);
        CHECKS.fault("take 000000000012;", 0, -1);
        CHECKS.fault("take 1wet;", 1, 6);
        CHECKS.fault("take 1 <;", 1, 7);
        CHECKS.fault("take 1", 1, 6);
        CHECKS.fault("take 1  ", 1, 8);
        CHECKS.fault("take;", 1, 4);
        CHECKS.fault("  Take 1;", 1, 2);
        CHECKS.fault("taken 1;", 1, 0);
        CHECKS.fault("take1;", 0, -1);
        CHECKS.fault("takez 1;", 1, 0);
        CHECKS.fault("takea 1;", 1, 0);
        CHECKS.fault("takeA 1;", 1, 0);
        CHECKS.fault("takeZ 1;", 1, 0);
        CHECKS.fault("take@1;", 1, 4);
        CHECKS.fault("take[1;", 1, 4);
        CHECKS.fault("take`1;", 1, 4);
        CHECKS.fault("take{1;", 1, 4);
        CHECKS.fault("take 1/:;", 1, 7);
        CHECKS.fault("wet;", 1, 0);
        CHECKS.fault("5;", 1, 0);
        CHECKS.fault(";", 1, 0);
        CHECKS.fault("take 1;;", 1, 7);
        CHECKS.fault("take x;", 1, 5);
        CHECKS.fault("take we t;", 1, 5);
        CHECKS.fault("take not 1<2;", 1, 5);
        CHECKS.fault("take 1<2;", 1, 6);
        CHECKS.fault("take (1;", 1, 7);
        CHECKS.fault("take 1);", 1, 6);
        CHECKS.fault("take ();", 1, 6);
        CHECKS.fault("take (1<2);", 1, 7);
        CHECKS.fault("take + 1;", 1, 5);
        CHECKS.fault("take 1*/2;", 1, 7);
        CHECKS.fault("take 1 --2;", 0, -1);
        CHECKS.fault("take 1*-2/-3;", 0, -1);
        CHECKS.fault("new 1;", 1, 5);
        CHECKS.fault("new 1<2<3;", 1, 7);
        CHECKS.fault("new 1< =2;", 1, 7);
        CHECKS.fault("new 1<>2;", 1, 6);
        CHECKS.fault("new 1==2;", 1, 6);
        CHECKS.fault("new 1=<2;", 1, 6);
        CHECKS.fault("new (1<2);", 1, 6);
        CHECKS.fault("new 1<2 or;", 1, 10);
        CHECKS.fault("new 1<2 and and;", 1, 12);
        CHECKS.fault("new 1<2 not;", 1, 8);
        CHECKS.fault("new or 1<2;", 1, 4);
        CHECKS.fault("new 1 and 2<1;", 1, 6);
        CHECKS.fault("new not;", 1, 7);
        CHECKS.fault("new 1 < not 2;", 1, 8);
        CHECKS.fault("take\t1;", 1, 4);
        CHECKS.fault("take 1; !", 1, 8);
        CHECKS.fault("take \u00e9;", 1, 5);
        CHECKS.fault("take wet hour;", 1, 9);
        CHECKS.fault("take take;", 1, 5);
    }

    private static void numbers() {
        CHECKS.fault("take 10000;", 2, 5);
        CHECKS.fault("take 1+99999999999999999999;", 2, 7);
        CHECKS.fault("new 4294967296<1;", 2, 4);
        CHECKS.fault("10000;", 1, 0);
        CHECKS.fault("take 1 10000;", 1, 7);
        CHECKS.fault("take -10000;", 2, 6);
    }

    private static void nests() {
        CHECKS.fault("take ((((((((1))))))));", 0, -1);
        CHECKS.fault("take (((((((((1)))))))));", 3, 13);
        CHECKS.fault("take --------1;", 0, -1);
        CHECKS.fault("take ---------1;", 3, 13);
        CHECKS.fault("take -(-(-(-(1))));", 0, -1);
        CHECKS.fault("take -(-(-(-(-1))));", 3, 13);
        CHECKS.fault("take -(-(-(-(1))))+-(-(-(-(1))))-(1);", 0, -1);
        CHECKS.fault("take -(-(-(-1-1)-1)-1)-(-(-(-(-1))));", 0, -1);
        CHECKS.fault("new not not not not not not not not 1<2;", 0, -1);
        CHECKS.fault("new not not not not not not not not not 1<2;", 3, 36);
        CHECKS.fault("new not not not not not not not not (1)<2;", 3, 36);
        CHECKS.fault("new not not not not not not not (1)<-2 and not -1<(2);", 0, -1);
        CHECKS.fault("new not not not not not not not 1<(-2);", 3, 35);
        CHECKS.fault("new not not not not not not not not not;", 3, 36);
        CHECKS.fault("take (((((((( );", 1, 14);
        CHECKS.fault("take (1)+(1)+(1)+(1)+(1)+(1)+(1)+(1)+(1)+(1);", 0, -1);
    }

    private static void clauses() {
        CHECKS.fault("take 1; take 2;", 4, 8);
        CHECKS.fault("lose 1; take 1; lose 2;", 4, 16);
        CHECKS.fault("take 1; take", 4, 8);
        String ten = "new 1<2;falls 1<2;new 1<2;falls 1<2;new 1<2;falls 1<2;new 1<2;falls 1<2;new 1<2;take 1;";
        CHECKS.fault(ten, 0, -1);
        CHECKS.fault(ten + "lose 1;", 5, ten.length());
        CHECKS.fault(ten + " new 1<2;", 5, ten.length() + 1);
        CHECKS.fault(ten + "take 1;", 4, ten.length());
        CHECKS.fault(ten + "wet", 1, ten.length());
    }

    private static void longest() {
        StringBuilder all = new StringBuilder("take 1");
        while (all.length() < 298) all.append("+1");
        CHECKS.fault(all + " ;", 0, -1);
        all.append("+;");
        CHECKS.fault(all.toString(), 1, 299);
        StringBuilder ones = new StringBuilder("new 1#1");
        while (ones.length() < 294) ones.append("or 0#1");
        CHECKS.fault(ones + ";", 0, -1);
        CHECKS.fault(";".repeat(300), 1, 0);
        CHECKS.fault(" ".repeat(299) + "!", 1, 299);
        CHECKS.fault(" ".repeat(300), 0, -1);
    }

    public static void main(String[] args) {
        tape();
        law();
        standing();
        numbers();
        nests();
        clauses();
        longest();
        CHECKS.finish("LawTest");
    }
}
