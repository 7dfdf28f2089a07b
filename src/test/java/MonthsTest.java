/** Promises 18 to 22: flowers, months, when, journey, trowel. */
public final class MonthsTest {
    private static final Checks CHECKS = new Checks();

    private static void flowers() {
        MudBoot x = new MudBoot(3, 3);
        CHECKS.due("whole", x.flowers(0, 0, 11), true);
        CHECKS.due("one month", x.flowers(4, 11, 11), true);
        CHECKS.due("round the year", x.flowers(1, 11, 0), true);
        CHECKS.due("no such sort", x.flowers(5, 0, 0), false);
        CHECKS.due("no such sort", x.flowers(-1, 0, 0), false);
        CHECKS.due("no such sort, no more", x.flowers(5, -1, 0), false);
        CHECKS.due("no such from", x.flowers(0, 12, 0), false);
        CHECKS.due("no such from", x.flowers(0, -2, 0), false);
        CHECKS.due("no such to", x.flowers(0, 0, 12), false);
        CHECKS.due("no such to", x.flowers(0, 0, -1), false);
        CHECKS.due("no more, whatever to", x.flowers(0, -1, 99), true);
        CHECKS.due("no more, whatever to", x.flowers(0, -1, -99), true);
    }

    private static void months() {
        MudBoot x = new MudBoot(3, 3);
        CHECKS.due("no such layer", x.months(0), -1);
        CHECKS.due("no such layer", x.months(-1), -1);
        x.layer(1, 0, 0, 0, 0);
        x.layer(1, 1, 0, 0, 0);
        CHECKS.due("no flowers", x.months(0), 4095);
        x.flowers(0, 2, 4);
        CHECKS.due("2 to 4", x.months(0), 4 + 8 + 16);
        x.flowers(0, 10, 1);
        CHECKS.due("round the year", x.months(0), 1024 + 2048 + 1 + 2);
        x.rules(150, 10, 3, 300, 400);
        CHECKS.due("kept three months", x.months(0), 1024 + 2048 + 1 + 2 + 4 + 8 + 16);
        x.flowers(1, 4, 4);
        CHECKS.due("both", x.months(1), 16);
        CHECKS.due("the other has none of it", x.months(0), 1024 + 2048 + 1 + 2 + 4 + 8 + 16);
        x.flowers(1, 5, 5);
        CHECKS.due("never", x.months(1), 0);
        x.flowers(1, -1, 5);
        CHECKS.due("no more", x.months(1), 1024 + 2048 + 1 + 2 + 4 + 8 + 16);
        x.rules(150, 10, 11, 300, 400);
        x.flowers(0, 7, 7);
        CHECKS.due("kept a year", x.months(0), 4095);
        CHECKS.due("no such layer", x.months(2), -1);
    }

    private static void when() {
        MudBoot x = new MudBoot(3, 3);
        CHECKS.due("no such layer", x.when(0, false), -1);
        x.layer(1, 0, 0, 0, 0);
        x.layer(0, 1, 0, 0, 0);
        x.layer(0, 0, 1, 0, 0);
        x.flowers(0, 4, 6);
        x.flowers(1, 8, 5);
        x.flowers(2, 2, 9);
        int[][] due = {{4, 6}, {4, 9}, {4, 9}};
        for (int layer = 0; layer < 3; layer++) {
            CHECKS.due("earliest of " + layer, x.when(layer, false), due[layer][0]);
            CHECKS.due("latest of " + layer, x.when(layer, true), due[layer][1]);
        }
        x.flowers(2, 2, 4);
        for (int layer = 0; layer < 3; layer++) {
            CHECKS.due("4 alone", x.when(layer, false), 4);
            CHECKS.due("4 alone", x.when(layer, true), 4);
        }
        x.flowers(2, 2, 3);
        for (int layer = 0; layer < 3; layer++) {
            CHECKS.due("no such row", x.when(layer, false), -1);
            CHECKS.due("no such row", x.when(layer, true), -1);
        }
        CHECKS.due("no such layer", x.when(3, false), -1);
        CHECKS.due("no such layer", x.when(-1, true), -1);
        x.flowers(2, -1, 0);
        x.flowers(1, 11, 0);
        CHECKS.due("the last month", x.when(2, false), 11);
        CHECKS.due("of the first", x.when(0, true), 6);
    }

    private static void journey() {
        MudBoot x = new MudBoot(3, 3);
        CHECKS.due("no layers", x.journey(-1), 0);
        CHECKS.due("no layers", x.journey(0), -1);
        x.layer(1, 0, 0, 0, 0);
        CHECKS.due("no soil", x.journey(-1), -1);
        for (int cell = 0; cell < 9; cell++) x.dig(cell, 1, 0, 0, 0, 0);
        x.dig(1, 0, 1, 0, 0, 0);
        x.dig(2, 1, 1, 0, 0, 0);
        x.rules(500, 0, 0, 0, 0);
        x.layer(1, 1, 0, 0, 0);
        x.layer(0, 1, 0, 0, 0);
        // Red is alike to all but 1, half and half to all, grey to 1 and 2: 2 is of them all.
        CHECKS.due("one cell of all", x.journey(-1), 1);
        CHECKS.due("from the first", x.journey(0), 0);
        x.dig(2, 1, 0, 0, 0, 0);
        x.bar(1, true);
        CHECKS.due("red with half, then grey", x.journey(-1), 2);
        CHECKS.due("first", x.journey(0), 0);
        CHECKS.due("second, barred or not", x.journey(1), 2);
        CHECKS.due("none such", x.journey(2), -1);
        CHECKS.due("others", x.journey(-2), -1);
        x.layer(1, 1, 0, 0, 0);
        x.layer(1, 0, 0, 0, 0);
        CHECKS.due("grey with half, then red", x.journey(-1), 3);
        CHECKS.due("third", x.journey(2), 4);
        x.layer(0, 0, 1, 0, 0);
        CHECKS.due("chalk is alike to none", x.journey(-1), -1);
        CHECKS.due("chalk is alike to none", x.journey(0), -1);
    }

    private static void trowel() {
        MudBoot x = new MudBoot(3, 3);
        CHECKS.due("none dug", x.trowel(0), -1);
        x.dig(0, 1, 0, 0, 0, 0);
        CHECKS.due("no layers", x.trowel(0), -1);
        CHECKS.due("no layers", x.trowel(1), -1);
        x.layer(1, 0, 0, 0, 0);
        x.layer(9, 1, 0, 0, 0);
        x.layer(0, 1, 0, 0, 0);
        CHECKS.due("the farthest", x.trowel(0), 8);
        CHECKS.due("4 times 2", x.trowel(1), 8);
        x.bar(8, true);
        CHECKS.due("not a barred one, the lowest", x.trowel(0), 5);
        CHECKS.due("3 times 2", x.trowel(1), 6);
        x.carry(5, 1);
        CHECKS.due("not one that was carried to", x.trowel(0), 7);
        x.carry(5, -1);
        CHECKS.due("no more", x.trowel(0), 5);
        x.dig(8, 0, 1, 0, 0, 0);
        // 2, 4 and 6 are half and half: alike to none. 1 and 3 are red, 5 and 7 grey: 1 * 2 and 1 * 1.
        CHECKS.due("near and alike", x.trowel(0), 1);
        CHECKS.due("1 times 2", x.trowel(1), 2);
        CHECKS.due("others", x.trowel(2), -1);
        CHECKS.due("others", x.trowel(-1), -1);
        x.clean();
        x.layer(0, 0, 1, 0, 0);
        CHECKS.due("0 is none", x.trowel(0), -1);
        CHECKS.due("0 is none", x.trowel(1), -1);
        for (int cell = 0; cell < 9; cell++) x.dig(cell, 0, 0, 1, 0, 0);
        CHECKS.due("all dug", x.trowel(0), -1);
    }

    public static void main(String[] args) {
        flowers();
        months();
        when();
        journey();
        trowel();
        CHECKS.finish("MonthsTest");
    }
}
