/** Promises 13 to 15, 22 and 27: days, hires, and when costumes are free. */
public final class DaysAndHiresTest {
    public static void main(String[] args) {
        promise13();
        promise14();
        promise14Overlaps();
        promise14Full();
        promise15();
        promise15Days();
        promise22();
        promise27();
        promise27Gaps();
        Due.finish("DaysAndHiresTest");
    }

    private static void promise13() {
        CostumeStock x = new CostumeStock();
        Due.is("pass(0)", x.pass(0), Stocks.INVALID);
        Due.is("pass(61)", x.pass(61), Stocks.INVALID);
        Due.is("pass(-1)", x.pass(-1), Stocks.INVALID);
        Due.is("pass(GREATEST)", x.pass(Stocks.GREATEST), Stocks.INVALID);
        Due.is("states", x.count(10), 0);
        Due.is("pass(1)", x.pass(1), 1);
        for (int time = 1; time <= 4; time++) {
            Due.is("pass(60)", x.pass(60), 1 + 60 * time);
        }
        Due.is("pass(60) to 301", x.pass(60), Stocks.FULL);
        Due.is("pass(61) to 302", x.pass(61), Stocks.INVALID);
        Due.is("today", x.count(3), 241);
        Due.is("pass(59) to 300", x.pass(59), 300);
        Due.is("pass(1) to 301", x.pass(1), Stocks.FULL);
        Due.is("undo()", x.undo(), 4);
        Due.is("today after undo", x.count(3), 241);
    }

    private static void promise14() {
        CostumeStock x = Stocks.of(2, 0);
        int[] days = {1, 6, 7, 8, 13, 14, 60};
        int[] paid = {1, 6, 6, 7, 12, 12, 52};
        int first = 0;
        int sum = 0;
        for (int hire = 0; hire < days.length; hire++) {
            Due.is("hire of " + days[hire] + " days", x.hire(1, first, days[hire], 50), 50 * paid[hire]);
            first += days[hire];
            sum += 50 * paid[hire];
            Due.is("fees", x.count(6), sum);
        }
        Due.is("hires", x.count(2), days.length);
        Due.is("hires of the costume", x.costume(1, 12), days.length);
        Due.is("hires of the other one", x.costume(0, 12), 0);
        x.pass(3);
        int[] numbers = Stocks.numbers(x);
        int[][] wrong = {{2, 9, 1, 1}, {-1, 9, 1, 1}, {0, 2, 1, 1}, {0, 301, 1, 1}, {0, -1, 1, 1}, {0, 9, 0, 1},
            {0, 9, 61, 1}, {0, 9, -1, 1}, {0, 9, 1, 0}, {0, 9, 1, 51}, {0, Stocks.GREATEST, 60, 1},
            {1, 9, 1, 51}};
        for (int[] w : wrong) {
            Due.is("hire, wrong", x.hire(w[0], w[1], w[2], w[3]), Stocks.INVALID);
        }
        Stocks.unchanged(x, "hire, wrong", numbers);
        Due.is("hire from today", x.hire(0, 3, 1, 1), 1);
        Due.is("away today", x.count(8), 3);
        Due.is("hire from the day 300", x.hire(0, 300, 60, 1), 52);
        Due.is("undo()", x.undo(), 4);
        Due.is("undo()", x.undo(), 3);
        Due.is("fees after undo", x.count(6), sum);
        Due.is("away after undo", x.count(8), 2);
    }

    private static void promise14Overlaps() {
        CostumeStock x = Stocks.of(2, 0);
        Due.is("hire(0, 10, 5, 2)", x.hire(0, 10, 5, 2), 10);
        int[] numbers = Stocks.numbers(x);
        Due.is("its last day is the other's first", x.hire(0, 5, 6, 2), Stocks.STATE);
        Due.is("its first day is the other's last", x.hire(0, 14, 6, 2), Stocks.STATE);
        Due.is("around the other", x.hire(0, 5, 20, 2), Stocks.STATE);
        Due.is("within the other", x.hire(0, 12, 1, 2), Stocks.STATE);
        Stocks.unchanged(x, "hire with a day in common", numbers);
        Due.is("just before", x.hire(0, 5, 5, 2), 10);
        Due.is("just behind", x.hire(0, 15, 5, 2), 10);
        Due.is("of the other costume", x.hire(1, 10, 5, 2), 10);
    }

    private static void promise14Full() {
        CostumeStock x = Stocks.of(2, 0);
        for (int hire = 0; hire < 24; hire++) {
            Due.is("hire", x.hire(0, hire, 1, 1), 1);
        }
        Due.is("a 25th hire", x.hire(1, 30, 1, 1), Stocks.FULL);
        Due.is("a 25th hire with a day in common", x.hire(0, 5, 1, 1), Stocks.STATE);
        Due.is("a 25th hire, wrong", x.hire(0, 5, 1, 0), Stocks.INVALID);
        Due.is("hires", x.count(2), 24);
        Due.is("hires of the costume", x.costume(0, 12), 24);
        Due.is("freeFrom(0, 60)", x.freeFrom(0, 60), 24);
    }

    private static void promise15() {
        CostumeStock x = Stocks.of(2, 0);
        Due.is("hire(1, 2, 10, 7)", x.hire(1, 2, 10, 7), 63);
        Due.is("not begun", x.endHire(0), Stocks.STATE);
        Due.is("endHire(1)", x.endHire(1), Stocks.INVALID);
        Due.is("endHire(-1)", x.endHire(-1), Stocks.INVALID);
        x.pass(4);
        // Three days then: the fee of 63 against one of 21, and half of the difference.
        Due.is("endHire(0)", x.endHire(0), 21);
        Due.is("days", x.hired(0, 2), 3);
        Due.is("fee", x.hired(0, 3), 42);
        Due.is("fees", x.count(6), 42);
        Due.is("away today still", x.count(8), 2);
        Due.is("ended already", x.endHire(0), Stocks.STATE);
        x.pass(1);
        Due.is("over", x.endHire(0), Stocks.STATE);
        Due.is("not away", x.count(8), 0);
        Due.is("free for another hire", x.hire(1, 5, 1, 1), 1);
        Due.is("hires of the costume", x.costume(1, 12), 2);
        x.undo();
        x.undo();
        Due.is("undo()", x.undo(), 2);
        Due.is("days after undo", x.hired(0, 2), 10);
        Due.is("fee after undo", x.hired(0, 3), 63);
        Due.is("fees after undo", x.count(6), 63);
        Due.is("endHire(0) again", x.endHire(0), 21);
    }

    private static void promise15Days() {
        CostumeStock x = Stocks.of(3, 0);
        Due.is("hire(0, 0, 2, 5)", x.hire(0, 0, 2, 5), 10);
        Due.is("hire(1, 0, 1, 5)", x.hire(1, 0, 1, 5), 5);
        Due.is("hire(2, 0, 7, 9)", x.hire(2, 0, 7, 9), 54);
        Due.is("on its first day, half of 5 rounded down", x.endHire(0), 2);
        Due.is("its only day", x.endHire(1), Stocks.STATE);
        x.pass(5);
        Due.is("on the last but one of seven days nothing is paid back", x.endHire(2), 0);
        Due.is("days", x.hired(2, 2), 6);
        Due.is("fees", x.count(6), 67);
    }

    private static void promise22() {
        CostumeStock x = Stocks.of(4, 0);
        x.hire(3, 7, 8, 9);
        x.hire(0, 300, 60, 50);
        int[][] due = {{3, 7, 8, 63}, {0, 300, 60, 2600}};
        for (int hire = 0; hire < 2; hire++) {
            for (int what = 0; what < 4; what++) {
                Due.is("hired(" + hire + ", " + what + ")", x.hired(hire, what), due[hire][what]);
            }
        }
        Due.is("hired(2, 0)", x.hired(2, 0), Stocks.INVALID);
        Due.is("hired(-1, 0)", x.hired(-1, 0), Stocks.INVALID);
        Due.is("hired(0, 4)", x.hired(0, 4), Stocks.INVALID);
        Due.is("hired(0, -1)", x.hired(0, -1), Stocks.INVALID);
    }

    private static void promise27() {
        CostumeStock x = Stocks.of(2, 0);
        Due.is("freeFrom(2, 1)", x.freeFrom(2, 1), Stocks.INVALID);
        Due.is("freeFrom(-1, 1)", x.freeFrom(-1, 1), Stocks.INVALID);
        Due.is("freeFrom(0, 0)", x.freeFrom(0, 0), Stocks.INVALID);
        Due.is("freeFrom(0, 61)", x.freeFrom(0, 61), Stocks.INVALID);
        Due.is("freeFrom(0, 60)", x.freeFrom(0, 60), 0);
        x.pass(3);
        Due.is("freeFrom(0, 60) today", x.freeFrom(0, 60), 3);
        x.hire(0, 3, 2, 1);
        Due.is("behind the hire", x.freeFrom(0, 1), 5);
        Due.is("the other costume", x.freeFrom(1, 1), 3);
        x.hire(1, 290, 20, 1);
        for (int time = 0; time < 4; time++) {
            x.pass(60);
        }
        x.pass(40);
        Due.is("before the hire", x.freeFrom(1, 7), 283);
        Due.is("a day greater than 300", x.freeFrom(1, 8), 310);
    }

    private static void promise27Gaps() {
        CostumeStock x = Stocks.of(1, 0);
        x.hire(0, 20, 5, 1);
        x.hire(0, 5, 5, 1);
        x.hire(0, 12, 6, 1);
        Due.is("before all", x.freeFrom(0, 5), 0);
        Due.is("behind all", x.freeFrom(0, 6), 25);
        x.pass(1);
        Due.is("four days before all", x.freeFrom(0, 4), 1);
        Due.is("behind all", x.freeFrom(0, 5), 25);
        x.pass(5);
        Due.is("two days", x.freeFrom(0, 2), 10);
        Due.is("three days", x.freeFrom(0, 3), 25);
        x.pass(5);
        Due.is("one day", x.freeFrom(0, 1), 11);
        Due.is("two days later", x.freeFrom(0, 2), 18);
    }
}
