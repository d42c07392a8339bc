/** Promises 17 to 21: undo, and looking at numbers, costumes, alterations and actors. */
public final class LookingTest {
    public static void main(String[] args) {
        promise17();
        promise17Oldest();
        promise18();
        promise18QuickChanges();
        promise19();
        promise20();
        promise21();
        Due.finish("LookingTest");
    }

    private static void promise17() {
        CostumeStock x = new CostumeStock();
        Due.is("undo() of nothing", x.undo(), Stocks.STATE);
        x.pass(1);
        x.pass(2);
        x.append(65);
        Due.is("undo()", x.undo(), 1);
        Due.is("today", x.count(3), 1);
        Due.is("the text stays", x.count(11), 1);
        Due.is("undo()", x.undo(), 0);
        Due.is("today", x.count(3), 0);
        Due.is("undo() of nothing", x.undo(), Stocks.STATE);
        Due.is("pass(0), an error, is not recorded", x.pass(0), Stocks.INVALID);
        Due.is("undo() of nothing", x.undo(), Stocks.STATE);
    }

    private static void promise17Oldest() {
        CostumeStock x = new CostumeStock();
        for (int day = 1; day <= 8; day++) {
            x.pass(1);
            Due.is("states", x.count(10), Math.min(day, 5));
        }
        for (int left = 4; left >= 2; left--) {
            Due.is("undo()", x.undo(), left);
            Due.is("today", x.count(3), 3 + left);
        }
        x.pass(20);
        x.pass(20);
        Due.is("states", x.count(10), 4);
        Due.is("undo()", x.undo(), 3);
        Due.is("today", x.count(3), 25);
        Due.is("undo()", x.undo(), 2);
        Due.is("undo()", x.undo(), 1);
        Due.is("undo()", x.undo(), 0);
        Due.is("today", x.count(3), 3);
        Due.is("undo() of nothing", x.undo(), Stocks.STATE);
    }

    private static void promise18() {
        CostumeStock x = Stocks.of(3, 2);
        x.set(0, 11);
        x.set(1, 12);
        x.set(2, 13);
        x.set(3, 7);
        x.wear(0, 0, 0);
        x.wear(1, 0, 1);
        x.alter(0, 0, 2);
        x.unpick(0);
        x.perform();
        x.hire(2, 1, 3, 5);
        x.hire(0, 1, 1, 9);
        x.hire(1, 2, 1, 9);
        x.wash(1, 2);
        x.append(65);
        int[] due = {3, 2, 3, 1, 1, 29, 33, 6, 5, 1, 5, 1, 11, 12, 13, 7};
        for (int what = 0; what < due.length; what++) {
            Due.is("count(" + what + ")", x.count(what), due[what]);
        }
        Due.is("count(-1)", x.count(-1), Stocks.INVALID);
        Due.is("count(16)", x.count(16), Stocks.INVALID);
        Due.is("count(LEAST)", x.count(Stocks.LEAST), Stocks.INVALID);
        Due.is("count(GREATEST)", x.count(Stocks.GREATEST), Stocks.INVALID);
    }

    private static void promise18QuickChanges() {
        CostumeStock x = Stocks.of(2, 2);
        x.wear(0, 0, 0);
        Due.is("from nothing", x.count(4), 0);
        x.wear(1, 0, 0);
        Due.is("the same costume", x.count(4), 0);
        x.wear(2, 0, 1);
        Due.is("another one", x.count(4), 1);
        x.wear(4, 0, 0);
        Due.is("with a scene between", x.count(4), 1);
        x.wear(3, 0, 0);
        Due.is("without", x.count(4), 2);
        x.wear(10, 1, 0);
        x.wear(11, 1, 1);
        Due.is("in the last two scenes", x.count(4), 3);
        x.wear(11, 1, -1);
        Due.is("to nothing", x.count(4), 2);
        x.wear(9, 0, 1);
        Due.is("another actor", x.count(4), 2);
    }

    private static void promise19() {
        CostumeStock x = Stocks.of(1, 2);
        x.addCostume(90, 91, 92, 5, 1);
        x.setColor(1, 1);
        x.alter(1, 0, 5);
        x.alter(1, 1, -10);
        x.alter(1, 1, -3);
        x.alter(1, 2, 4);
        x.wear(0, 0, 1);
        x.wear(0, 1, 1);
        Due.is("worn by two in one scene", x.costume(1, 11), 1);
        x.wear(5, 1, 1);
        x.wear(11, 0, 1);
        x.hire(1, 50, 1, 1);
        x.hire(1, 40, 1, 1);
        int[] due = {95, 78, 96, 90, 91, 92, 5, 1, 1, 0, 4, 3, 2};
        for (int what = 0; what < due.length; what++) {
            Due.is("costume(1, " + what + ")", x.costume(1, what), due[what]);
        }
        Due.is("costume(1, 13)", x.costume(1, 13), Stocks.INVALID);
        Due.is("costume(1, -1)", x.costume(1, -1), Stocks.INVALID);
        Due.is("costume(2, 0)", x.costume(2, 0), Stocks.INVALID);
        Due.is("costume(-1, 0)", x.costume(-1, 0), Stocks.INVALID);
        Due.is("costume(LEAST, 0)", x.costume(Stocks.LEAST, 0), Stocks.INVALID);
    }

    private static void promise20() {
        CostumeStock x = Stocks.of(2, 0);
        x.alter(1, 2, -4);
        x.alter(1, 0, 8);
        x.alter(0, 1, 1);
        Due.is("alteration(1, 0, 0)", x.alteration(1, 0, 0), 2);
        Due.is("alteration(1, 0, 1)", x.alteration(1, 0, 1), -4);
        Due.is("alteration(1, 1, 0)", x.alteration(1, 1, 0), 0);
        Due.is("alteration(1, 1, 1)", x.alteration(1, 1, 1), 8);
        Due.is("alteration(0, 0, 0)", x.alteration(0, 0, 0), 1);
        Due.is("alteration(1, 2, 0)", x.alteration(1, 2, 0), Stocks.NONE);
        Due.is("alteration(0, 1, 1)", x.alteration(0, 1, 1), Stocks.NONE);
        Due.is("alteration(1, GREATEST, 0)", x.alteration(1, Stocks.GREATEST, 0), Stocks.NONE);
        Due.is("alteration(1, -1, 0)", x.alteration(1, -1, 0), Stocks.INVALID);
        Due.is("alteration(1, 0, 2)", x.alteration(1, 0, 2), Stocks.INVALID);
        Due.is("alteration(1, 9, 2)", x.alteration(1, 9, 2), Stocks.INVALID);
        Due.is("alteration(1, 0, -1)", x.alteration(1, 0, -1), Stocks.INVALID);
        Due.is("alteration(2, 0, 0)", x.alteration(2, 0, 0), Stocks.INVALID);
        Due.is("alteration(-1, 0, 0)", x.alteration(-1, 0, 0), Stocks.INVALID);
        x.unpick(1);
        Due.is("unpicked", x.alteration(1, 1, 0), Stocks.NONE);
        x.alter(1, 1, -2);
        Due.is("another one", x.alteration(1, 1, 0), 1);
        Due.is("another one", x.alteration(1, 1, 1), -2);
        promise20All();
    }

    /** Every alteration of every costume has a place of its own. */
    private static void promise20All() {
        CostumeStock x = Stocks.of(16, 0);
        for (int index = 0; index < 6; index++) {
            for (int costume = 0; costume < 16; costume++) {
                Due.holds("alter succeeds", x.alter(costume, (costume + index) % 3, index % 2 * 4 - 3) > 0);
            }
        }
        for (int costume = 0; costume < 16; costume++) {
            for (int index = 0; index < 6; index++) {
                Due.is("measure", x.alteration(costume, index, 0), (costume + index) % 3);
                Due.is("change", x.alteration(costume, index, 1), index % 2 * 4 - 3);
            }
            Due.is("there is no seventh", x.alteration(costume, 6, 0), Stocks.NONE);
        }
    }

    private static void promise21() {
        CostumeStock x = Stocks.of(2, 1);
        x.addActor(70, 71, 72);
        x.wear(0, 1, 1);
        x.wear(11, 1, 0);
        for (int what = 0; what < 3; what++) {
            Due.is("actor(1, " + what + ")", x.actor(1, what), 70 + what);
        }
        for (int what = 3; what < 15; what++) {
            Due.is("actor(1, " + what + ")", x.actor(1, what), what == 3 ? 1 : what == 14 ? 0 : -1);
            Due.is("actor(0, " + what + ")", x.actor(0, what), -1);
        }
        Due.is("actor(1, 15)", x.actor(1, 15), Stocks.INVALID);
        Due.is("actor(1, -1)", x.actor(1, -1), Stocks.INVALID);
        Due.is("actor(2, 0)", x.actor(2, 0), Stocks.INVALID);
        Due.is("actor(-1, 0)", x.actor(-1, 0), Stocks.INVALID);
    }
}
