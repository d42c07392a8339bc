/** Promises 1 to 7: a new object, costumes, actors, settings, alterations. */
public final class CostumesAndActorsTest {
    public static void main(String[] args) {
        promise1();
        promise2();
        promise3();
        promise4();
        promise5();
        promise6();
        promise6Limits();
        promise6Order();
        promise7();
        Due.finish("CostumesAndActorsTest");
    }

    private static void promise1() {
        CostumeStock x = new CostumeStock();
        int[] due = {0, 0, 0, 0, 0, 0, 0, 0, 0, 0, 0, 0, 6, 6, 4, 5};
        for (int what = 0; what < due.length; what++) {
            Due.is("new: count(" + what + ")", x.count(what), due[what]);
        }
        Due.is("new: costume(0, 0)", x.costume(0, 0), Stocks.INVALID);
        Due.is("new: actor(0, 0)", x.actor(0, 0), Stocks.INVALID);
        Due.is("new: hired(0, 0)", x.hired(0, 0), Stocks.INVALID);
        Due.is("new: undo()", x.undo(), Stocks.STATE);
        Due.is("new: perform()", x.perform(), 1);
        CostumeStock y = new CostumeStock();
        Due.is("another object has its own state", y.count(3), 0);
    }

    private static void promise2() {
        CostumeStock x = new CostumeStock();
        int[][] wrong = {{39, 100, 100, 0, 0}, {201, 100, 100, 0, 0}, {100, 39, 100, 0, 0}, {100, 201, 100, 0, 0},
            {100, 100, 39, 0, 0}, {100, 100, 201, 0, 0}, {100, 100, 100, -1, 0}, {100, 100, 100, 9, 0},
            {100, 100, 100, 0, -1}, {100, 100, 100, 0, 4}, {Stocks.LEAST, 100, 100, 0, 0},
            {100, 100, 100, 0, Stocks.GREATEST}};
        for (int[] w : wrong) {
            Due.is("addCostume, wrong", x.addCostume(w[0], w[1], w[2], w[3], w[4]), Stocks.INVALID);
        }
        Due.is("costumes after wrong ones", x.count(0), 0);
        Due.is("states after wrong ones", x.count(10), 0);
        Due.is("addCostume, least", x.addCostume(40, 40, 40, 0, 0), 0);
        Due.is("addCostume, greatest", x.addCostume(200, 200, 200, 8, 3), 1);
        Due.is("addCostume", x.addCostume(101, 102, 103, 4, 2), 2);
        int[] due = {101, 102, 103, 101, 102, 103, 4, 2, 0, 0, 0, 0, 0};
        for (int what = 0; what < due.length; what++) {
            Due.is("costume(2, " + what + ")", x.costume(2, what), due[what]);
        }
        Due.is("states after three", x.count(10), 3);
        for (int costume = 3; costume < 16; costume++) {
            Due.is("addCostume", x.addCostume(100, 100, 100, 0, 0), costume);
        }
        Due.is("a 17th costume", x.addCostume(100, 100, 100, 0, 0), Stocks.FULL);
        Due.is("a 17th costume, wrong", x.addCostume(39, 100, 100, 0, 0), Stocks.INVALID);
        Due.is("costumes", x.count(0), 16);
    }

    private static void promise3() {
        CostumeStock x = Stocks.of(2, 0);
        Due.is("setColor(0, 1)", x.setColor(0, 1), 0);
        Due.is("setColor(0, 1) again", x.setColor(0, 1), 1);
        Due.is("states: the same color is an action too", x.count(10), 4);
        Due.is("setColor(0, 0)", x.setColor(0, 0), 1);
        Due.is("setColor(1, 1)", x.setColor(1, 1), 0);
        Due.is("costume(0, 8)", x.costume(0, 8), 0);
        Due.is("costume(1, 8)", x.costume(1, 8), 1);
        int[] numbers = Stocks.numbers(x);
        Due.is("setColor(2, 0)", x.setColor(2, 0), Stocks.INVALID);
        Due.is("setColor(-1, 0)", x.setColor(-1, 0), Stocks.INVALID);
        Due.is("setColor(0, 2)", x.setColor(0, 2), Stocks.INVALID);
        Due.is("setColor(0, -1)", x.setColor(0, -1), Stocks.INVALID);
        Due.is("costume(0, 8) still", x.costume(0, 8), 0);
        Stocks.unchanged(x, "setColor", numbers);
        Due.is("undo()", x.undo(), 4);
        Due.is("costume(1, 8) undone", x.costume(1, 8), 0);
    }

    private static void promise4() {
        CostumeStock x = Stocks.of(1, 0);
        int[][] wrong = {{39, 100, 100}, {201, 100, 100}, {100, 39, 100}, {100, 201, 100}, {100, 100, 39},
            {100, 100, 201}, {Stocks.LEAST, 100, 100}};
        for (int[] w : wrong) {
            Due.is("addActor, wrong", x.addActor(w[0], w[1], w[2]), Stocks.INVALID);
        }
        Due.is("states after wrong ones", x.count(10), 1);
        Due.is("addActor, least", x.addActor(40, 40, 40), 0);
        Due.is("addActor, greatest", x.addActor(200, 200, 200), 1);
        Due.is("addActor", x.addActor(101, 102, 103), 2);
        for (int what = 0; what < 3; what++) {
            Due.is("actor(2, " + what + ")", x.actor(2, what), 101 + what);
        }
        for (int what = 3; what < 15; what++) {
            Due.is("actor(2, " + what + ")", x.actor(2, what), -1);
        }
        for (int actor = 3; actor < 8; actor++) {
            Due.is("addActor", x.addActor(100, 100, 100), actor);
        }
        Due.is("a ninth actor", x.addActor(100, 100, 100), Stocks.FULL);
        Due.is("a ninth actor, wrong", x.addActor(39, 100, 100), Stocks.INVALID);
        Due.is("wear(5, 7, 0)", x.wear(5, 7, 0), -1);
        Due.is("undo()", x.undo(), 4);
        Due.is("undo()", x.undo(), 3);
        Due.is("addActor after undo", x.addActor(100, 100, 100), 7);
        Due.is("the new actor wears nothing", x.actor(7, 8), -1);
    }

    private static void promise5() {
        CostumeStock x = new CostumeStock();
        int[] first = {6, 6, 4, 5};
        int[] least = {0, 0, 0, 1};
        int[] greatest = {20, 20, 20, 9};
        for (int what = 0; what < 4; what++) {
            Due.is("set to the least", x.set(what, least[what]), first[what]);
            Due.is("set to the greatest", x.set(what, greatest[what]), least[what]);
            Due.is("count of the setting", x.count(12 + what), greatest[what]);
            Due.is("set, too little", x.set(what, least[what] - 1), Stocks.INVALID);
            Due.is("set, too much", x.set(what, greatest[what] + 1), Stocks.INVALID);
            Due.is("count of the setting still", x.count(12 + what), greatest[what]);
        }
        Due.is("set(-1, 5)", x.set(-1, 5), Stocks.INVALID);
        Due.is("set(4, 5)", x.set(4, 5), Stocks.INVALID);
        Due.is("undo()", x.undo(), 4);
        Due.is("the dirt limit after undo", x.count(15), 1);
    }

    private static void promise6() {
        CostumeStock x = Stocks.of(2, 0);
        Due.is("alter(1, 0, 3)", x.alter(1, 0, 3), 25);
        Due.is("alter(1, 1, -10)", x.alter(1, 1, -10), 60);
        Due.is("alter(1, 0, -1)", x.alter(1, 0, -1), 15);
        Due.is("present chest", x.costume(1, 0), 102);
        Due.is("present waist", x.costume(1, 1), 70);
        Due.is("present length", x.costume(1, 2), 120);
        Due.is("original chest", x.costume(1, 3), 100);
        Due.is("alterations", x.costume(1, 10), 3);
        Due.is("the other costume", x.costume(0, 0), 100);
        Due.is("minutes", x.count(5), 100);
        int[] numbers = Stocks.numbers(x);
        int[][] wrong = {{2, 0, 1}, {-1, 0, 1}, {0, -1, 1}, {0, 3, 1}, {0, 0, 0}, {0, 0, 11}, {0, 0, -11},
            {0, 0, Stocks.LEAST}, {Stocks.GREATEST, 0, 1}};
        for (int[] w : wrong) {
            Due.is("alter, wrong", x.alter(w[0], w[1], w[2]), Stocks.INVALID);
        }
        Stocks.unchanged(x, "alter, wrong", numbers);
        Due.is("undo()", x.undo(), 4);
        Due.is("minutes after undo", x.count(5), 85);
        Due.is("chest after undo", x.costume(1, 0), 103);
    }

    private static void promise6Limits() {
        CostumeStock x = new CostumeStock();
        x.addCostume(100, 45, 120, 5, 0);
        Due.is("one more than the allowance", x.alter(0, 0, 6), Stocks.STATE);
        Due.is("the allowance", x.alter(0, 0, 5), 35);
        Due.is("more than the allowance", x.alter(0, 0, 1), Stocks.STATE);
        Due.is("less than 40", x.alter(0, 1, -6), Stocks.STATE);
        Due.is("just 40", x.alter(0, 1, -5), 35);
        Due.is("less 10", x.alter(0, 2, -10), 60);
        Due.is("less 9", x.alter(0, 2, -9), 55);
        Due.is("less 21 in all", x.alter(0, 2, -2), Stocks.STATE);
        Due.is("less 20 in all", x.alter(0, 2, -1), 15);
        Due.is("length", x.costume(0, 2), 100);
    }

    private static void promise6Order() {
        CostumeStock x = Stocks.of(1, 0);
        for (int time = 0; time < 6; time++) {
            Due.is("alter(0, 0, 1)", x.alter(0, 0, 1), 15);
        }
        Due.is("a seventh alteration", x.alter(0, 0, 1), Stocks.FULL);
        Due.is("a seventh one, not allowed", x.alter(0, 0, 3), Stocks.STATE);
        Due.is("a seventh one, wrong", x.alter(0, 0, 11), Stocks.INVALID);
        Due.is("hire(0, 1, 2, 1)", x.hire(0, 1, 2, 1), 2);
        Due.is("pass(1)", x.pass(1), 1);
        Due.is("a seventh one, away", x.alter(0, 0, 1), Stocks.STATE);
        Due.is("pass(1)", x.pass(1), 2);
        Due.is("away on the last day", x.alter(0, 0, 1), Stocks.STATE);
        Due.is("pass(1)", x.pass(1), 3);
        Due.is("back", x.alter(0, 0, 1), Stocks.FULL);
        Due.is("minutes", x.count(5), 90);
    }

    private static void promise7() {
        CostumeStock x = Stocks.of(2, 0);
        Due.is("nothing to unpick", x.unpick(0), Stocks.STATE);
        Due.is("unpick(2)", x.unpick(2), Stocks.INVALID);
        Due.is("unpick(-1)", x.unpick(-1), Stocks.INVALID);
        Due.is("alter(0, 0, 3)", x.alter(0, 0, 3), 25);
        Due.is("alter(0, 1, -7)", x.alter(0, 1, -7), 45);
        Due.is("nothing to unpick in the other one", x.unpick(1), Stocks.STATE);
        Due.is("unpick the latest", x.unpick(0), 19);
        Due.is("waist", x.costume(0, 1), 80);
        Due.is("chest", x.costume(0, 0), 103);
        Due.is("alterations", x.costume(0, 10), 1);
        Due.is("hire(0, 0, 1, 1)", x.hire(0, 0, 1, 1), 1);
        int[] numbers = Stocks.numbers(x);
        Due.is("unpick, away", x.unpick(0), Stocks.STATE);
        Stocks.unchanged(x, "unpick, away", numbers);
        Due.is("pass(1)", x.pass(1), 1);
        Due.is("unpick the first", x.unpick(0), 11);
        Due.is("chest", x.costume(0, 0), 100);
        Due.is("minutes", x.count(5), 100);
        Due.is("nothing more to unpick", x.unpick(0), Stocks.STATE);
        Due.is("undo()", x.undo(), 4);
        Due.is("chest after undo", x.costume(0, 0), 103);
        Due.is("alterations after undo", x.costume(0, 10), 1);
        promise7Undone(x);
    }

    /** An alteration that was unpicked, and whose place another one took, comes back by undo. */
    private static void promise7Undone(CostumeStock x) {
        Due.is("unpick(0)", x.unpick(0), 11);
        Due.is("alter(0, 1, -6)", x.alter(0, 1, -6), 40);
        Due.is("undo() of alter", x.undo(), 4);
        Due.is("no alteration", x.alteration(0, 0, 0), Stocks.NONE);
        Due.is("undo() of unpick", x.undo(), 3);
        Due.is("its measure", x.alteration(0, 0, 0), 0);
        Due.is("its change", x.alteration(0, 0, 1), 3);
        Due.is("chest", x.costume(0, 0), 103);
        Due.is("waist", x.costume(0, 1), 80);
    }
}
