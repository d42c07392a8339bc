/** Promises 11, 12 and 23: who wears what, performances, problems. */
public final class ScenesTest {
    public static void main(String[] args) {
        promise11();
        promise12();
        promise12Errors();
        promise12Dirt();
        promise23Twice();
        promise23HandedOver();
        promise23Amiss();
        Due.finish("ScenesTest");
    }

    private static void promise11() {
        CostumeStock x = Stocks.of(2, 2);
        Due.is("wear(0, 0, 1)", x.wear(0, 0, 1), -1);
        Due.is("wear(11, 1, 0)", x.wear(11, 1, 0), -1);
        Due.is("wear(0, 0, 0)", x.wear(0, 0, 0), 1);
        Due.is("actor(0, 3)", x.actor(0, 3), 0);
        Due.is("actor(1, 3)", x.actor(1, 3), -1);
        Due.is("actor(1, 14)", x.actor(1, 14), 0);
        Due.is("wear(0, 0, -1)", x.wear(0, 0, -1), 0);
        Due.is("actor(0, 3)", x.actor(0, 3), -1);
        int[] numbers = Stocks.numbers(x);
        int[][] wrong = {{-1, 0, 0}, {12, 0, 0}, {0, -1, 0}, {0, 2, 0}, {0, 0, 2}, {0, 0, -2},
            {Stocks.GREATEST, 0, 0}, {0, Stocks.LEAST, 0}, {0, 0, Stocks.GREATEST}};
        for (int[] w : wrong) {
            Due.is("wear, wrong", x.wear(w[0], w[1], w[2]), Stocks.INVALID);
        }
        Stocks.unchanged(x, "wear, wrong", numbers);
        Due.is("wear(3, 0, -1): the same is an action too", x.wear(3, 0, -1), -1);
        Due.is("undo()", x.undo(), 4);
        Due.is("undo()", x.undo(), 3);
        Due.is("actor(0, 3) after undo", x.actor(0, 3), 0);
    }

    private static void promise12() {
        CostumeStock x = Stocks.of(3, 2);
        x.wear(0, 0, 0);
        x.wear(2, 0, 0);
        x.wear(3, 1, 1);
        Due.is("perform()", x.perform(), 1);
        Due.is("dirt of two scenes", x.costume(0, 9), 2);
        Due.is("dirt of one scene", x.costume(1, 9), 1);
        Due.is("dirt of no scene", x.costume(2, 9), 0);
        Due.is("today", x.count(3), 1);
        Due.is("performances", x.count(9), 1);
        Due.is("perform()", x.perform(), 2);
        Due.is("performances", x.count(9), 2);
        Due.is("undo()", x.undo(), 4);
        Due.is("performances after undo", x.count(9), 1);
        Due.is("today after undo", x.count(3), 1);
        Due.is("dirt after undo", x.costume(0, 9), 2);
    }

    private static void promise12Errors() {
        CostumeStock x = Stocks.of(1, 2);
        for (int time = 0; time < 5; time++) {
            x.pass(60);
        }
        Due.is("today", x.count(3), 300);
        int[] numbers = Stocks.numbers(x);
        Due.is("perform() on the day 300", x.perform(), Stocks.FULL);
        Stocks.unchanged(x, "perform()", numbers);
        x.wear(0, 0, 0);
        x.wear(0, 1, 0);
        Due.is("perform() on the day 300 with a problem", x.perform(), Stocks.STATE);
        x.wear(0, 0, -1);
        x.hire(0, 300, 1, 1);
        Due.is("perform() with a costume that is away", x.perform(), Stocks.STATE);
        CostumeStock y = Stocks.of(1, 0);
        for (int time = 0; time < 4; time++) {
            y.pass(60);
        }
        y.pass(59);
        Due.is("perform() on the day 299", y.perform(), 300);
    }

    private static void promise12Dirt() {
        CostumeStock x = Stocks.of(1, 1);
        Due.is("set(3, 9)", x.set(3, 9), 5);
        for (int scene = 0; scene < 8; scene++) {
            x.wear(scene, 0, 0);
        }
        Due.is("perform()", x.perform(), 1);
        Due.is("dirt", x.costume(0, 9), 8);
        Due.is("problems(4)", x.problems(4), 0);
        Due.is("perform()", x.perform(), 2);
        Due.is("dirt, at most 9", x.costume(0, 9), 9);
        Due.is("problems(4)", x.problems(4), 8);
        Due.is("perform() with a costume too dirty", x.perform(), Stocks.STATE);
        Due.is("performances", x.count(9), 2);
    }

    private static void promise23Twice() {
        CostumeStock x = Stocks.of(2, 3);
        Due.is("problems(-1)", x.problems(-1), Stocks.INVALID);
        Due.is("problems(5)", x.problems(5), Stocks.INVALID);
        x.wear(11, 0, 0);
        Due.is("one wearer", x.problems(0), 0);
        x.wear(11, 1, 0);
        Due.is("two wearers", x.problems(0), 1);
        x.wear(11, 2, 0);
        Due.is("three wearers are one problem", x.problems(0), 1);
        Due.is("perform()", x.perform(), Stocks.STATE);
        x.wear(0, 0, 1);
        x.wear(0, 1, 1);
        Due.is("two scenes", x.problems(0), 2);
        x.wear(0, 2, 0);
        Due.is("another costume", x.problems(0), 2);
    }

    private static void promise23HandedOver() {
        CostumeStock x = Stocks.of(2, 3);
        x.wear(0, 0, 1);
        x.wear(1, 1, 1);
        Due.is("handed over in the first two scenes", x.problems(1), 1);
        x.wear(1, 1, -1);
        x.wear(11, 0, 0);
        Due.is("there is no scene behind the last one", x.problems(1), 0);
        x.wear(11, 0, -1);
        x.wear(4, 0, 0);
        x.wear(5, 1, 0);
        Due.is("handed over", x.problems(1), 1);
        Due.is("perform()", x.perform(), Stocks.STATE);
        x.wear(5, 2, 0);
        Due.is("handed over to two is one problem", x.problems(1), 1);
        x.wear(5, 1, -1);
        x.wear(5, 2, -1);
        x.wear(6, 1, 0);
        Due.is("with a scene between", x.problems(1), 0);
        x.wear(6, 1, -1);
        x.wear(5, 0, 0);
        Due.is("kept on", x.problems(1), 0);
        x.wear(5, 1, 0);
        Due.is("kept on and put on by another", x.problems(1), 1);
        x.wear(4, 1, 0);
        Due.is("both keep it on", x.problems(1), 0);
        x.wear(4, 0, 1);
        Due.is("one of them puts it on", x.problems(1), 1);
        x.wear(10, 0, 1);
        x.wear(11, 2, 1);
        Due.is("in the last two scenes", x.problems(1), 2);
    }

    private static void promise23Amiss() {
        CostumeStock x = Stocks.of(2, 0);
        x.addActor(100, 80, 120);
        x.addActor(101, 80, 120);
        x.wear(0, 0, 0);
        Due.is("it fits", x.problems(2), 0);
        x.wear(1, 1, 0);
        x.wear(3, 1, 1);
        Due.is("too narrow in two scenes", x.problems(2), 2);
        Due.is("perform()", x.perform(), Stocks.STATE);
        x.hire(0, 1, 2, 1);
        Due.is("not away yet", x.problems(3), 0);
        x.pass(1);
        Due.is("away in two scenes", x.problems(3), 2);
        x.pass(2);
        Due.is("back", x.problems(3), 0);
        x.wear(1, 1, -1);
        x.wear(3, 1, -1);
        x.wear(4, 0, 0);
        x.set(3, 2);
        Due.is("clean", x.problems(4), 0);
        Due.is("perform()", x.perform(), 4);
        Due.is("dirt is the limit in two scenes", x.problems(4), 2);
        Due.is("perform() when dirty", x.perform(), Stocks.STATE);
        x.set(3, 3);
        Due.is("less than the limit", x.problems(4), 0);
        x.set(3, 1);
        Due.is("more than the limit", x.problems(4), 2);
    }
}
