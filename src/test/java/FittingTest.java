/** Promises 24 to 26: what fits whom, and what to do about it. */
public final class FittingTest {
    public static void main(String[] args) {
        promise24();
        promise25();
        promise25Limits();
        promise25Room();
        promise26();
        promise26Scenes();
        promise26None();
        Due.finish("FittingTest");
    }

    private static void promise24() {
        CostumeStock x = Stocks.of(1, 1);
        x.addActor(94, 74, 116);
        x.addActor(93, 73, 115);
        x.addActor(101, 85, 110);
        Due.is("at the least", x.misfit(0, 0), 0);
        Due.is("at the greatest", x.misfit(0, 1), 0);
        Due.is("one too great everywhere", x.misfit(0, 2), 3);
        Due.is("too small and too great", x.misfit(0, 3), 1 + 5 + 6);
        x.set(0, 20);
        Due.is("with another ease", x.misfit(0, 2), 2);
        x.alter(0, 0, 1);
        Due.is("altered", x.misfit(0, 3), 5 + 6);
        Due.is("misfit(1, 0)", x.misfit(1, 0), Stocks.INVALID);
        Due.is("misfit(-1, 0)", x.misfit(-1, 0), Stocks.INVALID);
        Due.is("misfit(0, 4)", x.misfit(0, 4), Stocks.INVALID);
        Due.is("misfit(0, -1)", x.misfit(0, -1), Stocks.INVALID);
    }

    private static void promise25() {
        CostumeStock x = Stocks.of(1, 1);
        x.addActor(104, 64, 114);
        Due.is("it fits", x.leastAlteration(0, 0), 0);
        Due.is("two alterations", x.leastAlteration(0, 1), 4 + 10 + 2);
        x.hire(0, 0, 1, 1);
        Due.is("away or not", x.leastAlteration(0, 1), 16);
        Due.is("nothing is altered", x.costume(0, 10), 0);
        Due.is("states", x.count(10), 4);
        Due.is("leastAlteration(1, 0)", x.leastAlteration(1, 0), Stocks.INVALID);
        Due.is("leastAlteration(-1, 0)", x.leastAlteration(-1, 0), Stocks.INVALID);
        Due.is("leastAlteration(0, 2)", x.leastAlteration(0, 2), Stocks.INVALID);
        Due.is("leastAlteration(0, -1)", x.leastAlteration(0, -1), Stocks.INVALID);
    }

    private static void promise25Limits() {
        CostumeStock x = new CostumeStock();
        x.addCostume(100, 45, 120, 5, 0);
        x.addActor(105, 45, 120);
        x.addActor(106, 45, 120);
        x.addActor(84, 45, 120);
        x.addActor(83, 45, 120);
        x.addActor(100, 40, 120);
        Due.is("as much as the allowance", x.leastAlteration(0, 0), 5);
        Due.is("more than the allowance", x.leastAlteration(0, 1), Stocks.NONE);
        Due.is("ten less", x.leastAlteration(0, 2), 10);
        Due.is("eleven less", x.leastAlteration(0, 3), Stocks.NONE);
        x.set(1, 0);
        Due.is("down to 40", x.leastAlteration(0, 4), 5);
        x.alter(0, 0, -10);
        Due.is("less again, after ten less", x.leastAlteration(0, 3), 1);
        Due.is("fifteen more", x.leastAlteration(0, 0), Stocks.NONE);
        x.alter(0, 0, -8);
        x.addActor(74, 45, 120);
        Due.is("twenty less in all", x.leastAlteration(0, 5), 2);
        x.addActor(73, 45, 120);
        Due.is("twenty-one less in all", x.leastAlteration(0, 6), Stocks.NONE);
    }

    private static void promise25Room() {
        CostumeStock x = Stocks.of(1, 1);
        x.addActor(101, 80, 120);
        x.addActor(101, 81, 120);
        for (int time = 0; time < 4; time++) {
            x.alter(0, 2, time % 2 == 0 ? 1 : -1);
        }
        Due.is("room for two", x.leastAlteration(0, 2), 2);
        x.alter(0, 2, 1);
        Due.is("room for one, which is enough", x.leastAlteration(0, 1), 1);
        Due.is("room for one, which is not enough", x.leastAlteration(0, 2), Stocks.NONE);
        x.alter(0, 2, -1);
        Due.is("no room", x.leastAlteration(0, 1), Stocks.NONE);
        Due.is("no room, and no need of it", x.leastAlteration(0, 0), 0);
    }

    private static void promise26() {
        CostumeStock x = new CostumeStock();
        x.addActor(100, 80, 120);
        Due.is("no costumes", x.costumeFor(0, 0), Stocks.NONE);
        x.addCostume(98, 80, 120, 8, 0);
        x.addCostume(60, 80, 120, 8, 0);
        x.addCostume(99, 80, 120, 8, 0);
        x.addCostume(99, 80, 120, 8, 0);
        x.addCostume(100, 80, 120, 8, 0);
        Due.is("the one that fits", x.costumeFor(0, 0), 4);
        x.hire(4, 0, 1, 1);
        Due.is("when it is away, the smaller number", x.costumeFor(0, 0), 2);
        x.hire(2, 0, 1, 1);
        Due.is("when that is away too", x.costumeFor(0, 0), 3);
        x.hire(3, 0, 1, 1);
        Due.is("then the next best", x.costumeFor(0, 0), 0);
        x.hire(0, 0, 1, 1);
        Due.is("one without a least alteration does not count", x.costumeFor(0, 0), Stocks.NONE);
        x.pass(1);
        Due.is("when they are back", x.costumeFor(11, 0), 4);
        Due.is("costumeFor(-1, 0)", x.costumeFor(-1, 0), Stocks.INVALID);
        Due.is("costumeFor(12, 0)", x.costumeFor(12, 0), Stocks.INVALID);
        Due.is("costumeFor(0, 1)", x.costumeFor(0, 1), Stocks.INVALID);
        Due.is("costumeFor(0, -1)", x.costumeFor(0, -1), Stocks.INVALID);
    }

    private static void promise26Scenes() {
        CostumeStock x = Stocks.of(2, 2);
        Due.is("in the first scene, when nothing is worn", x.costumeFor(0, 0), 0);
        Due.is("in the last scene, when nothing is worn", x.costumeFor(11, 0), 0);
        x.wear(5, 1, 0);
        Due.is("two scenes before", x.costumeFor(3, 0), 0);
        Due.is("in the scene before", x.costumeFor(4, 0), 1);
        Due.is("in the scene", x.costumeFor(5, 0), 1);
        Due.is("in the scene behind", x.costumeFor(6, 0), 1);
        Due.is("two scenes behind", x.costumeFor(7, 0), 0);
        Due.is("what the actor wears does not matter", x.costumeFor(5, 1), 0);
        x.wear(5, 0, 0);
        Due.is("when both wear it", x.costumeFor(5, 1), 1);
        x.wear(0, 1, 0);
        x.wear(11, 1, 0);
        Due.is("in the first scene", x.costumeFor(0, 0), 1);
        Due.is("in the last scene", x.costumeFor(11, 0), 1);
        x.wear(5, 1, 1);
        Due.is("when both are worn", x.costumeFor(5, 1), 1);
        Due.is("when both are worn", x.costumeFor(5, 0), 0);
        Due.is("the other actor, next to it", x.costumeFor(6, 0), 0);
    }

    private static void promise26None() {
        CostumeStock x = Stocks.of(1, 1);
        x.set(3, 2);
        x.wear(0, 0, 0);
        x.perform();
        Due.is("dirt less than the limit", x.costumeFor(0, 0), 0);
        x.perform();
        Due.is("dirt as much as the limit", x.costumeFor(0, 0), Stocks.NONE);
        x.set(3, 1);
        Due.is("dirt more than the limit", x.costumeFor(0, 0), Stocks.NONE);
        x.set(3, 3);
        Due.is("another limit", x.costumeFor(0, 0), 0);
    }
}
