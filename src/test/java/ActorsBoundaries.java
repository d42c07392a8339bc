/** Boundaries of actors and of what fits them: promises 4, 5, 24 and 25, and what the description says. */
final class ActorsBoundaries {
    private ActorsBoundaries() {
    }

    // ---- the section Actors

    @Sentence(of = "Actors", says = "There are at most 8 actors, numbered from 0")
    static void actorsAtMost8(Case c) {
        c.invalid(x -> x.actor(0, 0));
        c.all(0, 8, actor -> actor, actor -> x -> x.addActor(100 + actor, 80, 120));
        c.full(x -> x.addActor(100, 80, 120));
        c.error(0, "actor 100 80 120;");
        c.all(0, 8, actor -> 100 + actor, actor -> x -> x.actor(actor, 0));
        c.invalid(x -> x.actor(8, 0));
        c.is(4, x -> x.undo());
        c.invalid(x -> x.actor(7, 0));
        c.succeeds(x -> x.clearText());
        c.reads(1, "actor 99 80 120;");
        c.is(99, x -> x.actor(7, 0));
        c.full(x -> x.addActor(100, 80, 120));
    }

    @Sentence(of = "Actors", says = "each with three measures from 40 to 200.")
    static void actorsMeasuresFrom40To200(Case c) {
        c.reads(2, "actor 40 200 41;actor 200 40 199;");
        c.all(0, 3, measure -> new int[] {40, 200, 41}[measure], measure -> x -> x.actor(0, measure));
        c.all(0, 3, measure -> new int[] {200, 40, 199}[measure], measure -> x -> x.actor(1, measure));
        c.error(6, "actor 39 200 40;");
        c.error(6, "actor 201 40 200;");
        c.error(9, "actor 40 39 200;");
        c.error(9, "actor 40 201 200;");
        c.error(12, "actor 40 40 39;");
        c.error(12, "actor 40 40 201;");
    }

    @Sentence(of = "Actors", says = "For each measure there is an ease from 0 to 20, at first 6, 6 and 4.")
    static void actorsEaseFrom0To20AtFirst664(Case c) {
        c.is(0, x -> x.addCostume(100, 100, 100, 0, 0));
        c.is(0, x -> x.addActor(94, 94, 96));
        c.is(1, x -> x.addActor(93, 93, 95));
        c.is(2, x -> x.addActor(80, 80, 80));
        c.looks(0, x -> x.misfit(0, 0));
        c.looks(3, x -> x.misfit(0, 1));
        int[] first = {6, 6, 4};
        for (int measure : new int[] {0, 1, 2}) {
            c.invalid(x -> x.set(measure, -1));
            c.invalid(x -> x.set(measure, 21));
            c.is(first[measure], x -> x.set(measure, 20));
        }
        c.is(0, x -> x.misfit(0, 2));
        for (int measure : new int[] {0, 1, 2}) {
            c.is(20, x -> x.set(measure, 0));
        }
        c.is(60, x -> x.misfit(0, 2));
        c.is(6 + 6 + 4, x -> x.misfit(0, 0));
    }

    @Sentence(of = "Actors", says = "the present measure of the costume is at least that of the actor")
    static void actorsFitAtLeastTheActor(Case c) {
        c.costumes(1);
        c.actors(1);
        c.is(-1, x -> x.wear(0, 0, 0));
        for (int measure : new int[] {0, 1, 2}) {
            c.is(0, x -> x.problems(2));
            c.is(15, x -> x.alter(0, measure, -1));
            c.is(1, x -> x.problems(2));
            c.is(1, x -> x.misfit(0, 0));
            c.is(7, x -> x.unpick(0));
        }
    }

    @Sentence(of = "Actors", says = "and at most that of the actor plus the ease.")
    static void actorsFitAtMostTheActorPlusTheEase(Case c) {
        c.costumes(1);
        c.actors(1);
        c.is(-1, x -> x.wear(0, 0, 0));
        int[] ease = {6, 6, 4};
        for (int measure : new int[] {0, 1, 2}) {
            c.is(10 + 5 * ease[measure], x -> x.alter(0, measure, ease[measure]));
            c.is(0, x -> x.problems(2));
            c.is(15, x -> x.alter(0, measure, 1));
            c.is(1, x -> x.problems(2));
            c.is(1, x -> x.misfit(0, 0));
            c.is(ease[measure], x -> x.set(measure, ease[measure] + 1));
            c.is(0, x -> x.problems(2));
        }
        Case tight = c.another();
        tight.costumes(1);
        tight.actors(1);
        for (int measure : new int[] {0, 1, 2}) {
            tight.is(ease[measure], x -> x.set(measure, 0));
        }
        tight.is(0, x -> x.misfit(0, 0));
        tight.is(15, x -> x.alter(0, 1, 1));
        tight.is(1, x -> x.misfit(0, 0));
    }

    @Sentence(of = "Actors", says = "The misfit of a measure is how much it is below or above this range (0 if it is "
            + "not);")
    static void actorsMisfitBelowOrAbove(Case c) {
        c.is(0, x -> x.addCostume(100, 100, 100, 0, 0));
        int[] chests = {200, 101, 100, 94, 93, 40};
        int[] due = {100, 1, 0, 0, 1, 54};
        c.all(0, 6, actor -> actor, actor -> x -> x.addActor(chests[actor], 100, 100));
        c.all(0, 6, actor -> due[actor], actor -> x -> x.misfit(0, actor));
    }

    @Sentence(of = "Actors", says = "that of a costume for an actor is the sum over all measures.")
    static void actorsMisfitIsTheSum(Case c) {
        c.is(0, x -> x.addCostume(200, 200, 200, 8, 0));
        c.is(1, x -> x.addCostume(40, 40, 40, 0, 0));
        c.is(0, x -> x.addActor(40, 40, 40));
        c.is(1, x -> x.addActor(200, 200, 200));
        c.is(2, x -> x.addActor(41, 200, 40));
        c.is(154 + 154 + 156, x -> x.misfit(0, 0));
        c.is(0, x -> x.misfit(0, 1));
        c.is(0, x -> x.misfit(1, 0));
        c.is(480, x -> x.misfit(1, 1));
        c.is(153 + 0 + 156, x -> x.misfit(0, 2));
        c.is(1 + 160 + 0, x -> x.misfit(1, 2));
    }

    @Sentence(of = "Actors", says = "The least alteration of a costume for an actor is the smallest sum of |change| "
            + "of alterations after "
            + "which it fits, with at most one more alteration for each measure;")
    static void actorsLeastAlterationOfEachMeasureOnce(Case c) {
        c.is(0, x -> x.addCostume(100, 100, 100, 8, 0));
        c.is(0, x -> x.addActor(108, 84, 101));
        c.is(8 + 10 + 1, x -> x.leastAlteration(0, 0));
        c.is(1, x -> x.addActor(108, 83, 101));
        c.none(x -> x.leastAlteration(0, 1));
        c.is(15, x -> x.alter(0, 1, -1));
        c.is(8 + 10 + 1, x -> x.leastAlteration(0, 1));
    }

    @Sentence(of = "Actors", says = "all of them must be allowed")
    static void actorsLeastAlterationMustBeAllowed(Case c) {
        c.is(0, x -> x.addCostume(100, 44, 100, 3, 0));
        c.is(0, x -> x.addActor(103, 44, 100));
        c.is(1, x -> x.addActor(104, 44, 100));
        c.is(3, x -> x.leastAlteration(0, 0));
        c.none(x -> x.leastAlteration(0, 1));
        c.is(6, x -> x.set(1, 0));
        c.is(2, x -> x.addActor(100, 40, 100));
        c.is(4, x -> x.leastAlteration(0, 2));
        c.is(25, x -> x.alter(0, 1, -3));
        c.is(1, x -> x.leastAlteration(0, 2));
        c.is(60, x -> x.alter(0, 0, -10));
        c.is(3, x -> x.addActor(74, 41, 100));
        c.is(4, x -> x.addActor(73, 41, 100));
        c.is(10, x -> x.leastAlteration(0, 3));
        c.none(x -> x.leastAlteration(0, 4));
        c.is(15, x -> x.alter(0, 0, -1));
        c.is(9, x -> x.leastAlteration(0, 3));
        c.none(x -> x.leastAlteration(0, 4));
    }

    @Sentence(of = "Actors", says = "have changes from -10 to 10")
    static void actorsLeastAlterationChangesFromMinus10To10(Case c) {
        c.is(0, x -> x.addCostume(100, 100, 100, 8, 0));
        c.is(0, x -> x.addActor(84, 100, 100));
        c.is(1, x -> x.addActor(83, 100, 100));
        c.is(10, x -> x.leastAlteration(0, 0));
        c.none(x -> x.leastAlteration(0, 1));
        c.is(60, x -> x.alter(0, 2, -10));
        c.is(2, x -> x.addActor(100, 100, 100));
        c.is(10, x -> x.leastAlteration(0, 2));
        c.is(15, x -> x.alter(0, 2, -1));
        c.none(x -> x.leastAlteration(0, 2));
    }

    @Sentence(of = "Actors", says = "and there must be room for them.")
    static void actorsLeastAlterationNeedsRoom(Case c) {
        c.costumes(1);
        c.is(0, x -> x.addActor(101, 81, 122));
        c.is(1, x -> x.addActor(101, 81, 120));
        c.is(2, x -> x.addActor(101, 80, 120));
        c.actors(1);
        int[][] due = {{4, 2, 1, 0}, {3, 2, 1, 0}, {4, 2, 1, 0}, {3, 2, 1, 0}, {-2009, 2, 1, 0}, {-2009, -2009, 1, 0}};
        for (int made = 0; made < 6; made++) {
            int[] want = due[made];
            c.all(0, 4, actor -> want[actor], actor -> x -> x.leastAlteration(0, actor));
            int change = made % 2 == 0 ? 1 : -1;
            c.is(15, x -> x.alter(0, 2, change));
        }
        c.is(6, x -> x.costume(0, 10));
        c.none(x -> x.leastAlteration(0, 2));
        c.looks(0, x -> x.leastAlteration(0, 3));
        c.is(7, x -> x.unpick(0));
        c.looks(1, x -> x.leastAlteration(0, 2));
    }

    @Sentence(of = "Actors", says = "(It is 0 if it fits already.")
    static void actorsLeastAlterationIs0IfItFits(Case c) {
        c.costumes(1);
        c.actors(1);
        c.is(1, x -> x.addActor(94, 74, 116));
        c.is(2, x -> x.addActor(94, 74, 115));
        c.is(0, x -> x.leastAlteration(0, 0));
        c.is(0, x -> x.leastAlteration(0, 1));
        c.is(1, x -> x.leastAlteration(0, 2));
    }

    @Sentence(of = "Actors", says = "Whether the costume is away does not matter.)")
    static void actorsLeastAlterationOfACostumeThatIsAway(Case c) {
        c.costumes(2);
        c.actors(1);
        c.is(1, x -> x.addActor(101, 80, 120));
        c.is(1, x -> x.hire(0, 0, 1, 1));
        c.illegal(x -> x.alter(0, 0, 1));
        c.looks(0, x -> x.leastAlteration(0, 0));
        c.looks(1, x -> x.leastAlteration(0, 1));
        c.looks(1, x -> x.leastAlteration(1, 1));
    }

    // ---- promises 4 and 5

    @Sentence(of = "Promise 4", says = "Adds an actor, who wears no costume in any scene.")
    static void promise4ActorWearsNoCostume(Case c) {
        c.costumes(1);
        c.actors(7);
        c.is(7, x -> x.addActor(41, 42, 43));
        c.all(0, 3, what -> 41 + what, what -> x -> x.actor(7, what));
        c.all(3, 15, what -> -1, what -> x -> x.actor(7, what));
        c.is(-1, x -> x.wear(0, 7, 0));
        c.is(-1, x -> x.wear(11, 7, 0));
        c.is(4, x -> x.undo());
        c.is(3, x -> x.undo());
        c.is(2, x -> x.undo());
        c.invalid(x -> x.actor(7, 3));
        c.reads(1, "actor 44 45 46;");
        c.all(0, 3, what -> 44 + what, what -> x -> x.actor(7, what));
        c.all(3, 15, what -> -1, what -> x -> x.actor(7, what));
    }

    @Sentence(of = "Promise 4", says = "This is an action.")
    static void promise4IsAnAction(Case c) {
        c.action(0, x -> x.addActor(100, 100, 100));
        c.actors(4);
        c.action(5, x -> x.addActor(100, 100, 100));
    }

    @Sentence(of = "Promise 4", says = "- `chest`: 40 to 200")
    static void promise4Chest40To200(Case c) {
        c.within(40, 200, chest -> x -> x.addActor(chest, 100, 100));
        c.is(40, x -> x.actor(0, 0));
        c.is(200, x -> x.actor(1, 0));
    }

    @Sentence(of = "Promise 4", says = "- `waist`: 40 to 200")
    static void promise4Waist40To200(Case c) {
        c.within(40, 200, waist -> x -> x.addActor(100, waist, 100));
        c.is(40, x -> x.actor(0, 1));
        c.is(200, x -> x.actor(1, 1));
    }

    @Sentence(of = "Promise 4", says = "- `length`: 40 to 200")
    static void promise4Length40To200(Case c) {
        c.within(40, 200, length -> x -> x.addActor(100, 100, length));
        c.is(40, x -> x.actor(0, 2));
        c.is(200, x -> x.actor(1, 2));
    }

    @Sentence(of = "Promise 4", says = "Returns the number of the actor;")
    static void promise4ReturnsTheNumber(Case c) {
        c.all(0, 8, actor -> actor, actor -> x -> x.addActor(100, 100, 100));
        c.is(4, x -> x.undo());
        c.is(3, x -> x.undo());
        c.is(6, x -> x.addActor(100, 100, 100));
    }

    @Sentence(of = "Promise 4", says = "INVALID_ARGUMENT if an argument is out of range;")
    static void promise4InvalidBeforeCapacity(Case c) {
        c.invalid(x -> x.addActor(39, 201, 39));
        c.actors(8);
        c.invalid(x -> x.addActor(39, 100, 100));
        c.invalid(x -> x.addActor(100, 201, 100));
        c.invalid(x -> x.addActor(100, 100, 39));
        c.full(x -> x.addActor(40, 200, 40));
    }

    @Sentence(of = "Promise 4", says = "CAPACITY_EXCEEDED if there are 8 actors.")
    static void promise4CapacityOf8Actors(Case c) {
        c.actors(7);
        c.is(7, x -> x.addActor(100, 100, 100));
        c.full(x -> x.addActor(100, 100, 100));
        c.is(4, x -> x.undo());
        c.is(7, x -> x.addActor(90, 90, 90));
        c.full(x -> x.addActor(100, 100, 100));
        c.is(90, x -> x.actor(7, 0));
    }

    @Sentence(of = "Promise 5", says = "Sets a setting.")
    static void promise5SetsOneSetting(Case c) {
        int[] due = {6, 6, 4, 5};
        for (int changed : new int[] {0, 1, 2, 3}) {
            Case one = c.another();
            one.is(due[changed], x -> x.set(changed, 9));
            one.all(0, 4, what -> what == changed ? 9 : due[what], what -> x -> x.count(12 + what));
        }
    }

    @Sentence(of = "Promise 5", says = "This is an action.")
    static void promise5IsAnAction(Case c) {
        c.action(6, x -> x.set(0, 20));
        c.action(5, x -> x.set(3, 5));
        c.actors(3);
        c.action(4, x -> x.set(2, 0));
    }

    @Sentence(of = "Promise 5", says = "- `what`: 0 to 2 the ease of this measure, 3 the dirt limit")
    static void promise5What0To3(Case c) {
        c.within(0, 3, what -> x -> x.set(what, 9));
        c.all(0, 4, what -> new int[] {9, 6, 4, 9}[what], what -> x -> x.count(12 + what));
    }

    @Sentence(of = "Promise 5", says = "- `value`: in its range")
    static void promise5ValueInItsRange(Case c) {
        for (int what : new int[] {0, 1, 2}) {
            Case ease = c.another();
            ease.within(0, 20, value -> x -> x.set(what, value));
            ease.is(20, x -> x.count(12 + what));
            ease.is(20, x -> x.set(what, 0));
            ease.is(0, x -> x.count(12 + what));
        }
        c.invalid(x -> x.set(3, 0));
        c.within(1, 9, value -> x -> x.set(3, value));
        c.is(9, x -> x.count(15));
        c.is(9, x -> x.set(3, 1));
        c.is(1, x -> x.count(15));
    }

    @Sentence(of = "Promise 5", says = "Returns the previous value;")
    static void promise5ReturnsThePreviousValue(Case c) {
        int[] first = {6, 6, 4, 5};
        for (int what : new int[] {0, 1, 2, 3}) {
            c.is(first[what], x -> x.set(what, 9));
            c.is(9, x -> x.set(what, 1));
            c.succeeds(x -> x.undo());
            c.is(9, x -> x.set(what, 2));
            c.is(2, x -> x.set(what, 2));
            c.succeeds(x -> x.pass(1));
            c.succeeds(x -> x.pass(1));
        }
    }

    @Sentence(of = "Promise 5", says = "INVALID_ARGUMENT if an argument is out of range.")
    static void promise5Invalid(Case c) {
        c.invalid(x -> x.set(4, 21));
        c.invalid(x -> x.set(-1, -1));
        c.invalid(x -> x.set(3, 10));
        c.is(5, x -> x.set(3, 9));
        c.is(6, x -> x.set(0, 10));
    }

    // ---- promises 24 and 25

    @Sentence(of = "Promise 24", says = "- `costume`: a costume")
    static void promise24Costume(Case c) {
        c.costumeNumbers(costume -> x -> x.misfit(costume, 0));
    }

    @Sentence(of = "Promise 24", says = "- `actor`: an actor")
    static void promise24Actor(Case c) {
        c.actorNumbers(actor -> x -> x.misfit(0, actor));
    }

    @Sentence(of = "Promise 24", says = "Returns the misfit;")
    static void promise24ReturnsTheMisfit(Case c) {
        c.costumes(1);
        c.is(0, x -> x.addActor(100, 80, 120));
        c.is(1, x -> x.addActor(101, 73, 115));
        c.looks(0, x -> x.misfit(0, 0));
        c.looks(3, x -> x.misfit(0, 1));
        c.is(15, x -> x.alter(0, 0, 1));
        c.looks(2, x -> x.misfit(0, 1));
        c.is(15, x -> x.alter(0, 1, -1));
        c.looks(1, x -> x.misfit(0, 0));
        c.is(6, x -> x.set(1, 0));
        c.looks(6 + 1, x -> x.misfit(0, 1));
    }

    @Sentence(of = "Promise 24", says = "INVALID_ARGUMENT if an argument is out of range.")
    static void promise24Invalid(Case c) {
        c.invalid(x -> x.misfit(0, 0));
        c.costumes(1);
        c.invalid(x -> x.misfit(0, 0));
        c.actors(2);
        c.invalid(x -> x.misfit(1, 1));
        c.invalid(x -> x.misfit(1, 2));
        c.is(0, x -> x.misfit(0, 1));
    }

    @Sentence(of = "Promise 25", says = "- `costume`: a costume")
    static void promise25Costume(Case c) {
        c.costumeNumbers(costume -> x -> x.leastAlteration(costume, 0));
    }

    @Sentence(of = "Promise 25", says = "- `actor`: an actor")
    static void promise25Actor(Case c) {
        c.actorNumbers(actor -> x -> x.leastAlteration(0, actor));
    }

    @Sentence(of = "Promise 25", says = "Returns the least alteration;")
    static void promise25ReturnsTheLeastAlteration(Case c) {
        c.is(0, x -> x.addCostume(100, 100, 100, 8, 0));
        c.is(0, x -> x.addActor(84, 84, 86));
        c.looks(30, x -> x.leastAlteration(0, 0));
        c.is(1, x -> x.addActor(108, 108, 108));
        c.looks(24, x -> x.leastAlteration(0, 1));
        c.is(0, x -> x.costume(0, 10));
        c.is(2, x -> x.addActor(94, 94, 96));
        c.looks(0, x -> x.leastAlteration(0, 2));
    }

    @Sentence(of = "Promise 25", says = "INVALID_ARGUMENT if an argument is out of range;")
    static void promise25InvalidBeforeNone(Case c) {
        c.invalid(x -> x.leastAlteration(0, 0));
        c.is(0, x -> x.addCostume(40, 40, 40, 0, 0));
        c.invalid(x -> x.leastAlteration(0, 0));
        c.is(0, x -> x.addActor(200, 200, 200));
        c.none(x -> x.leastAlteration(0, 0));
        c.invalid(x -> x.leastAlteration(1, 0));
        c.invalid(x -> x.leastAlteration(0, 1));
        c.invalid(x -> x.leastAlteration(-1, -1));
    }

    @Sentence(of = "Promise 25", says = "NONE if there is none.")
    static void promise25NoneIfThereIsNone(Case c) {
        c.is(0, x -> x.addCostume(100, 100, 100, 8, 0));
        int[][] bodies = {{108, 100, 100}, {109, 100, 100}, {100, 84, 100}, {100, 83, 100}, {100, 100, 86},
            {100, 100, 85}};
        int[] due = {8, -2009, 10, -2009, 10, -2009};
        for (int actor = 0; actor < 6; actor++) {
            int[] body = bodies[actor];
            int number = actor;
            c.is(actor, x -> x.addActor(body[0], body[1], body[2]));
            c.looks(due[actor], x -> x.leastAlteration(0, number));
        }
    }
}
