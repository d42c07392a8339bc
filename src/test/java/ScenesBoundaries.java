/** Boundaries of scenes and performances: promises 11, 12, 23 and 26, and what the description says. */
final class ScenesBoundaries {
    private ScenesBoundaries() {
    }

    // ---- the sections Scenes and Performances

    @Sentence(of = "Scenes", says = "There are the scenes 0 to 11.")
    static void scenesFrom0To11(Case c) {
        c.costumes(2);
        c.actors(2);
        c.invalid(x -> x.wear(-1, 0, 0));
        c.is(-1, x -> x.wear(0, 0, 0));
        c.is(-1, x -> x.wear(11, 1, 1));
        c.invalid(x -> x.wear(12, 1, 1));
        c.invalid(x -> x.costumeFor(-1, 0));
        c.is(0, x -> x.costumeFor(0, 0));
        c.is(0, x -> x.costumeFor(11, 1));
        c.invalid(x -> x.costumeFor(12, 1));
        c.all(3, 15, what -> what == 3 ? 0 : -1, what -> x -> x.actor(0, what));
        c.all(3, 15, what -> what == 14 ? 1 : -1, what -> x -> x.actor(1, what));
        c.invalid(x -> x.actor(1, 15));
    }

    @Sentence(of = "Scenes", says = "In each scene, each actor wears a costume, or none (at first).")
    static void scenesNoneAtFirst(Case c) {
        c.costumes(1);
        c.actors(8);
        for (int actor : new int[] {0, 7}) {
            c.all(3, 15, what -> -1, what -> x -> x.actor(actor, what));
            c.is(-1, x -> x.wear(6, actor, -1));
            c.is(-1, x -> x.wear(6, actor, 0));
            c.is(0, x -> x.wear(6, actor, -1));
            c.is(-1, x -> x.actor(actor, 9));
        }
    }

    @Sentence(of = "Scenes", says = "0: a scene and a costume that is worn in it by more than one actor;")
    static void scenesProblem0MoreThanOneActor(Case c) {
        c.costumes(2);
        c.actors(8);
        for (int actor = 0; actor < 8; actor++) {
            int wearer = actor;
            c.is(-1, x -> x.wear(11, wearer, 1));
            c.looks(actor == 0 ? 0 : 1, x -> x.problems(0));
        }
        for (int actor : new int[] {0, 1}) {
            c.is(-1, x -> x.wear(0, actor, 1));
            c.is(1 + actor, x -> x.problems(0));
        }
        c.is(-1, x -> x.wear(0, 2, 0));
        c.is(2, x -> x.problems(0));
        c.is(-1, x -> x.wear(0, 3, 0));
        c.is(3, x -> x.problems(0));
    }

    @Sentence(of = "Scenes", says = "1: two successive scenes and a costume that is worn in the first of them by "
            + "some actor, and in the "
            + "second one by an actor who does not wear it in the first;")
    static void scenesProblem1InSuccessiveScenes(Case c) {
        c.costumes(2);
        c.actors(3);
        c.is(-1, x -> x.wear(11, 0, 0));
        c.is(-1, x -> x.wear(0, 1, 0));
        c.is(0, x -> x.problems(1));
        c.is(-1, x -> x.wear(1, 2, 0));
        c.is(1, x -> x.problems(1));
        c.is(-1, x -> x.wear(10, 1, 0));
        c.is(2, x -> x.problems(1));
        c.is(-1, x -> x.wear(10, 0, 0));
        c.is(1, x -> x.problems(1));
        c.is(-1, x -> x.wear(3, 0, 1));
        c.is(-1, x -> x.wear(5, 1, 1));
        c.is(1, x -> x.problems(1));
        c.is(-1, x -> x.wear(4, 1, 1));
        c.is(2, x -> x.problems(1));
        c.is(-1, x -> x.wear(4, 2, 1));
        c.is(2, x -> x.problems(1));
    }

    @Sentence(of = "Scenes", says = "2: a scene and an actor who wears in it a costume that does not fit;")
    static void scenesProblem2DoesNotFit(Case c) {
        c.costumes(1);
        c.is(0, x -> x.addActor(100, 80, 120));
        c.is(1, x -> x.addActor(101, 80, 120));
        c.is(2, x -> x.addActor(94, 74, 116));
        c.is(3, x -> x.addActor(94, 74, 115));
        int[] due = {0, 1, 1, 2};
        for (int actor = 0; actor < 4; actor++) {
            int wearer = actor;
            c.is(-1, x -> x.wear(11 * (wearer % 2), wearer, 0));
            c.is(due[actor], x -> x.problems(2));
        }
        c.is(-1, x -> x.wear(5, 3, 0));
        c.is(3, x -> x.problems(2));
    }

    @Sentence(of = "Scenes", says = "3: a scene and an actor who wears in it a costume that is away today;")
    static void scenesProblem3AwayToday(Case c) {
        c.costumes(1);
        c.actors(1);
        c.is(-1, x -> x.wear(0, 0, 0));
        c.is(-1, x -> x.wear(11, 0, 0));
        c.is(2, x -> x.hire(0, 2, 2, 1));
        int[] due = {0, 0, 2, 2, 0};
        for (int day = 0; day < 5; day++) {
            int today = day;
            c.day(today);
            c.is(due[day], x -> x.problems(3));
        }
    }

    @Sentence(of = "Scenes", says = "4: a scene and an actor who wears in it a costume whose dirt is the dirt limit "
            + "(1 to 9, at first 5) "
            + "or greater.")
    static void scenesProblem4TheDirtLimit(Case c) {
        c.costumes(3);
        c.actors(1);
        c.soil(0, 4);
        c.soil(1, 5);
        c.soil(2, 9);
        c.is(-1, x -> x.wear(0, 0, 0));
        c.is(0, x -> x.problems(4));
        c.is(-1, x -> x.wear(11, 0, 1));
        c.is(1, x -> x.problems(4));
        c.is(-1, x -> x.wear(5, 0, 2));
        c.is(2, x -> x.problems(4));
        c.invalid(x -> x.set(3, 0));
        c.invalid(x -> x.set(3, 10));
        int[] due = {3, 3, 3, 3, 2, 1, 1, 1, 1};
        for (int limit = 1; limit <= 9; limit++) {
            int value = limit;
            c.succeeds(x -> x.set(3, value));
            c.is(due[limit - 1], x -> x.problems(4));
        }
        Case clean = c.another();
        clean.costumes(1);
        clean.actors(1);
        clean.is(-1, x -> x.wear(0, 0, 0));
        clean.is(5, x -> x.set(3, 1));
        clean.is(0, x -> x.problems(4));
        clean.is(1, x -> x.perform());
        clean.is(1, x -> x.problems(4));
    }

    @Sentence(of = "Scenes", says = "A quick change is an actor and two successive scenes in which this actor wears "
            + "two different "
            + "costumes;")
    static void scenesQuickChange(Case c) {
        c.costumes(2);
        c.actors(2);
        c.is(-1, x -> x.wear(11, 0, 0));
        c.is(-1, x -> x.wear(0, 0, 1));
        c.is(0, x -> x.count(4));
        c.is(-1, x -> x.wear(1, 0, 0));
        c.is(1, x -> x.count(4));
        c.is(-1, x -> x.wear(10, 0, 1));
        c.is(2, x -> x.count(4));
        c.is(1, x -> x.wear(10, 0, 0));
        c.is(1, x -> x.count(4));
        c.is(-1, x -> x.wear(3, 0, 1));
        c.is(-1, x -> x.wear(4, 1, 0));
        c.is(1, x -> x.count(4));
        c.is(-1, x -> x.wear(2, 0, 1));
        c.is(2, x -> x.count(4));
        c.is(0, x -> x.wear(1, 0, -1));
        c.is(0, x -> x.count(4));
    }

    @Sentence(of = "Scenes", says = "it is no problem.")
    static void scenesQuickChangeIsNoProblem(Case c) {
        c.costumes(2);
        c.actors(1);
        c.is(-1, x -> x.wear(0, 0, 0));
        c.is(-1, x -> x.wear(1, 0, 1));
        c.is(1, x -> x.count(4));
        c.all(0, 5, kind -> 0, kind -> x -> x.problems(kind));
        c.is(1, x -> x.perform());
    }

    @Sentence(of = "Performances", says = "A performance is possible if there is no problem.")
    static void performancesOfNothing(Case c) {
        c.is(1, x -> x.perform());
        c.actors(8);
        c.is(2, x -> x.perform());
        c.costumes(16);
        c.is(3, x -> x.perform());
        c.is(-1, x -> x.wear(0, 0, 0));
        c.is(-1, x -> x.wear(0, 1, 0));
        c.illegal(x -> x.perform());
        c.is(0, x -> x.wear(0, 1, -1));
        c.is(4, x -> x.perform());
    }

    @Sentence(of = "Performances", says = "In a performance, the dirt of each costume becomes greater by the number "
            + "of scenes in which "
            + "it is worn, but not greater than 9;")
    static void performancesDirtNotGreaterThan9(Case c) {
        c.costumes(4);
        c.actors(1);
        c.soil(0, 9);
        c.soil(1, 10);
        c.soil(2, 12);
        c.is(0, x -> x.costume(3, 9));
        c.is(5, x -> x.set(3, 9));
        c.soil(3, 8);
        c.is(-1, x -> x.wear(0, 0, 3));
        c.is(5, x -> x.perform());
        c.is(9, x -> x.costume(3, 9));
        c.illegal(x -> x.perform());
        c.is(4, x -> x.undo());
        c.is(8, x -> x.costume(3, 9));
        c.is(-1, x -> x.wear(1, 0, 3));
        c.is(5, x -> x.perform());
        c.is(9, x -> x.costume(3, 9));
    }

    @Sentence(of = "Performances", says = "and the next day is today then.")
    static void performancesTheNextDay(Case c) {
        c.is(1, x -> x.perform());
        c.is(1, x -> x.count(3));
        c.day(299);
        c.is(300, x -> x.perform());
        c.is(300, x -> x.count(3));
        c.full(x -> x.perform());
    }

    // ---- promises 11 and 12

    @Sentence(of = "Promise 11", says = "Lets an actor wear a costume in a scene, in place of what this actor wears "
            + "there.")
    static void promise11InPlaceOfWhatIsWornThere(Case c) {
        c.costumes(16);
        c.actors(8);
        c.is(-1, x -> x.wear(0, 0, 15));
        c.is(-1, x -> x.wear(11, 7, 14));
        c.is(15, x -> x.wear(0, 0, 0));
        for (int actor = 0; actor < 8; actor++) {
            int wearer = actor;
            c.all(3, 15, what -> wearer == 0 && what == 3 ? 0 : wearer == 7 && what == 14 ? 14 : -1,
                    what -> x -> x.actor(wearer, what));
        }
        c.is(0, x -> x.costume(15, 11));
        c.is(1, x -> x.costume(0, 11));
    }

    @Sentence(of = "Promise 11", says = "This is an action.")
    static void promise11IsAnAction(Case c) {
        c.costumes(1);
        c.actors(1);
        c.action(-1, x -> x.wear(0, 0, 0));
        c.action(0, x -> x.wear(0, 0, 0));
        c.action(0, x -> x.wear(0, 0, -1));
        c.action(-1, x -> x.wear(11, 0, -1));
    }

    @Sentence(of = "Promise 11", says = "- `scene`: 0 to 11")
    static void promise11Scene0To11(Case c) {
        c.costumes(1);
        c.actors(1);
        c.within(0, 11, scene -> x -> x.wear(scene, 0, 0));
        c.all(3, 15, what -> what == 3 || what == 14 ? 0 : -1, what -> x -> x.actor(0, what));
    }

    @Sentence(of = "Promise 11", says = "- `actor`: an actor")
    static void promise11Actor(Case c) {
        c.actorNumbers(actor -> x -> x.wear(0, actor, 0));
    }

    @Sentence(of = "Promise 11", says = "- `costume`: a costume, or -1 for none")
    static void promise11CostumeOrMinus1(Case c) {
        c.actors(1);
        c.is(-1, x -> x.wear(0, 0, -1));
        c.invalid(x -> x.wear(0, 0, -2));
        c.invalid(x -> x.wear(0, 0, 0));
        c.costumes(2);
        c.is(-1, x -> x.wear(0, 0, 0));
        c.is(0, x -> x.wear(0, 0, 1));
        c.invalid(x -> x.wear(0, 0, 2));
        c.invalid(x -> x.wear(0, 0, -2));
        c.invalid(x -> x.wear(0, 0, Integer.MIN_VALUE));
        c.invalid(x -> x.wear(0, 0, Integer.MAX_VALUE));
        c.costumes(14);
        c.is(1, x -> x.wear(0, 0, 15));
        c.invalid(x -> x.wear(0, 0, 16));
        c.is(15, x -> x.wear(0, 0, -1));
    }

    @Sentence(of = "Promise 11", says = "Returns the costume that the actor wore there before, or -1;")
    static void promise11ReturnsTheCostumeBefore(Case c) {
        c.costumes(16);
        c.actors(2);
        c.is(-1, x -> x.wear(3, 1, -1));
        c.is(-1, x -> x.wear(3, 1, 0));
        c.is(0, x -> x.wear(3, 1, 15));
        c.is(15, x -> x.wear(3, 1, 15));
        c.is(-1, x -> x.wear(2, 1, 15));
        c.is(-1, x -> x.wear(3, 0, 15));
        c.is(15, x -> x.wear(3, 1, -1));
        c.is(-1, x -> x.wear(3, 1, -1));
        c.is(4, x -> x.undo());
        c.is(3, x -> x.undo());
        c.is(15, x -> x.wear(3, 1, 1));
    }

    @Sentence(of = "Promise 11", says = "INVALID_ARGUMENT if an argument is out of range.")
    static void promise11Invalid(Case c) {
        c.invalid(x -> x.wear(0, 0, -1));
        c.actors(1);
        c.costumes(1);
        c.invalid(x -> x.wear(12, 1, 1));
        c.invalid(x -> x.wear(12, 0, -1));
        c.invalid(x -> x.wear(-1, 0, -1));
        c.invalid(x -> x.wear(0, 1, -1));
        c.invalid(x -> x.wear(0, -1, 0));
    }

    @Sentence(of = "Promise 12", says = "Performs.")
    static void promise12CountsThePerformance(Case c) {
        c.is(0, x -> x.count(9));
        c.is(1, x -> x.perform());
        c.is(1, x -> x.count(9));
        c.is(2, x -> x.perform());
        c.is(2, x -> x.count(9));
        c.is(1, x -> x.undo());
        c.is(1, x -> x.count(9));
    }

    @Sentence(of = "Promise 12", says = "This is an action.")
    static void promise12IsAnAction(Case c) {
        c.action(1, x -> x.perform());
        c.costumes(1);
        c.actors(1);
        c.is(-1, x -> x.wear(0, 0, 0));
        c.action(2, x -> x.perform());
        c.action(3, x -> x.perform());
    }

    @Sentence(of = "Promise 12", says = "Returns the day that is today then;")
    static void promise12ReturnsTheDay(Case c) {
        c.is(1, x -> x.perform());
        c.is(61, x -> x.pass(60));
        c.is(62, x -> x.perform());
        c.is(62, x -> x.count(3));
    }

    @Sentence(of = "Promise 12", says = "ILLEGAL_STATE if there is a problem;")
    static void promise12StateIfThereIsAProblemOfOneKind(Case c) {
        Case[] cases = new Case[5];
        for (int kind = 0; kind < 5; kind++) {
            cases[kind] = c.another();
            cases[kind].costumes(1);
            cases[kind].actors(kind < 2 ? 2 : 1);
        }
        cases[0].is(-1, x -> x.wear(11, 0, 0));
        cases[0].is(-1, x -> x.wear(11, 1, 0));
        cases[1].is(-1, x -> x.wear(10, 0, 0));
        cases[1].is(-1, x -> x.wear(11, 1, 0));
        cases[2].is(-1, x -> x.wear(11, 0, 0));
        cases[2].is(15, x -> x.alter(0, 2, -1));
        cases[3].is(-1, x -> x.wear(11, 0, 0));
        cases[3].is(1, x -> x.hire(0, 0, 1, 1));
        cases[4].is(5, x -> x.set(3, 1));
        cases[4].is(-1, x -> x.wear(11, 0, 0));
        cases[4].is(1, x -> x.perform());
        for (int kind = 0; kind < 5; kind++) {
            int only = kind;
            cases[kind].all(0, 5, other -> other == only ? 1 : 0, other -> x -> x.problems(other));
            cases[kind].illegal(x -> x.perform());
            cases[kind].succeeds(x -> x.wear(11, 0, -1));
            cases[kind].succeeds(x -> x.wear(10, 0, -1));
            cases[kind].succeeds(x -> x.perform());
        }
    }

    @Sentence(of = "Promise 12", says = "ILLEGAL_STATE if there is a problem;")
    static void promise12StateBeforeCapacity(Case c) {
        c.costumes(1);
        c.actors(2);
        c.is(-1, x -> x.wear(0, 0, 0));
        c.day(300);
        c.full(x -> x.perform());
        c.is(-1, x -> x.wear(0, 1, 0));
        c.illegal(x -> x.perform());
        c.is(0, x -> x.wear(0, 1, -1));
        c.full(x -> x.perform());
        c.is(52, x -> x.hire(0, 300, 60, 1));
        c.illegal(x -> x.perform());
    }

    @Sentence(of = "Promise 12", says = "CAPACITY_EXCEEDED if today is the day 300.")
    static void promise12CapacityOnTheDay300(Case c) {
        c.day(298);
        c.is(299, x -> x.perform());
        c.is(300, x -> x.perform());
        c.full(x -> x.perform());
        c.is(2, x -> x.count(9));
        c.is(4, x -> x.undo());
        c.is(300, x -> x.perform());
        c.full(x -> x.perform());
    }

    // ---- promises 23 and 26

    @Sentence(of = "Promise 23", says = "- `kind`: 0 to 4")
    static void promise23Kind0To4(Case c) {
        c.within(0, 4, kind -> x -> x.problems(kind));
    }

    @Sentence(of = "Promise 23", says = "Returns the number;")
    static void promise23ReturnsTheNumber(Case c) {
        c.costumes(2);
        for (int actor = 0; actor < 8; actor++) {
            c.succeeds(x -> x.addActor(109, 80, 120));
        }
        c.is(5, x -> x.set(3, 1));
        for (int scene = 0; scene < 12; scene++) {
            for (int actor = 0; actor < 8; actor++) {
                int where = scene;
                int wearer = actor;
                c.is(-1, x -> x.wear(where, wearer, (where + wearer) % 2));
            }
        }
        c.is(1, x -> x.hire(0, 0, 1, 1));
        int[] due = {24, 22, 96, 48, 0};
        for (int kind = 0; kind < 5; kind++) {
            int number = kind;
            c.looks(due[kind], x -> x.problems(number));
        }
        c.is(88, x -> x.count(4));
    }

    @Sentence(of = "Promise 23", says = "INVALID_ARGUMENT if kind is out of range.")
    static void promise23Invalid(Case c) {
        c.invalid(x -> x.problems(-1));
        c.invalid(x -> x.problems(5));
        c.all(0, 5, kind -> 0, kind -> x -> x.problems(kind));
    }

    @Sentence(of = "Promise 26", says = "of those that no other actor wears in this scene, in the one before or in "
            + "the one behind it")
    static void promise26WornByAnotherInTheThreeScenes(Case c) {
        c.costumes(1);
        c.actors(2);
        int[][] due = {{-2009, -2009, 0, 0, 0, 0, 0, 0, 0, 0, 0, 0}, {0, 0, 0, 0, -2009, -2009, -2009, 0, 0, 0, 0, 0},
            {0, 0, 0, 0, 0, 0, 0, 0, 0, 0, -2009, -2009}};
        for (int place = 0; place < 3; place++) {
            int[] want = due[place];
            int worn = new int[] {0, 5, 11}[place];
            c.is(-1, x -> x.wear(worn, 1, 0));
            c.all(0, 12, scene -> want[scene], scene -> x -> x.costumeFor(scene, 0));
            c.all(0, 12, scene -> 0, scene -> x -> x.costumeFor(scene, 1));
            c.is(0, x -> x.wear(worn, 1, -1));
        }
        c.is(-1, x -> x.wear(4, 0, 0));
        c.is(-1, x -> x.wear(5, 0, 0));
        c.is(-1, x -> x.wear(6, 0, 0));
        c.looks(0, x -> x.costumeFor(5, 0));
        c.is(-1, x -> x.wear(6, 1, 0));
        c.none(x -> x.costumeFor(5, 0));
    }

    @Sentence(of = "Promise 26", says = "that are not away today")
    static void promise26NotAwayToday(Case c) {
        c.costumes(1);
        c.actors(1);
        c.is(2, x -> x.hire(0, 1, 2, 1));
        int[] due = {0, -2009, -2009, 0};
        for (int day = 0; day < 4; day++) {
            int today = day;
            c.day(today);
            c.looks(due[day], x -> x.costumeFor(0, 0));
        }
    }

    @Sentence(of = "Promise 26", says = "and whose dirt is less than the dirt limit")
    static void promise26DirtLessThanTheLimit(Case c) {
        c.costumes(1);
        c.actors(1);
        c.soil(0, 4);
        c.is(0, x -> x.costumeFor(0, 0));
        c.is(5, x -> x.set(3, 4));
        c.none(x -> x.costumeFor(0, 0));
        c.is(4, x -> x.set(3, 1));
        c.none(x -> x.costumeFor(0, 0));
        c.is(4, x -> x.wash(0, 1));
        c.is(0, x -> x.costumeFor(0, 0));
        Case second = c.another();
        second.actors(2);
        second.costumes(3);
        second.soil(1, 5);
        second.is(0, x -> x.costumeFor(1, 1));
        second.is(1, x -> x.hire(0, 1, 1, 1));
        second.is(2, x -> x.costumeFor(0, 0));
        second.is(2, x -> x.costumeFor(1, 1));
        second.is(1, x -> x.hire(2, 1, 1, 1));
        second.none(x -> x.costumeFor(0, 0));
        second.none(x -> x.costumeFor(1, 1));
    }

    @Sentence(of = "Promise 26", says = "the one with the smallest least alteration for this actor (those without "
            + "one do not count)")
    static void promise26SmallestLeastAlteration(Case c) {
        c.is(0, x -> x.addCostume(91, 100, 100, 8, 0));
        c.is(1, x -> x.addCostume(92, 100, 100, 8, 0));
        c.is(0, x -> x.addActor(100, 100, 100));
        c.is(1, x -> x.costumeFor(0, 0));
        c.is(2, x -> x.addCostume(93, 100, 100, 8, 0));
        c.is(2, x -> x.costumeFor(0, 0));
        c.is(3, x -> x.addCostume(93, 99, 100, 8, 0));
        c.is(2, x -> x.costumeFor(0, 0));
        c.is(4, x -> x.addCostume(100, 100, 100, 8, 0));
        c.is(4, x -> x.costumeFor(0, 0));
        c.is(1, x -> x.addActor(99, 100, 100));
        c.is(4, x -> x.costumeFor(0, 1));
        c.is(15, x -> x.alter(4, 0, -1));
        c.is(4, x -> x.costumeFor(0, 1));
        c.is(4, x -> x.costumeFor(0, 0));
    }

    @Sentence(of = "Promise 26", says = "of several the smallest number.")
    static void promise26SmallestNumber(Case c) {
        c.actors(1);
        c.is(0, x -> x.addCostume(109, 80, 120, 8, 0));
        for (int time = 0; time < 13; time++) {
            c.succeeds(x -> x.addCostume(99, 80, 120, 8, 0));
        }
        c.is(1, x -> x.costumeFor(0, 0));
        c.costumes(2);
        c.is(14, x -> x.costumeFor(0, 0));
        c.is(1, x -> x.hire(14, 0, 1, 1));
        c.is(15, x -> x.costumeFor(0, 0));
        c.is(1, x -> x.hire(15, 0, 1, 1));
        c.is(1, x -> x.costumeFor(0, 0));
        c.is(1, x -> x.hire(1, 0, 1, 1));
        c.is(2, x -> x.costumeFor(0, 0));
    }

    @Sentence(of = "Promise 26", says = "- `scene`: 0 to 11")
    static void promise26Scene0To11(Case c) {
        c.costumes(1);
        c.actors(1);
        c.within(0, 11, scene -> x -> x.costumeFor(scene, 0));
    }

    @Sentence(of = "Promise 26", says = "- `actor`: an actor")
    static void promise26Actor(Case c) {
        c.actorNumbers(actor -> x -> x.costumeFor(0, actor));
    }

    @Sentence(of = "Promise 26", says = "Returns the costume;")
    static void promise26ReturnsTheCostume(Case c) {
        c.actors(1);
        c.costumes(1);
        c.looks(0, x -> x.costumeFor(0, 0));
        Case last = c.another();
        last.actors(1);
        for (int costume = 0; costume < 15; costume++) {
            last.succeeds(x -> x.addCostume(200, 80, 120, 8, 0));
        }
        last.none(x -> x.costumeFor(11, 0));
        last.costumes(1);
        last.looks(15, x -> x.costumeFor(11, 0));
    }

    @Sentence(of = "Promise 26", says = "INVALID_ARGUMENT if an argument is out of range;")
    static void promise26InvalidBeforeNone(Case c) {
        c.invalid(x -> x.costumeFor(0, 0));
        c.actors(1);
        c.none(x -> x.costumeFor(0, 0));
        c.invalid(x -> x.costumeFor(12, 0));
        c.invalid(x -> x.costumeFor(-1, 0));
        c.invalid(x -> x.costumeFor(0, 1));
        c.invalid(x -> x.costumeFor(0, -1));
    }

    @Sentence(of = "Promise 26", says = "NONE if there is none.")
    static void promise26NoneIfThereIsNone(Case c) {
        c.actors(1);
        c.none(x -> x.costumeFor(0, 0));
        c.is(0, x -> x.addCostume(92, 80, 120, 8, 0));
        c.is(0, x -> x.costumeFor(0, 0));
        c.is(1, x -> x.hire(0, 0, 1, 1));
        c.none(x -> x.costumeFor(0, 0));
        c.is(1, x -> x.addCostume(92, 80, 120, 7, 0));
        c.none(x -> x.costumeFor(0, 0));
        c.day(1);
        c.is(0, x -> x.costumeFor(0, 0));
    }
}
