import java.util.LinkedHashMap;
import java.util.Map;

/** Boundaries of the history, of errors and of looking: promises 17 to 21, and what the description says. */
final class LookingBoundaries {
    private static final int INVALID = -2001;
    private static final int STATE = -2002;
    private static final int FULL = -2003;

    private LookingBoundaries() {
    }

    // ---- the section Undo

    @Sentence(of = "Undo", says = "A history of at most 5 states is kept;")
    static void undoOfAtMost5States(Case c) {
        c.all(1, 6, day -> day, day -> x -> x.pass(1));
        c.is(5, x -> x.count(10));
        c.is(6, x -> x.pass(1));
        c.is(5, x -> x.count(10));
        for (int left = 4; left >= 0; left--) {
            int today = left + 1;
            c.is(left, x -> x.undo());
            c.is(today, x -> x.count(3));
        }
        c.illegal(x -> x.undo());
        c.is(1, x -> x.count(3));
    }

    @Sentence(of = "Undo", says = "a state is everything but the text and the history.")
    static void undoRestoresEverythingButTheText(Case c) {
        rich(c);
        c.action(7, x -> x.addCostume(50, 50, 50, 3, 3));
        c.is(4, x -> x.undo());
        c.type("ab");
        c.succeeds(x -> x.pass(1));
        c.type("cd");
        c.is(6, x -> x.count(11));
        c.is(4, x -> x.undo());
        c.is(6, x -> x.count(11));
        c.succeeds(x -> x.pass(1));
        c.is(6, x -> x.clearText());
        c.is(4, x -> x.undo());
        c.is(0, x -> x.count(11));
    }

    @Sentence(of = "Undo", says = "a state is everything but the text and the history.")
    static void undoRestoresAnAlterationWhosePlaceAnotherTook(Case c) {
        c.costumes(1);
        c.is(25, x -> x.alter(0, 0, 3));
        c.is(11, x -> x.unpick(0));
        c.is(40, x -> x.alter(0, 1, -6));
        c.is(3, x -> x.undo());
        c.none(x -> x.alteration(0, 0, 0));
        c.is(2, x -> x.undo());
        c.is(0, x -> x.alteration(0, 0, 0));
        c.is(3, x -> x.alteration(0, 0, 1));
        c.is(103, x -> x.costume(0, 0));
        c.is(80, x -> x.costume(0, 1));
    }

    @Sentence(of = "Undo", says = "Every successful call of a method that is called an action records the state "
            + "before it;")
    static void undoOfEveryAction(Case c) {
        Map<Case.Call, Integer> actions = new LinkedHashMap<>();
        actions.put(x -> x.addCostume(100, 100, 100, 0, 0), 7);
        actions.put(x -> x.setColor(0, 1), 0);
        actions.put(x -> x.addActor(100, 100, 100), 2);
        actions.put(x -> x.set(3, 9), 5);
        actions.put(x -> x.alter(0, 0, 1), 15);
        actions.put(x -> x.unpick(0), 7);
        actions.put(x -> x.load(), 0);
        actions.put(x -> x.wear(11, 0, 0), -1);
        actions.put(x -> x.perform(), 2);
        actions.put(x -> x.pass(60), 61);
        actions.put(x -> x.hire(0, 250, 1, 1), 1);
        actions.put(x -> x.endHire(0), 2);
        actions.put(x -> x.wash(0, 1), 3);
        actions.forEach((action, due) -> {
            Case one = c.another();
            rich(one);
            one.succeeds(x -> x.clearText());
            one.action(due, action);
            one.is(4, x -> x.undo());
            one.action(due, action);
        });
    }

    @Sentence(of = "Undo", says = "Every successful call of a method that is called an action records the state "
            + "before it;")
    static void undoOfNothingElse(Case c) {
        c.costumes(1);
        c.actors(1);
        c.is(2, x -> x.count(10));
        c.is(1, x -> x.append('x'));
        c.is(1, x -> x.clearText());
        c.is(0, x -> x.costume(0, 9));
        c.is(0, x -> x.problems(0));
        c.is(0, x -> x.misfit(0, 0));
        c.is(0, x -> x.leastAlteration(0, 0));
        c.is(0, x -> x.costumeFor(0, 0));
        c.is(0, x -> x.freeFrom(0, 1));
        c.is(0, x -> x.washable(0, 0));
        c.is(2, x -> x.count(10));
        c.is(1, x -> x.undo());
        c.is(1, x -> x.count(10));
        c.is(0, x -> x.undo());
        c.illegal(x -> x.undo());
    }

    @Sentence(of = "Undo", says = "when a sixth one is recorded, the oldest one is dropped.")
    static void undoDropsTheOldestOfSix(Case c) {
        c.all(0, 5, costume -> costume, costume -> x -> x.addCostume(100 + costume, 80, 120, 8, 0));
        Case five = c.another();
        five.all(0, 5, costume -> costume, costume -> x -> x.addCostume(100 + costume, 80, 120, 8, 0));
        five.all(0, 5, time -> 4 - time, time -> x -> x.undo());
        five.is(0, x -> x.count(0));
        five.illegal(x -> x.undo());
        c.is(5, x -> x.addCostume(105, 80, 120, 8, 0));
        c.all(0, 5, time -> 4 - time, time -> x -> x.undo());
        c.is(1, x -> x.count(0));
        c.is(100, x -> x.costume(0, 0));
        c.illegal(x -> x.undo());
        Case many = c.another();
        many.all(0, 300, day -> day + 1, day -> x -> x.pass(1));
        many.all(0, 5, time -> 4 - time, time -> x -> x.undo());
        many.is(295, x -> x.count(3));
        many.illegal(x -> x.undo());
    }

    @Sentence(of = "Undo", says = "undo() removes the latest state from the history and restores it.")
    static void undoRemovesTheLatest(Case c) {
        c.is(1, x -> x.pass(1));
        c.is(3, x -> x.pass(2));
        c.is(1, x -> x.undo());
        c.is(1, x -> x.count(3));
        c.is(5, x -> x.pass(4));
        c.is(1, x -> x.undo());
        c.is(1, x -> x.count(3));
        c.is(0, x -> x.undo());
        c.is(0, x -> x.count(3));
        c.illegal(x -> x.undo());
        c.is(7, x -> x.pass(7));
        c.is(0, x -> x.undo());
        c.illegal(x -> x.undo());
    }

    // ---- the section Errors

    /** 7 costumes, 2 actors, an alteration, dirt, 2 hires, a wearer, a text with an error, 5 states, on the day 1. */
    private static void rich(Case c) {
        c.actors(2);
        c.costumes(7);
        c.soil(0, 3);
        c.is(15, x -> x.alter(0, 1, 1));
        c.is(0, x -> x.setColor(2, 1));
        c.is(5, x -> x.hire(1, 1, 5, 1));
        c.is(5, x -> x.hire(0, 3, 5, 1));
        c.is(-1, x -> x.wear(3, 1, 4));
        c.type("x;");
    }

    /** 16 costumes, 8 actors, 24 hires, 6 alterations of the costume 5, 120 characters, 5 states, on the day 300. */
    private static void full(Case c) {
        c.actors(8);
        c.costumes(16);
        for (int time = 0; time < 6; time++) {
            c.is(15, x -> x.alter(5, 0, 1));
        }
        c.hireDays(6, 0, 18);
        c.day(300);
        for (int costume : new int[] {0, 1, 2, 3, 4}) {
            c.is(1, x -> x.hire(costume, 300, 1, 1));
        }
        c.type("costume 40 40 40 0 0;" + " ".repeat(99));
    }

    @Sentence(of = "Errors", says = "A call that returns an error code changes nothing.")
    static void errorsChangeNothing(Case c) {
        rich(c);
        Map<Case.Call, Integer> errors = new LinkedHashMap<>();
        errors.put(x -> x.addCostume(39, 100, 100, 0, 0), INVALID);
        errors.put(x -> x.setColor(7, 0), INVALID);
        errors.put(x -> x.addActor(100, 100, 201), INVALID);
        errors.put(x -> x.set(4, 1), INVALID);
        errors.put(x -> x.alter(0, 0, 0), INVALID);
        errors.put(x -> x.alter(1, 0, 1), STATE);
        errors.put(x -> x.alter(2, 0, 9), STATE);
        errors.put(x -> x.unpick(7), INVALID);
        errors.put(x -> x.unpick(2), STATE);
        errors.put(x -> x.append(256), INVALID);
        errors.put(x -> x.load(), -10000);
        errors.put(x -> x.wear(0, 2, 0), INVALID);
        errors.put(x -> x.pass(0), INVALID);
        errors.put(x -> x.hire(0, 300, 61, 1), INVALID);
        errors.put(x -> x.hire(0, 4, 60, 1), STATE);
        errors.put(x -> x.endHire(2), INVALID);
        errors.put(x -> x.endHire(1), STATE);
        errors.put(x -> x.wash(0, 128), INVALID);
        errors.put(x -> x.wash(0, 2), STATE);
        errors.put(x -> x.wash(0, 1 + 4), STATE);
        errors.put(x -> x.count(16), INVALID);
        errors.put(x -> x.costume(7, 0), INVALID);
        errors.put(x -> x.alteration(0, -1, 0), INVALID);
        errors.put(x -> x.alteration(0, 1, 0), -2009);
        errors.put(x -> x.actor(2, 0), INVALID);
        errors.put(x -> x.hired(0, 4), INVALID);
        errors.put(x -> x.problems(5), INVALID);
        errors.put(x -> x.misfit(0, 2), INVALID);
        errors.put(x -> x.leastAlteration(7, 0), INVALID);
        errors.put(x -> x.costumeFor(12, 0), INVALID);
        errors.put(x -> x.freeFrom(0, 61), INVALID);
        errors.put(x -> x.washable(0, 2), INVALID);
        errors.forEach((call, error) -> c.looks(error, call));
    }

    @Sentence(of = "Errors", says = "A call that returns an error code changes nothing.")
    static void errorsOfAFullStockChangeNothing(Case c) {
        full(c);
        Map<Case.Call, Integer> errors = new LinkedHashMap<>();
        errors.put(x -> x.addCostume(100, 100, 100, 0, 0), FULL);
        errors.put(x -> x.addActor(100, 100, 100), FULL);
        errors.put(x -> x.alter(5, 0, 1), FULL);
        errors.put(x -> x.alter(0, 0, 1), STATE);
        errors.put(x -> x.append(' '), FULL);
        errors.put(x -> x.load(), -10000);
        errors.put(x -> x.perform(), FULL);
        errors.put(x -> x.pass(1), FULL);
        errors.put(x -> x.hire(0, 300, 1, 1), STATE);
        errors.put(x -> x.hire(6, 300, 1, 1), FULL);
        errors.put(x -> x.endHire(0), STATE);
        errors.put(x -> x.endHire(23), STATE);
        errors.put(x -> x.wash(0, 1), STATE);
        errors.forEach((call, error) -> c.looks(error, call));
    }

    @Sentence(of = "Errors", says = "If several error conditions apply, the method returns the one that its "
            + "description lists first;")
    static void errorsTheOneThatIsListedFirst(Case c) {
        full(c);
        c.invalid(x -> x.addCostume(39, 100, 100, 0, 0));
        c.full(x -> x.addCostume(40, 100, 100, 0, 0));
        c.invalid(x -> x.addActor(39, 100, 100));
        c.full(x -> x.addActor(40, 100, 100));
        c.invalid(x -> x.alter(5, 3, 9));
        c.illegal(x -> x.alter(5, 2, 9));
        c.full(x -> x.alter(5, 2, 8));
        c.invalid(x -> x.append(0));
        c.full(x -> x.append(1));
        c.invalid(x -> x.pass(61));
        c.full(x -> x.pass(60));
        c.is(-1, x -> x.wear(0, 0, 0));
        c.illegal(x -> x.perform());
        c.is(0, x -> x.wear(0, 0, 6));
        c.full(x -> x.perform());
        c.invalid(x -> x.hire(0, 300, 0, 1));
        c.illegal(x -> x.hire(0, 300, 1, 1));
        c.full(x -> x.hire(6, 300, 1, 1));
        c.invalid(x -> x.wash(4, 1));
        c.illegal(x -> x.wash(3, 1));
    }

    @Sentence(of = "Errors", says = "NONE is no error, and it is returned only if no error condition applies.")
    static void errorsBeforeNone(Case c) {
        c.actors(1);
        c.is(0, x -> x.addCostume(200, 200, 200, 0, 0));
        c.none(x -> x.alteration(0, 0, 1));
        c.invalid(x -> x.alteration(0, 0, 2));
        c.invalid(x -> x.alteration(1, 0, 1));
        c.none(x -> x.leastAlteration(0, 0));
        c.invalid(x -> x.leastAlteration(0, 1));
        c.none(x -> x.costumeFor(11, 0));
        c.invalid(x -> x.costumeFor(12, 0));
        c.invalid(x -> x.costumeFor(11, 1));
    }

    @Sentence(of = "Errors", says = "- `INVALID_ARGUMENT = -2001`: An argument is out of range, or names something "
            + "that does not exist.")
    static void errorsInvalidArgument(Case c) {
        Due.is("INVALID_ARGUMENT", CostumeStock.INVALID_ARGUMENT, -2001);
        c.is(-2001, x -> x.count(16));
        c.is(-2001, x -> x.costume(0, 0));
    }

    @Sentence(of = "Errors", says = "- `ILLEGAL_STATE = -2002`: The call is not possible in the present state.")
    static void errorsIllegalState(Case c) {
        Due.is("ILLEGAL_STATE", CostumeStock.ILLEGAL_STATE, -2002);
        c.is(-2002, x -> x.undo());
    }

    @Sentence(of = "Errors", says = "- `CAPACITY_EXCEEDED = -2003`: There is no room.")
    static void errorsCapacityExceeded(Case c) {
        Due.is("CAPACITY_EXCEEDED", CostumeStock.CAPACITY_EXCEEDED, -2003);
        c.actors(8);
        c.is(-2003, x -> x.addActor(100, 100, 100));
    }

    @Sentence(of = "Errors", says = "- `NONE = -2009`: There is no such value.")
    static void errorsNone(Case c) {
        Due.is("NONE", CostumeStock.NONE, -2009);
        c.actors(1);
        c.is(-2009, x -> x.costumeFor(0, 0));
    }

    // ---- promises 17 and 18

    @Sentence(of = "Promise 17", says = "Removes the latest state from the history and restores it.")
    static void promise17RestoresTheLatest(Case c) {
        c.costumes(1);
        c.is(0, x -> x.setColor(0, 1));
        c.is(1, x -> x.setColor(0, 0));
        c.is(2, x -> x.undo());
        c.is(1, x -> x.costume(0, 8));
        c.is(1, x -> x.undo());
        c.is(0, x -> x.costume(0, 8));
        c.is(0, x -> x.undo());
        c.invalid(x -> x.costume(0, 8));
    }

    @Sentence(of = "Promise 17", says = "Returns the number of states that are left in the history;")
    static void promise17ReturnsWhatIsLeft(Case c) {
        c.is(1, x -> x.pass(1));
        c.is(0, x -> x.undo());
        c.all(1, 10, day -> day, day -> x -> x.pass(1));
        c.all(0, 5, time -> 4 - time, time -> x -> x.undo());
        c.is(0, x -> x.count(10));
    }

    @Sentence(of = "Promise 17", says = "ILLEGAL_STATE if it is empty.")
    static void promise17StateIfEmpty(Case c) {
        c.illegal(x -> x.undo());
        c.invalid(x -> x.pass(0));
        c.illegal(x -> x.undo());
        c.is(1, x -> x.pass(1));
        c.is(0, x -> x.undo());
        c.illegal(x -> x.undo());
        c.illegal(x -> x.undo());
        c.is(1, x -> x.pass(1));
        c.is(0, x -> x.undo());
    }

    @Sentence(of = "Promise 18", says = "0 the number of costumes")
    static void promise18Costumes(Case c) {
        c.looks(0, x -> x.count(0));
        c.costumes(16);
        c.full(x -> x.addCostume(100, 100, 100, 0, 0));
        c.looks(16, x -> x.count(0));
        c.is(4, x -> x.undo());
        c.looks(15, x -> x.count(0));
    }

    @Sentence(of = "Promise 18", says = "1 of actors")
    static void promise18Actors(Case c) {
        c.looks(0, x -> x.count(1));
        c.actors(8);
        c.full(x -> x.addActor(100, 100, 100));
        c.looks(8, x -> x.count(1));
        c.is(4, x -> x.undo());
        c.looks(7, x -> x.count(1));
    }

    @Sentence(of = "Promise 18", says = "2 of hires")
    static void promise18Hires(Case c) {
        c.costumes(1);
        c.looks(0, x -> x.count(2));
        c.hireDays(0, 0, 23);
        c.full(x -> x.hire(0, 24, 1, 1));
        c.looks(24, x -> x.count(2));
        c.day(30);
        c.looks(24, x -> x.count(2));
    }

    @Sentence(of = "Promise 18", says = "3 today")
    static void promise18Today(Case c) {
        c.looks(0, x -> x.count(3));
        c.day(299);
        c.looks(299, x -> x.count(3));
        c.is(300, x -> x.perform());
        c.full(x -> x.pass(1));
        c.looks(300, x -> x.count(3));
    }

    @Sentence(of = "Promise 18", says = "4 the number of quick changes")
    static void promise18QuickChanges(Case c) {
        c.costumes(2);
        c.actors(8);
        c.looks(0, x -> x.count(4));
        for (int scene = 0; scene < 12; scene++) {
            for (int actor = 0; actor < 8; actor++) {
                int where = scene;
                int wearer = actor;
                c.is(-1, x -> x.wear(where, wearer, where % 2));
            }
        }
        c.looks(8 * 11, x -> x.count(4));
        c.is(0, x -> x.wear(0, 0, 1));
        c.is(87, x -> x.count(4));
        c.is(1, x -> x.wear(11, 7, -1));
        c.is(86, x -> x.count(4));
        c.is(0, x -> x.wear(6, 3, -1));
        c.is(84, x -> x.count(4));
    }

    @Sentence(of = "Promise 18", says = "5 the minutes of all alterations that were made and unpicked")
    static void promise18Minutes(Case c) {
        c.costumes(2);
        c.looks(0, x -> x.count(5));
        c.is(15, x -> x.alter(0, 0, 1));
        c.looks(15, x -> x.count(5));
        c.is(7, x -> x.unpick(0));
        c.looks(22, x -> x.count(5));
        c.illegal(x -> x.unpick(0));
        c.is(60, x -> x.alter(1, 0, -10));
        c.is(82, x -> x.count(5));
        c.is(4, x -> x.undo());
        c.is(22, x -> x.count(5));
    }

    @Sentence(of = "Promise 18", says = "6 the fees earned less what was paid back")
    static void promise18Fees(Case c) {
        c.costumes(1);
        c.looks(0, x -> x.count(6));
        c.is(2600, x -> x.hire(0, 0, 60, 50));
        c.looks(2600, x -> x.count(6));
        c.is(1275, x -> x.endHire(0));
        c.looks(1325, x -> x.count(6));
        c.is(1, x -> x.hire(0, 1, 1, 1));
        c.looks(1326, x -> x.count(6));
        c.is(3, x -> x.undo());
        c.is(2, x -> x.undo());
        c.looks(2600, x -> x.count(6));
    }

    @Sentence(of = "Promise 18", says = "7 the cost of all washing")
    static void promise18CostOfWashing(Case c) {
        c.costumes(5);
        c.is(5, x -> x.addCostume(100, 100, 100, 0, 3));
        c.looks(0, x -> x.count(7));
        c.is(0, x -> x.wash(1, 31));
        c.looks(6, x -> x.count(7));
        c.illegal(x -> x.wash(3, 31));
        c.is(0, x -> x.wash(3, 32));
        c.looks(21, x -> x.count(7));
        c.is(4, x -> x.undo());
        c.looks(6, x -> x.count(7));
    }

    @Sentence(of = "Promise 18", says = "8 the set of costumes that are away today")
    static void promise18Away(Case c) {
        c.costumes(16);
        c.looks(0, x -> x.count(8));
        int sum = 0;
        for (int costume = 15; costume >= 0; costume--) {
            int hired = costume;
            sum += 1 << costume;
            c.is(1, x -> x.hire(hired, 0, 1, 1));
            c.is(sum, x -> x.count(8));
        }
        c.looks(65535, x -> x.count(8));
        c.is(1, x -> x.pass(1));
        c.looks(0, x -> x.count(8));
        c.is(4, x -> x.undo());
        c.is(65535, x -> x.count(8));
    }

    @Sentence(of = "Promise 18", says = "9 the number of performances")
    static void promise18Performances(Case c) {
        c.costumes(1);
        c.actors(2);
        c.looks(0, x -> x.count(9));
        c.all(0, 300, day -> day + 1, day -> x -> x.perform());
        c.looks(300, x -> x.count(9));
        c.full(x -> x.perform());
        c.is(4, x -> x.undo());
        c.is(299, x -> x.count(9));
        Case refused = c.another();
        refused.costumes(1);
        refused.actors(2);
        refused.is(-1, x -> x.wear(0, 0, 0));
        refused.is(-1, x -> x.wear(0, 1, 0));
        refused.illegal(x -> x.perform());
        refused.looks(0, x -> x.count(9));
    }

    @Sentence(of = "Promise 18", says = "10 the states in the history")
    static void promise18States(Case c) {
        c.looks(0, x -> x.count(10));
        for (int state = 1; state <= 7; state++) {
            int states = Math.min(state, 5);
            c.succeeds(x -> x.set(0, 6));
            c.is(states, x -> x.count(10));
        }
        for (int left = 4; left >= 0; left--) {
            c.is(left, x -> x.undo());
            c.is(left, x -> x.count(10));
        }
    }

    @Sentence(of = "Promise 18", says = "11 the length of the text")
    static void promise18LengthOfTheText(Case c) {
        c.looks(0, x -> x.count(11));
        c.type(" ");
        c.looks(1, x -> x.count(11));
        c.type(" ".repeat(119));
        c.looks(120, x -> x.count(11));
        c.full(x -> x.append(' '));
        c.is(120, x -> x.count(11));
        c.is(0, x -> x.load());
        c.is(0, x -> x.count(11));
    }

    @Sentence(of = "Promise 18", says = "12 to 15 the settings 0 to 3")
    static void promise18Settings(Case c) {
        int[] first = {6, 6, 4, 5};
        int[] least = {0, 0, 0, 1};
        int[] greatest = {20, 20, 20, 9};
        for (int setting = 0; setting < 4; setting++) {
            int what = setting;
            c.looks(first[what], x -> x.count(12 + what));
            c.is(first[what], x -> x.set(what, least[what]));
            c.looks(least[what], x -> x.count(12 + what));
            c.is(least[what], x -> x.set(what, greatest[what]));
            c.looks(greatest[what], x -> x.count(12 + what));
        }
    }

    @Sentence(of = "Promise 18", says = "INVALID_ARGUMENT if what is out of range.")
    static void promise18InvalidWhat(Case c) {
        c.within(0, 15, what -> x -> x.count(what));
    }

    // ---- promises 19 to 21

    @Sentence(of = "Promise 19", says = "- `costume`: a costume")
    static void promise19Costume(Case c) {
        c.costumeNumbers(costume -> x -> x.costume(costume, 12));
    }

    @Sentence(of = "Promise 19", says = "0 to 2 its present measures, 3 to 5 its original ones")
    static void promise19Measures(Case c) {
        c.is(0, x -> x.addCostume(40, 120, 200, 8, 0));
        c.is(50, x -> x.alter(0, 0, 8));
        c.is(60, x -> x.alter(0, 1, -10));
        c.is(60, x -> x.alter(0, 1, -10));
        c.is(50, x -> x.alter(0, 2, 8));
        int[] due = {48, 100, 208, 40, 120, 200};
        for (int measure = 0; measure < 6; measure++) {
            int what = measure;
            c.looks(due[what], x -> x.costume(0, what));
        }
    }

    @Sentence(of = "Promise 19", says = "6 its allowance, 7 its code, 8 its color, 9 its dirt")
    static void promise19AllowanceCodeColorDirt(Case c) {
        c.actors(1);
        c.is(0, x -> x.addCostume(100, 80, 120, 0, 0));
        c.is(1, x -> x.addCostume(100, 80, 120, 8, 3));
        c.all(6, 10, what -> 0, what -> x -> x.costume(0, what));
        c.is(0, x -> x.setColor(1, 1));
        c.soil(1, 12);
        c.all(6, 10, what -> new int[] {8, 3, 1, 9}[what - 6], what -> x -> x.costume(1, what));
        c.all(6, 10, what -> 0, what -> x -> x.costume(0, what));
        Case last = c.another();
        last.actors(1);
        last.costumes(15);
        last.is(15, x -> x.addCostume(100, 80, 120, 7, 2));
        last.is(0, x -> x.setColor(15, 1));
        last.soil(15, 5);
        last.all(6, 10, what -> new int[] {7, 2, 1, 5}[what - 6], what -> x -> x.costume(15, what));
        last.all(6, 10, what -> what == 6 ? 8 : 0, what -> x -> x.costume(14, what));
    }

    @Sentence(of = "Promise 19", says = "10 the number of its alterations")
    static void promise19Alterations(Case c) {
        c.costumes(2);
        for (int made = 0; made < 6; made++) {
            c.looks(made, x -> x.costume(1, 10));
            c.is(15, x -> x.alter(1, 0, 1));
        }
        c.full(x -> x.alter(1, 0, 1));
        c.looks(6, x -> x.costume(1, 10));
        c.is(0, x -> x.costume(0, 10));
        c.is(7, x -> x.unpick(1));
        c.is(5, x -> x.costume(1, 10));
    }

    @Sentence(of = "Promise 19", says = "11 the number of scenes in which it is worn")
    static void promise19Scenes(Case c) {
        c.costumes(2);
        c.actors(2);
        for (int scene = 0; scene < 12; scene++) {
            int where = scene;
            c.is(scene, x -> x.costume(1, 11));
            c.is(-1, x -> x.wear(where, 0, 1));
            c.is(-1, x -> x.wear(where, 1, 1));
        }
        c.looks(12, x -> x.costume(1, 11));
        c.looks(0, x -> x.costume(0, 11));
        c.is(1, x -> x.wear(11, 0, -1));
        c.looks(12, x -> x.costume(1, 11));
        c.is(1, x -> x.wear(11, 1, 0));
        c.looks(11, x -> x.costume(1, 11));
        c.looks(1, x -> x.costume(0, 11));
    }

    @Sentence(of = "Promise 19", says = "12 the number of its hires")
    static void promise19Hires(Case c) {
        c.costumes(3);
        c.looks(0, x -> x.costume(1, 12));
        c.hireDays(1, 0, 23);
        c.looks(24, x -> x.costume(1, 12));
        c.looks(0, x -> x.costume(0, 12));
        c.looks(0, x -> x.costume(2, 12));
        c.day(60);
        c.looks(24, x -> x.costume(1, 12));
    }

    @Sentence(of = "Promise 19", says = "INVALID_ARGUMENT if there is no such costume or what is out of range.")
    static void promise19InvalidWhat(Case c) {
        c.costumes(1);
        c.within(0, 12, what -> x -> x.costume(0, what));
        c.invalid(x -> x.costume(1, 13));
        c.invalid(x -> x.costume(1, 0));
        c.invalid(x -> x.costume(-1, 12));
    }

    @Sentence(of = "Promise 20", says = "- `costume`: a costume")
    static void promise20Costume(Case c) {
        c.costumeNumbers(costume -> x -> x.alter(costume, 0, 1), costume -> x -> x.alteration(costume, 0, 0));
    }

    @Sentence(of = "Promise 20", says = "- `index`: 0 for the first one that was made")
    static void promise20IndexFrom0(Case c) {
        c.costumes(16);
        int[] changes = {1, 2, -3, 4, -5, 1};
        for (int index = 0; index < 6; index++) {
            int at = index;
            c.none(x -> x.alteration(15, at, 1));
            c.succeeds(x -> x.alter(15, at % 3, changes[at]));
        }
        c.all(0, 6, index -> index % 3, index -> x -> x.alteration(15, index, 0));
        c.all(0, 6, index -> changes[index], index -> x -> x.alteration(15, index, 1));
        c.invalid(x -> x.alteration(15, -1, 1));
        c.invalid(x -> x.alteration(15, Integer.MIN_VALUE, 1));
        c.none(x -> x.alteration(14, 0, 1));
    }

    @Sentence(of = "Promise 20", says = "- `what`: 0 its measure, 1 its change")
    static void promise20What0Or1(Case c) {
        c.costumes(1);
        c.is(50, x -> x.alter(0, 2, 8));
        c.within(0, 1, what -> x -> x.alteration(0, 0, what));
        c.is(60, x -> x.alter(0, 1, -10));
        c.all(0, 4, part -> new int[] {2, 8, 1, -10}[part], part -> x -> x.alteration(0, part / 2, part % 2));
    }

    @Sentence(of = "Promise 20", says = "INVALID_ARGUMENT if there is no such costume, index is negative or what is "
            + "out of range;")
    static void promise20InvalidBeforeNone(Case c) {
        c.invalid(x -> x.alteration(0, 0, 0));
        c.costumes(1);
        c.none(x -> x.alteration(0, 0, 0));
        c.invalid(x -> x.alteration(1, 0, 0));
        c.invalid(x -> x.alteration(0, -1, 0));
        c.invalid(x -> x.alteration(0, 0, 2));
        c.invalid(x -> x.alteration(0, 7, -1));
        c.invalid(x -> x.alteration(0, Integer.MAX_VALUE, 2));
    }

    @Sentence(of = "Promise 20", says = "NONE if there are not so many.")
    static void promise20NoneIfThereAreNotSoMany(Case c) {
        c.costumes(2);
        for (int time = 0; time < 6; time++) {
            c.is(15, x -> x.alter(0, 1, 1));
        }
        c.looks(1, x -> x.alteration(0, 5, 1));
        c.none(x -> x.alteration(0, 6, 1));
        c.none(x -> x.alteration(0, 7, 0));
        c.none(x -> x.alteration(0, Integer.MAX_VALUE, 1));
        c.is(7, x -> x.unpick(0));
        c.none(x -> x.alteration(0, 5, 1));
        c.looks(1, x -> x.alteration(0, 4, 1));
        c.none(x -> x.alteration(1, 0, 0));
    }

    @Sentence(of = "Promise 21", says = "- `actor`: an actor")
    static void promise21Actor(Case c) {
        c.actorNumbers(actor -> x -> x.actor(actor, 14));
    }

    @Sentence(of = "Promise 21", says = "- `what`: 0 to 2 the measures, 3 to 14 the costume in the scene what - 3 "
            + "(-1 for none)")
    static void promise21What0To14(Case c) {
        c.costumes(12);
        c.is(0, x -> x.addActor(40, 120, 200));
        c.within(0, 14, what -> x -> x.actor(0, what));
        for (int scene = 0; scene < 12; scene++) {
            int where = scene;
            c.is(-1, x -> x.actor(0, 3 + where));
            c.is(-1, x -> x.wear(where, 0, where));
        }
        c.all(0, 3, what -> 40 + 80 * what, what -> x -> x.actor(0, what));
        c.all(3, 15, what -> what - 3, what -> x -> x.actor(0, what));
        c.is(11, x -> x.wear(11, 0, -1));
        c.looks(-1, x -> x.actor(0, 14));
    }

    @Sentence(of = "Promise 21", says = "INVALID_ARGUMENT if there is no such actor or what is out of range.")
    static void promise21Invalid(Case c) {
        c.invalid(x -> x.actor(0, 0));
        c.actors(1);
        c.invalid(x -> x.actor(1, 0));
        c.invalid(x -> x.actor(1, 15));
        c.invalid(x -> x.actor(0, 15));
        c.invalid(x -> x.actor(0, -1));
        c.is(-1, x -> x.actor(0, 14));
    }
}
