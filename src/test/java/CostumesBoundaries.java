/** Boundaries of costumes and of their alterations: promises 1 to 3, 6 and 7, and what the description says. */
final class CostumesBoundaries {
    private CostumesBoundaries() {
    }

    @Sentence(of = "What it is", says = "An object is used for at most 512 calls after it has been made;")
    static void whatItIsUsedForAtMost512Calls(Case c) {
        c.costumes(1);
        c.all(0, 510, time -> time % 2, time -> x -> x.setColor(0, 1 - time % 2));
        c.is(5, x -> x.count(10));
        Case undone = c.another();
        undone.costumes(1);
        undone.all(0, 510, time -> time % 2, time -> x -> x.setColor(0, 1 - time % 2));
        undone.is(4, x -> x.undo());
    }

    @Sentence(of = "Description", says = "There are three measures: 0 chest, 1 waist, 2 length.")
    static void descriptionThreeMeasures(Case c) {
        c.is(0, x -> x.addCostume(101, 102, 103, 8, 0));
        c.is(0, x -> x.addActor(91, 92, 93));
        c.all(0, 3, measure -> 101 + measure, measure -> x -> x.costume(0, measure));
        c.all(0, 3, measure -> 91 + measure, measure -> x -> x.actor(0, measure));
        c.invalid(x -> x.alter(0, -1, 1));
        c.is(15, x -> x.alter(0, 0, 1));
        c.is(102, x -> x.costume(0, 0));
        c.is(20, x -> x.alter(0, 2, 2));
        c.is(105, x -> x.costume(0, 2));
        c.is(102, x -> x.costume(0, 1));
        c.invalid(x -> x.alter(0, 3, 1));
    }

    @Sentence(of = "Description", says = "\"/\" is the division rounded down.")
    static void descriptionDivisionIsRoundedDown(Case c) {
        c.costumes(1);
        c.is(6, x -> x.hire(0, 0, 6, 1));
        c.is(6, x -> x.hire(0, 6, 7, 1));
        c.is(12, x -> x.hire(0, 13, 13, 1));
        c.is(12, x -> x.hire(0, 26, 14, 1));
        c.is(48, x -> x.hire(0, 40, 55, 1));
        c.is(48, x -> x.hire(0, 95, 56, 1));
    }

    // ---- the section Costumes

    @Sentence(of = "Costumes", says = "There are at most 16 costumes, numbered from 0 in the order in which they "
            + "were added.")
    static void costumesAtMost16(Case c) {
        c.invalid(x -> x.costume(0, 0));
        c.all(0, 16, costume -> costume, costume -> x -> x.addCostume(100 + costume, 80, 120, 8, 0));
        c.full(x -> x.addCostume(100, 80, 120, 8, 0));
        c.error(0, "costume 100 80 120 8 0;");
        c.all(0, 16, costume -> 100 + costume, costume -> x -> x.costume(costume, 0));
        c.invalid(x -> x.costume(16, 0));
        c.is(4, x -> x.undo());
        c.invalid(x -> x.costume(15, 0));
        c.succeeds(x -> x.clearText());
        c.reads(1, "costume 99 80 120 8 0;");
        c.is(99, x -> x.costume(15, 0));
        c.full(x -> x.addCostume(100, 80, 120, 8, 0));
    }

    @Sentence(of = "Costumes", says = "A costume has three original measures from 40 to 200")
    static void costumesOriginalMeasuresFrom40To200(Case c) {
        c.reads(2, "costume 40 200 41 0 0;costume 200 40 199 0 0;");
        c.all(0, 3, measure -> new int[] {40, 200, 41}[measure], measure -> x -> x.costume(0, 3 + measure));
        c.all(0, 3, measure -> new int[] {200, 40, 199}[measure], measure -> x -> x.costume(1, 3 + measure));
        c.error(8, "costume 39 200 40 0 0;");
        c.error(8, "costume 201 40 200 0 0;");
        c.error(11, "costume 40 39 200 0 0;");
        c.error(11, "costume 40 201 200 0 0;");
        c.error(14, "costume 40 40 39 0 0;");
        c.error(14, "costume 40 40 201 0 0;");
    }

    @Sentence(of = "Costumes", says = "an allowance from 0 to 8")
    static void costumesAllowanceFrom0To8(Case c) {
        c.is(0, x -> x.addCostume(100, 100, 100, 0, 0));
        c.is(1, x -> x.addCostume(100, 100, 100, 8, 0));
        c.illegal(x -> x.alter(0, 0, 1));
        c.is(50, x -> x.alter(1, 0, 8));
        c.illegal(x -> x.alter(1, 1, 9));
        c.error(20, "costume 100 100 100 9 0;");
        c.error(20, "costume 100 100 100 00 0;");
        c.succeeds(x -> x.clearText());
        c.reads(2, "costume 100 100 100 8 0;costume 100 100 100 0 0;");
        c.is(8, x -> x.costume(2, 6));
        c.is(0, x -> x.costume(3, 6));
    }

    @Sentence(of = "Costumes", says = "a code from 0 to 3")
    static void costumesCodeFrom0To3(Case c) {
        c.error(22, "costume 100 100 100 0 4;");
        c.error(22, "costume 100 100 100 0 10;");
        c.succeeds(x -> x.clearText());
        c.reads(2, "costume 100 100 100 0 0;costume 100 100 100 0 3;");
        c.is(0, x -> x.costume(0, 7));
        c.is(3, x -> x.costume(1, 7));
        c.is(0, x -> x.wash(0, 1));
        c.illegal(x -> x.wash(3, 1));
        c.is(0, x -> x.wash(3, 2));
        c.illegal(x -> x.wash(0, 2));
    }

    @Sentence(of = "Costumes", says = "a color (0 light, 1 dark)")
    static void costumesColorLightOrDark(Case c) {
        c.reads(2, "costume 100 100 100 0 0;costume 100 100 100 0 0 dark;");
        c.is(2, x -> x.addCostume(100, 100, 100, 0, 0));
        c.is(0, x -> x.costume(0, 8));
        c.is(1, x -> x.costume(1, 8));
        c.is(0, x -> x.costume(2, 8));
        c.invalid(x -> x.setColor(1, 2));
        c.invalid(x -> x.setColor(1, -1));
    }

    @Sentence(of = "Costumes", says = "a dirt from 0 to 9 (at first 0)")
    static void costumesDirtFrom0To9(Case c) {
        c.actors(1);
        c.costumes(1);
        c.reads(1, "costume 100 80 120 8 0;");
        c.is(0, x -> x.costume(0, 9));
        c.is(0, x -> x.costume(1, 9));
        c.is(0, x -> x.wash(0, 3));
        c.is(0, x -> x.costume(0, 9));
        c.soil(0, 12);
        c.soil(1, 1);
        c.is(9, x -> x.costume(0, 9));
        c.is(1, x -> x.costume(1, 9));
    }

    @Sentence(of = "Costumes", says = "and at most 6 alterations")
    static void costumesAtMost6Alterations(Case c) {
        c.costumes(2);
        c.none(x -> x.alteration(0, 0, 0));
        for (int time = 0; time < 6; time++) {
            c.is(15, x -> x.alter(0, 0, 1));
        }
        c.full(x -> x.alter(0, 0, 1));
        c.full(x -> x.alter(0, 2, -1));
        c.is(15, x -> x.alter(1, 0, 1));
        c.is(7, x -> x.unpick(0));
        c.is(15, x -> x.alter(0, 1, 1));
        c.full(x -> x.alter(0, 1, 1));
        c.is(6, x -> x.costume(0, 10));
        c.is(1, x -> x.costume(1, 10));
    }

    @Sentence(of = "Costumes", says = "each of which has a measure and a change from -10 to 10, not 0.")
    static void costumesChangeFromMinus10To10Not0(Case c) {
        c.costumes(1);
        c.is(60, x -> x.alter(0, 2, -10));
        c.is(60, x -> x.alter(0, 2, 10));
        c.invalid(x -> x.alter(0, 2, -11));
        c.invalid(x -> x.alter(0, 2, 11));
        c.invalid(x -> x.alter(0, 2, 0));
        c.is(15, x -> x.alter(0, 0, -1));
        c.is(15, x -> x.alter(0, 1, 1));
        int[] due = {2, -10, 2, 10, 0, -1, 1, 1};
        c.all(0, 8, part -> due[part], part -> x -> x.alteration(0, part / 2, part % 2));
    }

    @Sentence(of = "Costumes", says = "A present measure is the original one plus the changes of all its alterations.")
    static void costumesPresentMeasure(Case c) {
        c.is(0, x -> x.addCostume(200, 40, 120, 8, 0));
        c.all(0, 3, measure -> new int[] {200, 40, 120}[measure], measure -> x -> x.costume(0, measure));
        c.is(50, x -> x.alter(0, 0, 8));
        c.is(208, x -> x.costume(0, 0));
        c.is(50, x -> x.alter(0, 1, 8));
        c.is(50, x -> x.alter(0, 1, -8));
        c.is(40, x -> x.costume(0, 1));
        c.is(60, x -> x.alter(0, 2, -10));
        c.is(60, x -> x.alter(0, 2, -10));
        c.is(40, x -> x.alter(0, 2, 6));
        c.is(106, x -> x.costume(0, 2));
        c.all(0, 3, measure -> new int[] {200, 40, 120}[measure], measure -> x -> x.costume(0, 3 + measure));
    }

    @Sentence(of = "Costumes", says = "An alteration is allowed if the present measure with it is not less than 40")
    static void costumesAllowedIfNotLessThan40(Case c) {
        c.is(0, x -> x.addCostume(45, 41, 40, 0, 0));
        c.illegal(x -> x.alter(0, 0, -6));
        c.is(35, x -> x.alter(0, 0, -5));
        c.illegal(x -> x.alter(0, 0, -1));
        c.illegal(x -> x.alter(0, 1, -2));
        c.is(15, x -> x.alter(0, 1, -1));
        c.illegal(x -> x.alter(0, 2, -1));
        c.is(1, x -> x.addCostume(59, 60, 61, 0, 0));
        c.is(60, x -> x.alter(1, 0, -10));
        c.illegal(x -> x.alter(1, 0, -10));
        c.is(55, x -> x.alter(1, 0, -9));
        c.is(40, x -> x.costume(1, 0));
    }

    @Sentence(of = "Costumes", says = "not less than the original one minus 20")
    static void costumesAllowedIfNotLessThanTheOriginalMinus20(Case c) {
        c.is(0, x -> x.addCostume(61, 60, 200, 8, 0));
        for (int measure : new int[] {0, 1, 2}) {
            c.is(60, x -> x.alter(0, measure, -10));
            c.is(60, x -> x.alter(0, measure, -10));
            c.illegal(x -> x.alter(0, measure, -1));
        }
        c.all(0, 3, measure -> new int[] {41, 40, 180}[measure], measure -> x -> x.costume(0, measure));
        c.is(1, x -> x.addCostume(100, 80, 120, 8, 0));
        c.is(50, x -> x.alter(1, 0, 8));
        c.is(60, x -> x.alter(1, 0, -10));
        c.is(60, x -> x.alter(1, 0, -10));
        c.illegal(x -> x.alter(1, 0, -9));
        c.is(50, x -> x.alter(1, 0, -8));
        c.is(80, x -> x.costume(1, 0));
    }

    @Sentence(of = "Costumes", says = "and not greater than the original one plus the allowance.")
    static void costumesAllowedIfNotGreaterThanTheOriginalPlusTheAllowance(Case c) {
        c.is(0, x -> x.addCostume(100, 80, 200, 3, 0));
        for (int measure : new int[] {0, 1, 2}) {
            c.illegal(x -> x.alter(0, measure, 4));
            c.is(25, x -> x.alter(0, measure, 3));
            c.illegal(x -> x.alter(0, measure, 1));
        }
        c.is(203, x -> x.costume(0, 2));
        c.is(55, x -> x.alter(0, 0, -9));
        c.illegal(x -> x.alter(0, 0, 10));
        c.is(55, x -> x.alter(0, 0, 9));
        c.is(1, x -> x.addCostume(100, 80, 120, 0, 0));
        c.illegal(x -> x.alter(1, 0, 1));
    }

    @Sentence(of = "Costumes", says = "To make it takes 10 + 5 * |change| minutes;")
    static void costumesMinutesToMake(Case c) {
        c.costumes(1);
        c.is(15, x -> x.alter(0, 0, 1));
        c.is(15, x -> x.alter(0, 0, -1));
        c.is(60, x -> x.alter(0, 0, -10));
        c.is(60, x -> x.alter(0, 0, 10));
        c.is(150, x -> x.count(5));
    }

    @Sentence(of = "Costumes", says = "to unpick the latest one takes 5 + 2 * |change|.")
    static void costumesMinutesToUnpick(Case c) {
        c.costumes(1);
        c.is(60, x -> x.alter(0, 0, -10));
        c.is(60, x -> x.alter(0, 0, 10));
        c.is(15, x -> x.alter(0, 0, 1));
        c.is(15, x -> x.alter(0, 0, -1));
        c.is(7, x -> x.unpick(0));
        c.is(7, x -> x.unpick(0));
        c.is(25, x -> x.unpick(0));
        c.is(25, x -> x.unpick(0));
        c.illegal(x -> x.unpick(0));
        c.is(150 + 64, x -> x.count(5));
    }

    // ---- promises 1 to 3

    @Sentence(of = "Promise 1", says = "Creates a stock without costumes, actors and hires, on the day 0, with an "
            + "empty text.")
    static void promise1Empty(Case c) {
        int[] due = {0, 0, 0, 0, 0, 0, 0, 0, 0, 0, 0, 0, 6, 6, 4, 5};
        c.all(0, 16, what -> due[what], what -> x -> x.count(what));
        c.invalid(x -> x.costume(0, 0));
        c.invalid(x -> x.actor(0, 0));
        c.invalid(x -> x.hired(0, 0));
        c.all(0, 5, kind -> 0, kind -> x -> x.problems(kind));
        c.illegal(x -> x.undo());
        c.is(0, x -> x.clearText());
        c.is(0, x -> x.load());
    }

    @Sentence(of = "Promise 2", says = "Adds a light costume.")
    static void promise2AddsALightCostume(Case c) {
        c.is(0, x -> x.addCostume(101, 102, 103, 4, 2));
        int[] due = {101, 102, 103, 101, 102, 103, 4, 2, 0, 0, 0, 0, 0};
        c.all(0, 13, what -> due[what], what -> x -> x.costume(0, what));
        c.is(0, x -> x.setColor(0, 1));
        c.is(20, x -> x.alter(0, 0, 2));
        c.is(2, x -> x.undo());
        c.is(1, x -> x.undo());
        c.all(0, 13, what -> due[what], what -> x -> x.costume(0, what));
        c.is(0, x -> x.undo());
        c.reads(1, "costume 100 100 100 0 0 dark;");
        c.is(0, x -> x.undo());
        c.is(0, x -> x.addCostume(101, 102, 103, 4, 2));
        c.all(0, 13, what -> due[what], what -> x -> x.costume(0, what));
        Case again = c.another();
        again.is(0, x -> x.addCostume(90, 90, 90, 8, 3));
        again.is(0, x -> x.addActor(90, 90, 90));
        again.is(-1, x -> x.wear(0, 0, 0));
        again.is(1, x -> x.hire(0, 1, 1, 1));
        again.is(1, x -> x.perform());
        again.is(4, x -> x.undo());
        again.is(3, x -> x.undo());
        again.is(2, x -> x.undo());
        again.is(1, x -> x.undo());
        again.is(0, x -> x.undo());
        again.is(0, x -> x.addCostume(101, 102, 103, 4, 2));
        again.all(0, 13, what -> due[what], what -> x -> x.costume(0, what));
    }

    @Sentence(of = "Promise 2", says = "This is an action.")
    static void promise2IsAnAction(Case c) {
        c.action(0, x -> x.addCostume(100, 100, 100, 0, 0));
        c.costumes(4);
        c.action(5, x -> x.addCostume(100, 100, 100, 0, 0));
    }

    @Sentence(of = "Promise 2", says = "- `chest`: 40 to 200")
    static void promise2Chest40To200(Case c) {
        c.within(40, 200, chest -> x -> x.addCostume(chest, 100, 100, 0, 0));
        c.is(40, x -> x.costume(0, 3));
        c.is(200, x -> x.costume(1, 3));
    }

    @Sentence(of = "Promise 2", says = "- `waist`: 40 to 200")
    static void promise2Waist40To200(Case c) {
        c.within(40, 200, waist -> x -> x.addCostume(100, waist, 100, 0, 0));
        c.is(40, x -> x.costume(0, 4));
        c.is(200, x -> x.costume(1, 4));
    }

    @Sentence(of = "Promise 2", says = "- `length`: 40 to 200")
    static void promise2Length40To200(Case c) {
        c.within(40, 200, length -> x -> x.addCostume(100, 100, length, 0, 0));
        c.is(40, x -> x.costume(0, 5));
        c.is(200, x -> x.costume(1, 5));
    }

    @Sentence(of = "Promise 2", says = "- `allowance`: 0 to 8")
    static void promise2Allowance0To8(Case c) {
        c.within(0, 8, allowance -> x -> x.addCostume(100, 100, 100, allowance, 0));
        c.is(0, x -> x.costume(0, 6));
        c.is(8, x -> x.costume(1, 6));
    }

    @Sentence(of = "Promise 2", says = "- `code`: 0 to 3")
    static void promise2Code0To3(Case c) {
        c.within(0, 3, code -> x -> x.addCostume(100, 100, 100, 0, code));
        c.is(0, x -> x.costume(0, 7));
        c.is(3, x -> x.costume(1, 7));
    }

    @Sentence(of = "Promise 2", says = "Returns its number;")
    static void promise2ReturnsItsNumber(Case c) {
        c.all(0, 16, costume -> costume, costume -> x -> x.addCostume(100, 100, 100, 0, 0));
        c.is(4, x -> x.undo());
        c.is(3, x -> x.undo());
        c.is(14, x -> x.addCostume(100, 100, 100, 0, 0));
    }

    @Sentence(of = "Promise 2", says = "INVALID_ARGUMENT if an argument is out of range;")
    static void promise2InvalidBeforeCapacity(Case c) {
        c.invalid(x -> x.addCostume(39, 201, 39, -1, 4));
        c.costumes(16);
        c.invalid(x -> x.addCostume(39, 100, 100, 0, 0));
        c.invalid(x -> x.addCostume(100, 201, 100, 0, 0));
        c.invalid(x -> x.addCostume(100, 100, 39, 0, 0));
        c.invalid(x -> x.addCostume(100, 100, 100, 9, 0));
        c.invalid(x -> x.addCostume(100, 100, 100, 0, -1));
        c.full(x -> x.addCostume(40, 200, 40, 8, 0));
    }

    @Sentence(of = "Promise 2", says = "CAPACITY_EXCEEDED if there are 16 costumes.")
    static void promise2CapacityOf16Costumes(Case c) {
        c.costumes(15);
        c.is(15, x -> x.addCostume(100, 100, 100, 0, 0));
        c.full(x -> x.addCostume(100, 100, 100, 0, 0));
        c.is(4, x -> x.undo());
        c.is(15, x -> x.addCostume(90, 90, 90, 1, 1));
        c.full(x -> x.addCostume(100, 100, 100, 0, 0));
        c.is(90, x -> x.costume(15, 0));
    }

    @Sentence(of = "Promise 3", says = "Sets the color of a costume.")
    static void promise3SetsTheColorOfOneCostume(Case c) {
        c.costumes(16);
        c.is(0, x -> x.setColor(0, 1));
        c.is(0, x -> x.setColor(15, 1));
        c.all(0, 16, costume -> costume % 15 == 0 ? 1 : 0, costume -> x -> x.costume(costume, 8));
    }

    @Sentence(of = "Promise 3", says = "This is an action.")
    static void promise3IsAnAction(Case c) {
        c.costumes(1);
        c.action(0, x -> x.setColor(0, 1));
        c.action(1, x -> x.setColor(0, 1));
        c.costumes(2);
        c.action(1, x -> x.setColor(0, 0));
    }

    @Sentence(of = "Promise 3", says = "- `costume`: a costume")
    static void promise3Costume(Case c) {
        c.costumeNumbers(costume -> x -> x.setColor(costume, 1));
    }

    @Sentence(of = "Promise 3", says = "- `color`: 0 or 1")
    static void promise3Color0Or1(Case c) {
        c.costumes(1);
        c.within(0, 1, color -> x -> x.setColor(0, color));
        c.is(1, x -> x.costume(0, 8));
    }

    @Sentence(of = "Promise 3", says = "Returns the previous color;")
    static void promise3ReturnsThePreviousColor(Case c) {
        c.reads(2, "costume 100 100 100 0 0 dark;costume 100 100 100 0 0;");
        c.is(1, x -> x.setColor(0, 0));
        c.is(0, x -> x.setColor(0, 0));
        c.is(0, x -> x.setColor(0, 1));
        c.is(0, x -> x.setColor(1, 1));
        c.is(4, x -> x.undo());
        c.is(0, x -> x.setColor(1, 1));
        c.is(1, x -> x.setColor(1, 1));
    }

    @Sentence(of = "Promise 3", says = "INVALID_ARGUMENT if an argument is out of range.")
    static void promise3Invalid(Case c) {
        c.invalid(x -> x.setColor(0, 0));
        c.costumes(1);
        c.invalid(x -> x.setColor(1, 2));
        c.invalid(x -> x.setColor(-1, -1));
        c.is(0, x -> x.costume(0, 8));
    }

    // ---- promises 6 and 7

    @Sentence(of = "Promise 6", says = "Alters a costume.")
    static void promise6AltersOneMeasureOfOneCostume(Case c) {
        c.costumes(16);
        c.is(30, x -> x.alter(15, 2, 4));
        c.is(30, x -> x.alter(0, 0, -4));
        c.all(0, 16, costume -> costume == 0 ? 96 : 100, costume -> x -> x.costume(costume, 0));
        c.all(0, 16, costume -> 80, costume -> x -> x.costume(costume, 1));
        c.all(0, 16, costume -> costume == 15 ? 124 : 120, costume -> x -> x.costume(costume, 2));
        c.all(0, 16, costume -> costume % 15 == 0 ? 1 : 0, costume -> x -> x.costume(costume, 10));
    }

    @Sentence(of = "Promise 6", says = "This is an action.")
    static void promise6IsAnAction(Case c) {
        c.costumes(1);
        c.action(50, x -> x.alter(0, 1, -8));
        c.action(15, x -> x.alter(0, 0, 1));
        c.costumes(3);
        c.action(15, x -> x.alter(0, 0, -1));
        c.action(15, x -> x.alter(0, 2, 1));
    }

    @Sentence(of = "Promise 6", says = "- `costume`: a costume")
    static void promise6Costume(Case c) {
        c.costumeNumbers(costume -> x -> x.alter(costume, 0, 1));
    }

    @Sentence(of = "Promise 6", says = "- `measure`: 0 to 2")
    static void promise6Measure0To2(Case c) {
        c.costumes(1);
        c.within(0, 2, measure -> x -> x.alter(0, measure, 1));
        c.all(0, 3, measure -> new int[] {101, 80, 121}[measure], measure -> x -> x.costume(0, measure));
    }

    @Sentence(of = "Promise 6", says = "- `change`: -10 to 10, not 0")
    static void promise6ChangeMinus10To10Not0(Case c) {
        c.costumes(1);
        c.invalid(x -> x.alter(0, 0, 0));
        c.within(-10, 10, change -> x -> x.alter(0, 0, change));
        c.is(15, x -> x.alter(0, 0, 1));
        c.is(15, x -> x.alter(0, 0, -1));
        c.is(100, x -> x.costume(0, 0));
    }

    @Sentence(of = "Promise 6", says = "Returns the minutes that it takes;")
    static void promise6ReturnsTheMinutes(Case c) {
        c.costumes(1);
        for (int change : new int[] {1, 2, 5}) {
            c.is(10 + 5 * change, x -> x.alter(0, 0, change));
            c.is(10 + 5 * change, x -> x.alter(0, 0, -change));
        }
        c.is(2 * 70, x -> x.count(5));
    }

    @Sentence(of = "Promise 6", says = "INVALID_ARGUMENT if an argument is out of range;")
    static void promise6InvalidBeforeStateAndCapacity(Case c) {
        c.costumes(1);
        for (int time = 0; time < 6; time++) {
            c.is(15, x -> x.alter(0, 0, 1));
        }
        c.full(x -> x.alter(0, 0, 1));
        c.invalid(x -> x.alter(0, 0, 0));
        c.invalid(x -> x.alter(0, 0, 11));
        c.invalid(x -> x.alter(0, 3, 1));
        c.invalid(x -> x.alter(1, 0, 1));
        c.is(1, x -> x.hire(0, 0, 1, 1));
        c.illegal(x -> x.alter(0, 0, 1));
        c.invalid(x -> x.alter(0, 0, 0));
        c.invalid(x -> x.alter(0, 0, -11));
        c.invalid(x -> x.alter(0, -1, 1));
        c.invalid(x -> x.alter(-1, 0, 1));
    }

    @Sentence(of = "Promise 6", says = "ILLEGAL_STATE if the costume is away today")
    static void promise6StateIfAwayToday(Case c) {
        c.costumes(2);
        c.is(3, x -> x.hire(0, 5, 3, 1));
        c.day(4);
        c.is(15, x -> x.alter(0, 0, 1));
        for (int day : new int[] {5, 6, 7}) {
            c.day(day);
            c.illegal(x -> x.alter(0, 0, 1));
            c.is(15, x -> x.alter(1, 0, 1));
        }
        c.day(8);
        c.is(15, x -> x.alter(0, 0, 1));
    }

    @Sentence(of = "Promise 6", says = "or the alteration is not allowed;")
    static void promise6StateIfNotAllowed(Case c) {
        c.is(0, x -> x.addCostume(42, 100, 100, 2, 0));
        c.illegal(x -> x.alter(0, 0, -3));
        c.is(20, x -> x.alter(0, 0, -2));
        c.illegal(x -> x.alter(0, 1, 3));
        c.is(20, x -> x.alter(0, 1, 2));
        c.is(60, x -> x.alter(0, 2, -10));
        c.is(55, x -> x.alter(0, 2, -9));
        c.illegal(x -> x.alter(0, 2, -2));
        c.is(15, x -> x.alter(0, 2, -1));
    }

    @Sentence(of = "Promise 6", says = "CAPACITY_EXCEEDED if the costume has 6 alterations.")
    static void promise6CapacityOf6Alterations(Case c) {
        c.costumes(16);
        for (int time = 0; time < 5; time++) {
            c.is(15, x -> x.alter(15, 0, 1));
        }
        c.is(15, x -> x.alter(15, 1, 1));
        c.full(x -> x.alter(15, 1, 1));
        c.is(15, x -> x.alter(14, 0, 1));
        c.is(4, x -> x.undo());
        c.is(3, x -> x.undo());
        c.is(20, x -> x.alter(15, 2, 2));
        c.full(x -> x.alter(15, 0, 1));
    }

    @Sentence(of = "Promise 6", says = "ILLEGAL_STATE if the costume is away today, or the alteration is not allowed;")
    static void promise6StateBeforeCapacity(Case c) {
        c.costumes(1);
        for (int time = 0; time < 6; time++) {
            c.is(15, x -> x.alter(0, 0, 1));
        }
        c.full(x -> x.alter(0, 0, 2));
        c.illegal(x -> x.alter(0, 0, 3));
        c.is(1, x -> x.hire(0, 1, 1, 1));
        c.full(x -> x.alter(0, 0, 2));
        c.day(1);
        c.illegal(x -> x.alter(0, 0, 2));
        c.day(2);
        c.full(x -> x.alter(0, 0, 2));
    }

    @Sentence(of = "Promise 7", says = "Unpicks the latest alteration of a costume.")
    static void promise7UnpicksTheLatest(Case c) {
        c.costumes(2);
        c.is(20, x -> x.alter(0, 0, 2));
        c.is(30, x -> x.alter(0, 1, -4));
        c.is(40, x -> x.alter(1, 2, 6));
        c.is(13, x -> x.unpick(0));
        c.is(102, x -> x.costume(0, 0));
        c.is(80, x -> x.costume(0, 1));
        c.is(126, x -> x.costume(1, 2));
        c.none(x -> x.alteration(0, 1, 0));
        c.is(2, x -> x.alteration(0, 0, 1));
    }

    @Sentence(of = "Promise 7", says = "This is an action.")
    static void promise7IsAnAction(Case c) {
        c.costumes(1);
        c.is(20, x -> x.alter(0, 0, 2));
        c.is(30, x -> x.alter(0, 1, -4));
        c.action(13, x -> x.unpick(0));
        c.costumes(2);
        c.action(9, x -> x.unpick(0));
    }

    @Sentence(of = "Promise 7", says = "- `costume`: a costume")
    static void promise7Costume(Case c) {
        c.costumeNumbers(costume -> x -> x.alter(costume, 0, 1), costume -> x -> x.unpick(costume));
    }

    @Sentence(of = "Promise 7", says = "Returns the minutes that it takes;")
    static void promise7ReturnsTheMinutes(Case c) {
        c.costumes(1);
        int sum = 0;
        for (int change : new int[] {1, 2, 5, -1, -6, -10}) {
            sum += 15 + 7 * Math.abs(change);
            c.is(10 + 5 * Math.abs(change), x -> x.alter(0, 0, change));
            c.is(5 + 2 * Math.abs(change), x -> x.unpick(0));
            c.is(sum, x -> x.count(5));
        }
    }

    @Sentence(of = "Promise 7", says = "INVALID_ARGUMENT if there is no such costume;")
    static void promise7InvalidIfThereIsNoSuchCostume(Case c) {
        c.invalid(x -> x.unpick(0));
        c.costumes(1);
        c.is(15, x -> x.alter(0, 0, 1));
        c.invalid(x -> x.unpick(1));
        c.invalid(x -> x.unpick(-1));
        c.is(7, x -> x.unpick(0));
    }

    @Sentence(of = "Promise 7", says = "ILLEGAL_STATE if the costume is away today")
    static void promise7StateIfAwayToday(Case c) {
        c.costumes(2);
        for (int costume : new int[] {0, 0, 0, 1, 1, 1}) {
            c.is(15, x -> x.alter(costume, 0, 1));
        }
        c.is(3, x -> x.hire(0, 5, 3, 1));
        c.day(4);
        c.is(7, x -> x.unpick(0));
        for (int day : new int[] {5, 6, 7}) {
            c.day(day);
            c.illegal(x -> x.unpick(0));
            c.is(7, x -> x.unpick(1));
        }
        c.day(8);
        c.is(7, x -> x.unpick(0));
    }

    @Sentence(of = "Promise 7", says = "or has no alterations.")
    static void promise7StateIfNoAlterations(Case c) {
        c.costumes(2);
        c.illegal(x -> x.unpick(0));
        for (int time = 0; time < 6; time++) {
            c.is(15, x -> x.alter(0, 0, 1));
        }
        c.illegal(x -> x.unpick(1));
        for (int time = 0; time < 6; time++) {
            c.is(7, x -> x.unpick(0));
        }
        c.illegal(x -> x.unpick(0));
        c.is(100, x -> x.costume(0, 0));
        c.is(4, x -> x.undo());
        c.is(7, x -> x.unpick(0));
        c.illegal(x -> x.unpick(0));
    }
}
