/** Boundaries of washing: promises 16 and 28, and what the description says. */
final class WashingBoundaries {
    private static final int[] STRENGTH = {5, 3, 2, 4};
    private static final int[] COST = {8, 6, 10, 15};
    /** For each program a code of costumes that it can wash. */
    private static final int[] CODE = {0, 1, 2, 3};

    private WashingBoundaries() {
    }

    /** Adds costumes that the actors of Case fit, one of each of these codes. */
    private static void codes(Case c, int... codes) {
        for (int code : codes) {
            c.succeeds(x -> x.addCostume(100, 80, 120, 8, code));
        }
    }

    /** A costume with this code can be washed by the programs of the set alone, and is washable by them alone. */
    private static void washedBy(Case c, int code, int programs) {
        c.actors(1);
        codes(c, code);
        c.is(5, x -> x.set(3, 9));
        c.soil(0, 9);
        for (int program = 0; program < 4; program++) {
            int one = program;
            boolean can = (programs >> program & 1) == 1;
            c.looks(can ? 1 : 0, x -> x.washable(one, 0));
            if (can) {
                c.is(STRENGTH[program], x -> x.wash(one, 1));
                c.is(4, x -> x.undo());
            } else {
                c.illegal(x -> x.wash(one, 1));
            }
        }
    }

    // ---- the section Washing

    @Sentence(of = "Washing", says = "There are the programs 0 to 3.")
    static void washingPrograms0To3(Case c) {
        codes(c, 0, 3);
        c.invalid(x -> x.wash(-1, 1));
        c.is(0, x -> x.wash(0, 1));
        c.is(0, x -> x.wash(3, 2));
        c.invalid(x -> x.wash(4, 2));
        c.invalid(x -> x.washable(-1, 0));
        c.is(0, x -> x.washable(0, 0));
        c.is(0, x -> x.washable(3, 0));
        c.invalid(x -> x.washable(4, 0));
    }

    @Sentence(of = "Washing", says = "A costume with the code 0 can be washed by the programs 0, 1 and 2;")
    static void washingCode0(Case c) {
        washedBy(c, 0, 1 + 2 + 4);
    }

    @Sentence(of = "Washing", says = "with the code 1 by 1, 2 and 3;")
    static void washingCode1(Case c) {
        washedBy(c, 1, 2 + 4 + 8);
    }

    @Sentence(of = "Washing", says = "with the code 2 by 2 and 3;")
    static void washingCode2(Case c) {
        washedBy(c, 2, 4 + 8);
    }

    @Sentence(of = "Washing", says = "with the code 3 by 3 alone.")
    static void washingCode3(Case c) {
        washedBy(c, 3, 8);
    }

    @Sentence(of = "Washing", says = "A load is a set of 1 to 5 costumes;")
    static void washingLoadOf1To5(Case c) {
        c.costumes(16);
        c.invalid(x -> x.wash(0, 0));
        c.is(0, x -> x.wash(0, 1));
        c.is(0, x -> x.wash(0, 32768));
        c.is(0, x -> x.wash(0, 31));
        c.is(0, x -> x.wash(0, 32768 + 15));
        c.illegal(x -> x.wash(0, 63));
        c.illegal(x -> x.wash(0, 32768 + 31));
        c.illegal(x -> x.wash(0, 65535));
    }

    @Sentence(of = "Washing", says = "it is allowed if none of them is away today")
    static void washingNoneIsAwayToday(Case c) {
        c.costumes(3);
        c.is(2, x -> x.hire(2, 1, 2, 1));
        c.is(0, x -> x.wash(0, 7));
        for (int day : new int[] {1, 2}) {
            c.day(day);
            c.illegal(x -> x.wash(0, 4));
            c.illegal(x -> x.wash(0, 7));
            c.is(0, x -> x.wash(0, 3));
        }
        c.day(3);
        c.is(0, x -> x.wash(0, 7));
    }

    @Sentence(of = "Washing", says = "each of them can be washed by the program")
    static void washingEachCanBeWashed(Case c) {
        codes(c, 1, 1, 1, 1, 0, 2);
        c.is(0, x -> x.wash(1, 15 + 16));
        c.illegal(x -> x.wash(1, 15 + 32));
        c.illegal(x -> x.wash(1, 32));
        c.illegal(x -> x.wash(3, 15 + 16));
        c.is(0, x -> x.wash(3, 15 + 32));
        c.is(0, x -> x.wash(2, 7 + 16 + 32));
    }

    @Sentence(of = "Washing", says = "and, except for the program 3, all have the same color.")
    static void washingAllHaveTheSameColor(Case c) {
        codes(c, 1, 1, 1, 1, 1);
        c.is(0, x -> x.setColor(4, 1));
        c.illegal(x -> x.wash(1, 31));
        c.illegal(x -> x.wash(2, 31));
        c.is(0, x -> x.wash(3, 31));
        c.is(0, x -> x.wash(1, 15));
        c.is(0, x -> x.wash(1, 16));
        for (int costume : new int[] {0, 1, 2, 3}) {
            c.illegal(x -> x.wash(2, 31));
            c.is(0, x -> x.setColor(costume, 1));
        }
        c.is(0, x -> x.wash(1, 31));
        c.is(0, x -> x.wash(2, 31));
        Case weak = c.another();
        codes(weak, 0, 0);
        weak.is(0, x -> x.setColor(0, 1));
        weak.illegal(x -> x.wash(0, 3));
        weak.is(0, x -> x.wash(0, 1));
    }

    @Sentence(of = "Washing", says = "The dirt of each becomes less by 5, 3, 2 and 4 by the programs 0 to 3, but not "
            + "less than 0.")
    static void washingDirtNotLessThan0(Case c) {
        for (int program = 0; program < 4; program++) {
            int one = program;
            int strength = STRENGTH[program];
            Case some = c.another();
            some.actors(1);
            codes(some, CODE[program], CODE[program], CODE[program], CODE[program]);
            some.soil(0, strength - 1);
            some.soil(1, strength);
            some.soil(2, strength + 1);
            some.is(3 * strength - 1, x -> x.wash(one, 15));
            some.all(0, 4, costume -> costume == 2 ? 1 : 0, costume -> x -> x.costume(costume, 9));
            some.is(1, x -> x.wash(one, 15));
            some.all(0, 4, costume -> 0, costume -> x -> x.costume(costume, 9));
            some.is(0, x -> x.wash(one, 15));
            some.all(0, 4, costume -> 0, costume -> x -> x.costume(costume, 9));
        }
    }

    @Sentence(of = "Washing", says = "A load costs 8, 6, 10 and 15 by the programs 0 to 3.")
    static void washingCosts(Case c) {
        for (int program = 0; program < 4; program++) {
            int one = program;
            int cost = COST[program];
            Case some = c.another();
            codes(some, CODE[program], CODE[program], CODE[program], CODE[program], CODE[program]);
            some.is(0, x -> x.count(7));
            some.is(0, x -> x.wash(one, 1));
            some.is(cost, x -> x.count(7));
            some.is(0, x -> x.wash(one, 31));
            some.is(2 * cost, x -> x.count(7));
            some.illegal(x -> x.wash(CODE[one] == 0 ? 3 : 0, 1));
            some.is(2 * cost, x -> x.count(7));
        }
    }

    // ---- promises 16 and 28

    @Sentence(of = "Promise 16", says = "This is an action.")
    static void promise16IsAnAction(Case c) {
        c.costumes(1);
        c.action(0, x -> x.wash(0, 1));
        c.actors(1);
        c.soil(0, 6);
        c.action(5, x -> x.wash(0, 1));
        c.action(1, x -> x.wash(2, 1));
    }

    @Sentence(of = "Promise 16", says = "- `program`: 0 to 3")
    static void promise16Program0To3(Case c) {
        codes(c, 0, 3);
        c.invalid(x -> x.wash(-1, 1));
        c.invalid(x -> x.wash(4, 2));
        c.invalid(x -> x.wash(Integer.MIN_VALUE, 1));
        c.invalid(x -> x.wash(Integer.MAX_VALUE, 1));
        c.is(0, x -> x.wash(0, 1));
        c.is(0, x -> x.wash(3, 2));
        c.is(8 + 15, x -> x.count(7));
    }

    @Sentence(of = "Promise 16", says = "- `load`: a set of costumes (bit k for costume k)")
    static void promise16LoadIsASetOfCostumes(Case c) {
        c.invalid(x -> x.wash(0, 1));
        c.invalid(x -> x.wash(0, Integer.MIN_VALUE));
        c.invalid(x -> x.wash(0, -1));
        c.actors(1);
        c.costumes(16);
        c.soil(0, 1);
        c.soil(15, 2);
        c.soil(14, 3);
        c.is(2, x -> x.wash(0, 32768));
        c.is(1, x -> x.wash(0, 1));
        c.is(3, x -> x.costume(14, 9));
        c.invalid(x -> x.wash(0, 65536));
        c.invalid(x -> x.wash(0, 65536 + 1));
        c.invalid(x -> x.wash(0, 1 << 30));
        c.invalid(x -> x.wash(0, Integer.MIN_VALUE));
        c.invalid(x -> x.wash(0, Integer.MIN_VALUE + 1));
        c.invalid(x -> x.wash(0, Integer.MAX_VALUE));
        c.invalid(x -> x.wash(0, -1));
    }

    @Sentence(of = "Promise 16", says = "Returns the sum of the dirt that is washed out;")
    static void promise16ReturnsTheDirtWashedOut(Case c) {
        c.actors(1);
        c.costumes(5);
        c.is(0, x -> x.wash(0, 31));
        c.soil(0, 1);
        c.soil(1, 5);
        c.soil(2, 6);
        c.soil(3, 9);
        c.is(1 + 5 + 5 + 5 + 0, x -> x.wash(0, 31));
        c.is(1 + 4, x -> x.wash(0, 31));
        c.is(0, x -> x.wash(0, 31));
    }

    @Sentence(of = "Promise 16", says = "INVALID_ARGUMENT if program is out of range, or load is 0 or has a costume "
            + "that there is not;")
    static void promise16InvalidIfACostumeIsNotThere(Case c) {
        c.invalid(x -> x.wash(0, 0));
        c.invalid(x -> x.wash(0, 1));
        c.costumes(1);
        c.is(0, x -> x.wash(0, 1));
        c.invalid(x -> x.wash(0, 2));
        c.invalid(x -> x.wash(0, 3));
        c.costumes(2);
        c.is(0, x -> x.wash(0, 7));
        c.invalid(x -> x.wash(0, 8));
        c.is(4, x -> x.undo());
        c.is(3, x -> x.undo());
        c.invalid(x -> x.wash(0, 4));
        c.is(0, x -> x.wash(0, 3));
    }

    @Sentence(of = "Promise 16", says = "INVALID_ARGUMENT if program is out of range, or load is 0 or has a costume "
            + "that there is not;")
    static void promise16InvalidBeforeState(Case c) {
        c.costumes(6);
        c.is(1, x -> x.hire(0, 0, 1, 1));
        c.illegal(x -> x.wash(0, 1));
        c.invalid(x -> x.wash(4, 1));
        c.invalid(x -> x.wash(-1, 1));
        c.invalid(x -> x.wash(0, 1 + 64));
        c.illegal(x -> x.wash(3, 2));
        c.invalid(x -> x.wash(3, 0));
        c.invalid(x -> x.wash(3, 64));
        c.invalid(x -> x.wash(0, 127));
        c.invalid(x -> x.wash(4, 63));
        c.illegal(x -> x.wash(0, 63));
    }

    @Sentence(of = "Promise 16", says = "ILLEGAL_STATE if the load is not allowed.")
    static void promise16StateIfNotAllowed(Case c) {
        codes(c, 1, 1, 1, 1, 1, 1, 2);
        c.is(0, x -> x.setColor(5, 1));
        c.is(1, x -> x.hire(4, 0, 1, 1));
        c.is(0, x -> x.wash(2, 15));
        c.illegal(x -> x.wash(2, 15 + 16));
        c.illegal(x -> x.wash(2, 15 + 32));
        c.illegal(x -> x.wash(1, 15 + 64));
        c.is(0, x -> x.wash(2, 15 + 64));
        c.illegal(x -> x.wash(3, 15 + 32 + 64));
        c.is(0, x -> x.wash(3, 7 + 32 + 64));
    }

    @Sentence(of = "Promise 28", says = "- `program`: 0 to 3")
    static void promise28Program0To3(Case c) {
        c.costumes(1);
        c.within(0, 3, program -> x -> x.washable(program, 0));
    }

    @Sentence(of = "Promise 28", says = "- `color`: 0 or 1 (it does not matter for the program 3)")
    static void promise28Color0Or1(Case c) {
        c.actors(1);
        codes(c, 1, 1);
        c.soil(0, 1);
        c.soil(1, 1);
        c.is(0, x -> x.setColor(1, 1));
        for (int program : new int[] {0, 1, 2, 3}) {
            c.within(0, 1, color -> x -> x.washable(program, color));
        }
        c.looks(1, x -> x.washable(1, 0));
        c.looks(2, x -> x.washable(1, 1));
        c.looks(1, x -> x.washable(2, 0));
        c.looks(2, x -> x.washable(2, 1));
        c.looks(3, x -> x.washable(3, 0));
        c.looks(3, x -> x.washable(3, 1));
    }

    @Sentence(of = "Promise 28", says = "Returns the set of all costumes that have dirt, are not away today, can be "
            + "washed by the program, "
            + "and have this color;")
    static void promise28HaveDirtAndAreNotAway(Case c) {
        c.actors(1);
        c.costumes(16);
        c.looks(0, x -> x.washable(0, 0));
        c.soil(0, 1);
        c.soil(15, 9);
        c.soil(7, 5);
        c.looks(1 + 128 + 32768, x -> x.washable(0, 0));
        c.is(5, x -> x.wash(0, 128));
        c.looks(1 + 32768, x -> x.washable(0, 0));
        c.is(2, x -> x.hire(15, 4, 2, 1));
        int[] due = {1 + 32768, 1, 1, 1 + 32768};
        for (int day = 3; day < 7; day++) {
            int today = day;
            c.day(today);
            c.is(due[day - 3], x -> x.washable(0, 0));
        }
        c.looks(0, x -> x.washable(0, 1));
        c.looks(0, x -> x.washable(3, 0));
    }

    @Sentence(of = "Promise 28", says = "Returns the set of all costumes that have dirt, are not away today, can be "
            + "washed by the program, "
            + "and have this color;")
    static void promise28MoreThan5Costumes(Case c) {
        c.actors(1);
        c.costumes(16);
        c.is(5, x -> x.set(3, 9));
        for (int costume = 0; costume < 16; costume++) {
            c.soil(costume, 1);
        }
        c.looks(65535, x -> x.washable(0, 0));
        c.illegal(x -> x.wash(0, 65535));
    }

    @Sentence(of = "Promise 28", says = "INVALID_ARGUMENT if an argument is out of range.")
    static void promise28Invalid(Case c) {
        c.invalid(x -> x.washable(4, 0));
        c.invalid(x -> x.washable(4, 2));
        c.invalid(x -> x.washable(0, -1));
        c.invalid(x -> x.washable(0, 2));
        c.is(0, x -> x.washable(0, 0));
        c.is(0, x -> x.washable(3, 1));
    }
}
