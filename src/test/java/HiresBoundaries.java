/** Boundaries of days and hires: promises 13 to 15, 22 and 27, and what the description says. */
final class HiresBoundaries {
    private HiresBoundaries() {
    }

    // ---- the section Days and hires

    @Sentence(of = "Days and hires", says = "Days are numbered from 0;")
    static void daysAreNumberedFrom0(Case c) {
        c.costumes(1);
        c.is(0, x -> x.count(3));
        c.invalid(x -> x.hire(0, -1, 1, 1));
        c.is(1, x -> x.hire(0, 0, 1, 1));
        c.is(1, x -> x.pass(1));
        c.is(1, x -> x.count(3));
    }

    @Sentence(of = "Days and hires", says = "today is the day 0 at first, and at most 300.")
    static void daysAtMost300(Case c) {
        c.is(0, x -> x.count(3));
        c.day(240);
        c.is(300, x -> x.pass(60));
        c.full(x -> x.pass(1));
        c.full(x -> x.pass(60));
        c.full(x -> x.perform());
        c.is(4, x -> x.undo());
        c.is(240, x -> x.count(3));
        c.is(299, x -> x.pass(59));
        c.full(x -> x.pass(2));
        c.is(300, x -> x.perform());
        c.full(x -> x.perform());
    }

    @Sentence(of = "Days and hires", says = "A hire has a costume, a first day, and a number of days;")
    static void hiresHaveACostumeAFirstDayAndDays(Case c) {
        c.costumes(16);
        c.is(1, x -> x.hire(0, 0, 1, 1));
        c.is(2600, x -> x.hire(15, 300, 60, 50));
        int[][] due = {{0, 0, 1, 1}, {15, 300, 60, 2600}};
        c.all(0, 8, part -> due[part / 4][part % 4], part -> x -> x.hired(part / 4, part % 4));
    }

    @Sentence(of = "Days and hires", says = "there are at most 24 hires, numbered from 0 in the order in which they "
            + "were made.")
    static void hiresAtMost24(Case c) {
        c.costumes(2);
        c.invalid(x -> x.hired(0, 0));
        c.hireDays(0, 50, 50);
        c.hireDays(0, 10, 31);
        c.is(23, x -> x.count(2));
        c.is(1, x -> x.hire(1, 0, 1, 1));
        c.full(x -> x.hire(1, 1, 1, 1));
        c.full(x -> x.hire(0, 51, 1, 1));
        c.is(50, x -> x.hired(0, 1));
        c.all(1, 23, hire -> 9 + hire, hire -> x -> x.hired(hire, 1));
        c.is(1, x -> x.hired(23, 0));
        c.invalid(x -> x.hired(24, 0));
        c.is(4, x -> x.undo());
        c.invalid(x -> x.hired(23, 0));
        c.is(1, x -> x.hire(0, 51, 1, 1));
        c.full(x -> x.hire(1, 1, 1, 1));
    }

    @Sentence(of = "Days and hires", says = "A costume is away on all days of its hires.")
    static void hiresAwayOnAllDays(Case c) {
        c.costumes(16);
        c.is(3, x -> x.hire(0, 1, 3, 1));
        c.is(1, x -> x.hire(15, 3, 1, 1));
        c.is(1, x -> x.hire(0, 5, 1, 1));
        int[] due = {0, 1, 1, 1 + 32768, 0, 1, 0};
        for (int day = 0; day < 7; day++) {
            int today = day;
            c.day(today);
            c.is(due[day], x -> x.count(8));
        }
        c.is(1, x -> x.hire(1, 300, 1, 1));
        c.is(52, x -> x.hire(2, 241, 60, 1));
        c.is(52, x -> x.hire(3, 240, 60, 1));
        c.day(299);
        c.is(4 + 8, x -> x.count(8));
        c.day(300);
        c.is(2 + 4, x -> x.count(8));
    }

    @Sentence(of = "Days and hires", says = "No two hires of a costume have a day in common.")
    static void hiresHaveNoDayInCommon(Case c) {
        c.costumes(2);
        c.is(3, x -> x.hire(0, 10, 3, 1));
        c.illegal(x -> x.hire(0, 9, 2, 1));
        c.is(1, x -> x.hire(0, 9, 1, 1));
        c.illegal(x -> x.hire(0, 12, 1, 1));
        c.is(1, x -> x.hire(0, 13, 1, 1));
        c.illegal(x -> x.hire(0, 11, 1, 1));
        c.illegal(x -> x.hire(0, 0, 60, 1));
        c.illegal(x -> x.hire(0, 10, 3, 1));
        c.is(3, x -> x.hire(1, 10, 3, 1));
    }

    @Sentence(of = "Days and hires", says = "The fee of a hire with n days and the rate r is r * (n - n / 7).")
    static void hiresFee(Case c) {
        c.costumes(1);
        int[] days = {1, 6, 7, 8, 13, 14, 15, 48, 49, 50};
        int[] paid = {1, 6, 6, 7, 12, 12, 13, 42, 42, 43};
        int first = 0;
        for (int hire = 0; hire < days.length; hire++) {
            int begin = first;
            int number = days[hire];
            c.is(50 * paid[hire], x -> x.hire(0, begin, number, 50));
            first += number;
        }
        Case others = c.another();
        others.costumes(1);
        others.is(51, x -> x.hire(0, 0, 59, 1));
        others.is(52, x -> x.hire(0, 59, 60, 1));
        others.is(2600, x -> x.hire(0, 119, 60, 50));
    }

    @Sentence(of = "Days and hires", says = "To end a hire early means that today is its last day then;")
    static void hiresEndedTodayIsTheLastDay(Case c) {
        c.costumes(1);
        c.is(52, x -> x.hire(0, 3, 60, 1));
        c.day(5);
        c.is((52 - 3) / 2, x -> x.endHire(0));
        c.is(3, x -> x.hired(0, 2));
        c.is(1, x -> x.count(8));
        c.illegal(x -> x.endHire(0));
        c.illegal(x -> x.hire(0, 5, 1, 1));
        c.is(1, x -> x.hire(0, 6, 1, 1));
        c.day(6);
        c.is(1, x -> x.count(8));
        c.illegal(x -> x.endHire(0));
        c.day(7);
        c.is(0, x -> x.count(8));
    }

    @Sentence(of = "Days and hires", says = "what is paid back is half (rounded down) of the difference of its fee "
            + "and that of a hire with "
            + "so many days as it has then, and its fee becomes less by what is paid back.")
    static void hiresPaidBackIsHalfOfTheDifference(Case c) {
        c.costumes(4);
        int[][] due = {{0, 2, 5, 10, 2, 8}, {1, 2, 1, 2, 0, 2}, {2, 8, 3, 21, 9, 12}, {3, 60, 50, 2600, 1275, 1325}};
        int fees = 0;
        for (int hire = 0; hire < 4; hire++) {
            int[] row = due[hire];
            c.is(row[3], x -> x.hire(row[0], 0, row[1], row[2]));
            fees += row[5];
        }
        for (int hire = 0; hire < 4; hire++) {
            int[] row = due[hire];
            c.is(row[4], x -> x.endHire(row[0]));
            c.is(row[5], x -> x.hired(row[0], 3));
            c.is(1, x -> x.hired(row[0], 2));
        }
        int left = fees;
        c.is(left, x -> x.count(6));
        Case seven = c.another();
        seven.costumes(1);
        seven.is(6 * 50, x -> x.hire(0, 0, 7, 50));
        seven.day(5);
        seven.is(0, x -> x.endHire(0));
        seven.is(6, x -> x.hired(0, 2));
        seven.is(300, x -> x.hired(0, 3));
    }

    // ---- promises 13 to 15

    @Sentence(of = "Promise 13", says = "Lets days pass.")
    static void promise13LetsDaysPass(Case c) {
        c.actors(1);
        c.costumes(1);
        c.is(-1, x -> x.wear(0, 0, 0));
        c.is(60, x -> x.pass(60));
        c.is(60, x -> x.count(3));
        c.is(0, x -> x.count(9));
        c.is(0, x -> x.costume(0, 9));
        c.is(0, x -> x.actor(0, 3));
    }

    @Sentence(of = "Promise 13", says = "This is an action.")
    static void promise13IsAnAction(Case c) {
        c.action(1, x -> x.pass(1));
        c.costumes(4);
        c.action(61, x -> x.pass(60));
    }

    @Sentence(of = "Promise 13", says = "- `days`: 1 to 60")
    static void promise13Days1To60(Case c) {
        c.invalid(x -> x.pass(0));
        c.within(1, 60, days -> x -> x.pass(days));
        c.is(61, x -> x.count(3));
    }

    @Sentence(of = "Promise 13", says = "Returns the day that is today then;")
    static void promise13ReturnsTheDay(Case c) {
        c.is(60, x -> x.pass(60));
        c.is(61, x -> x.pass(1));
        c.is(1, x -> x.undo());
        c.is(62, x -> x.pass(2));
        c.is(62, x -> x.count(3));
    }

    @Sentence(of = "Promise 13", says = "INVALID_ARGUMENT if days is out of range;")
    static void promise13InvalidBeforeCapacity(Case c) {
        c.day(300);
        c.invalid(x -> x.pass(0));
        c.invalid(x -> x.pass(61));
        c.invalid(x -> x.pass(-1));
        c.invalid(x -> x.pass(Integer.MAX_VALUE));
        c.full(x -> x.pass(1));
        c.full(x -> x.pass(60));
    }

    @Sentence(of = "Promise 13", says = "CAPACITY_EXCEEDED if it would be greater than 300.")
    static void promise13CapacityOf300Days(Case c) {
        c.day(270);
        c.full(x -> x.pass(31));
        c.is(300, x -> x.pass(30));
        c.full(x -> x.pass(1));
        c.is(4, x -> x.undo());
        c.is(299, x -> x.pass(29));
        c.full(x -> x.pass(2));
        c.is(300, x -> x.pass(1));
    }

    @Sentence(of = "Promise 14", says = "This is an action.")
    static void promise14IsAnAction(Case c) {
        c.costumes(2);
        c.action(52, x -> x.hire(0, 0, 60, 1));
        c.action(1, x -> x.hire(1, 300, 1, 1));
        c.costumes(2);
        c.action(1, x -> x.hire(1, 0, 1, 1));
    }

    @Sentence(of = "Promise 14", says = "- `costume`: a costume")
    static void promise14Costume(Case c) {
        c.costumeNumbers(costume -> x -> x.pass(1), costume -> x -> x.hire(costume, 2, 1, 1));
    }

    @Sentence(of = "Promise 14", says = "- `first`: its first day, today or later, at most 300")
    static void promise14FirstTodayTo300(Case c) {
        c.costumes(1);
        c.within(0, 300, first -> x -> x.hire(0, first, 1, 1));
        c.day(120);
        c.invalid(x -> x.hire(0, 119, 1, 1));
        c.is(1, x -> x.hire(0, 120, 1, 1));
        Case last = c.another();
        last.costumes(1);
        last.day(300);
        last.invalid(x -> x.hire(0, 299, 1, 1));
        last.invalid(x -> x.hire(0, 301, 1, 1));
        last.is(52, x -> x.hire(0, 300, 60, 1));
        last.is(1, x -> x.count(8));
    }

    @Sentence(of = "Promise 14", says = "- `days`: 1 to 60")
    static void promise14Days1To60(Case c) {
        c.costumes(1);
        c.invalid(x -> x.hire(0, 300, 0, 1));
        c.invalid(x -> x.hire(0, 300, 61, 1));
        c.invalid(x -> x.hire(0, 300, -1, 1));
        c.invalid(x -> x.hire(0, 300, Integer.MIN_VALUE, 1));
        c.invalid(x -> x.hire(0, 300, Integer.MAX_VALUE, 1));
        c.is(1, x -> x.hire(0, 299, 1, 1));
        c.is(52, x -> x.hire(0, 300, 60, 1));
        c.is(1, x -> x.hired(0, 2));
        c.is(60, x -> x.hired(1, 2));
    }

    @Sentence(of = "Promise 14", says = "- `rate`: 1 to 50")
    static void promise14Rate1To50(Case c) {
        c.costumes(1);
        c.invalid(x -> x.hire(0, 0, 2, 0));
        c.invalid(x -> x.hire(0, 0, 2, 51));
        c.invalid(x -> x.hire(0, 0, 2, -1));
        c.invalid(x -> x.hire(0, 0, 2, Integer.MIN_VALUE));
        c.invalid(x -> x.hire(0, 0, 2, Integer.MAX_VALUE));
        c.is(2, x -> x.hire(0, 0, 2, 1));
        c.is(100, x -> x.hire(0, 2, 2, 50));
    }

    @Sentence(of = "Promise 14", says = "Returns the fee, which is earned at once;")
    static void promise14ReturnsTheFee(Case c) {
        c.costumes(1);
        c.is(0, x -> x.count(6));
        c.is(1, x -> x.hire(0, 300, 1, 1));
        c.is(1, x -> x.count(6));
        c.is(2600, x -> x.hire(0, 0, 60, 50));
        c.is(2601, x -> x.count(6));
        c.is(1, x -> x.hired(0, 3));
        c.is(2600, x -> x.hired(1, 3));
        c.is(2, x -> x.undo());
        c.is(1, x -> x.count(6));
    }

    @Sentence(of = "Promise 14", says = "INVALID_ARGUMENT if an argument is out of range;")
    static void promise14InvalidBeforeStateAndCapacity(Case c) {
        c.costumes(1);
        c.is(1, x -> x.pass(1));
        c.hireDays(0, 1, 23);
        c.illegal(x -> x.hire(0, 1, 1, 1));
        c.invalid(x -> x.hire(0, 0, 60, 1));
        c.invalid(x -> x.hire(0, 1, 61, 1));
        c.invalid(x -> x.hire(0, 1, 1, 0));
        c.hireDays(0, 24, 24);
        c.full(x -> x.hire(0, 25, 1, 1));
        c.invalid(x -> x.hire(0, 25, 1, 51));
        c.invalid(x -> x.hire(0, 25, 0, 1));
        c.invalid(x -> x.hire(0, 301, 1, 1));
        c.invalid(x -> x.hire(1, 25, 1, 1));
        c.invalid(x -> x.hire(-1, 25, 1, 1));
        c.invalid(x -> x.hire(0, 0, 1, 1));
    }

    @Sentence(of = "Promise 14", says = "ILLEGAL_STATE if it has a day in common with another hire of the costume;")
    static void promise14StateIfADayIsInCommon(Case c) {
        c.costumes(2);
        c.is(5, x -> x.hire(0, 20, 5, 1));
        c.illegal(x -> x.hire(0, 0, 21, 1));
        c.is(18, x -> x.hire(0, 0, 20, 1));
        c.illegal(x -> x.hire(0, 24, 60, 1));
        c.is(52, x -> x.hire(0, 25, 60, 1));
        c.illegal(x -> x.hire(0, 22, 1, 1));
        c.illegal(x -> x.hire(0, 19, 7, 1));
        c.is(6, x -> x.hire(1, 19, 7, 1));
    }

    @Sentence(of = "Promise 14", says = "ILLEGAL_STATE if it has a day in common with another hire of the costume;")
    static void promise14StateBeforeCapacity(Case c) {
        c.costumes(2);
        c.hireDays(0, 0, 23);
        c.full(x -> x.hire(0, 24, 1, 1));
        c.full(x -> x.hire(1, 0, 1, 1));
        c.illegal(x -> x.hire(0, 0, 1, 1));
        c.illegal(x -> x.hire(0, 23, 2, 1));
    }

    @Sentence(of = "Promise 14", says = "CAPACITY_EXCEEDED if there are 24 hires.")
    static void promise14CapacityOf24Hires(Case c) {
        c.costumes(2);
        c.hireDays(0, 0, 22);
        c.is(15, x -> x.hire(0, 23, 3, 5));
        c.full(x -> x.hire(0, 26, 1, 1));
        c.day(23);
        c.is((15 - 5) / 2, x -> x.endHire(23));
        c.full(x -> x.hire(0, 26, 1, 1));
        c.succeeds(x -> x.undo());
        c.succeeds(x -> x.undo());
        c.is(2, x -> x.undo());
        c.is(1, x -> x.hire(1, 26, 1, 1));
        c.full(x -> x.hire(1, 27, 1, 1));
    }

    @Sentence(of = "Promise 15", says = "This is an action.")
    static void promise15IsAnAction(Case c) {
        c.costumes(1);
        c.is(2600, x -> x.hire(0, 0, 60, 50));
        c.action(1275, x -> x.endHire(0));
        c.is(2, x -> x.undo());
        c.costumes(3);
        c.action(1275, x -> x.endHire(0));
    }

    @Sentence(of = "Promise 15", says = "- `hire`: number of a hire")
    static void promise15Hire(Case c) {
        c.hireNumbers(hire -> x -> x.endHire(hire));
    }

    @Sentence(of = "Promise 15", says = "Returns what is paid back;")
    static void promise15ReturnsWhatIsPaidBack(Case c) {
        c.costumes(3);
        c.is(7, x -> x.hire(0, 0, 8, 1));
        c.is(350, x -> x.hire(1, 0, 8, 50));
        c.is(2, x -> x.hire(2, 0, 2, 1));
        c.is(0, x -> x.endHire(2));
        c.day(6);
        c.is(0, x -> x.endHire(0));
        c.is((350 - 300) / 2, x -> x.endHire(1));
        c.is(7 + 325 + 2, x -> x.count(6));
    }

    @Sentence(of = "Promise 15", says = "INVALID_ARGUMENT if there is no such hire;")
    static void promise15InvalidIfThereIsNoSuchHire(Case c) {
        c.invalid(x -> x.endHire(0));
        c.costumes(2);
        c.invalid(x -> x.endHire(0));
        c.is(5, x -> x.hire(1, 0, 5, 1));
        c.invalid(x -> x.endHire(1));
        c.invalid(x -> x.endHire(-1));
        c.is(2, x -> x.endHire(0));
    }

    @Sentence(of = "Promise 15", says = "ILLEGAL_STATE if today is not one of its days")
    static void promise15StateIfTodayIsNotOneOfItsDays(Case c) {
        c.costumes(2);
        c.is(3, x -> x.hire(0, 5, 3, 1));
        c.is(5, x -> x.hire(1, 5, 5, 1));
        c.illegal(x -> x.endHire(0));
        c.day(4);
        c.illegal(x -> x.endHire(0));
        c.day(5);
        c.is(1, x -> x.endHire(0));
        c.is(4, x -> x.undo());
        c.day(8);
        c.illegal(x -> x.endHire(0));
        c.day(10);
        c.illegal(x -> x.endHire(1));
    }

    @Sentence(of = "Promise 15", says = "or is its last one.")
    static void promise15StateIfTodayIsTheLastOne(Case c) {
        c.costumes(3);
        c.is(1, x -> x.hire(0, 0, 1, 1));
        c.is(2, x -> x.hire(1, 0, 2, 1));
        c.is(9, x -> x.hire(2, 0, 3, 3));
        c.illegal(x -> x.endHire(0));
        c.is(0, x -> x.endHire(1));
        c.illegal(x -> x.endHire(1));
        c.day(1);
        c.is(1, x -> x.endHire(2));
        c.illegal(x -> x.endHire(2));
        c.succeeds(x -> x.undo());
        c.day(2);
        c.illegal(x -> x.endHire(2));
        c.is(9, x -> x.hired(2, 3));
    }

    // ---- promises 22 and 27

    @Sentence(of = "Promise 22", says = "- `hire`: number of a hire")
    static void promise22Hire(Case c) {
        c.hireNumbers(hire -> x -> x.hired(hire, 0));
    }

    @Sentence(of = "Promise 22", says = "- `what`: 0 its costume, 1 its first day, 2 its number of days, 3 its fee "
            + "(less what was paid "
            + "back)")
    static void promise22What0To3(Case c) {
        c.costumes(16);
        c.is(350, x -> x.hire(15, 0, 8, 50));
        c.within(0, 3, what -> x -> x.hired(0, what));
        c.is(150, x -> x.endHire(0));
        c.all(0, 4, what -> new int[] {15, 0, 1, 200}[what], what -> x -> x.hired(0, what));
    }

    @Sentence(of = "Promise 22", says = "Returns the part;")
    static void promise22ReturnsThePart(Case c) {
        c.costumes(2);
        c.is(2600, x -> x.hire(1, 300, 60, 50));
        c.is(1, x -> x.hire(0, 0, 1, 1));
        int[] due = {1, 300, 60, 2600, 0, 0, 1, 1};
        for (int part = 0; part < 8; part++) {
            int place = part;
            c.looks(due[part], x -> x.hired(place / 4, place % 4));
        }
    }

    @Sentence(of = "Promise 22", says = "INVALID_ARGUMENT if there is no such hire or what is out of range.")
    static void promise22Invalid(Case c) {
        c.invalid(x -> x.hired(0, 0));
        c.costumes(1);
        c.is(1, x -> x.hire(0, 0, 1, 1));
        c.invalid(x -> x.hired(1, 0));
        c.invalid(x -> x.hired(-1, 3));
        c.invalid(x -> x.hired(0, 4));
        c.invalid(x -> x.hired(0, -1));
        c.invalid(x -> x.hired(1, 4));
    }

    @Sentence(of = "Promise 27", says = "Finds the first day, today or later, from which on a costume is not away "
            + "for a number of days.")
    static void promise27FirstDayOfEnough(Case c) {
        c.costumes(2);
        c.is(1, x -> x.hire(0, 10, 1, 1));
        c.is(1, x -> x.hire(0, 0, 1, 1));
        c.is(3, x -> x.hire(0, 21, 3, 1));
        c.is(1, x -> x.hire(0, 11, 1, 1));
        c.looks(1, x -> x.freeFrom(0, 9));
        c.looks(24, x -> x.freeFrom(0, 10));
        c.looks(0, x -> x.freeFrom(1, 60));
        c.day(2);
        c.looks(2, x -> x.freeFrom(0, 8));
        c.looks(12, x -> x.freeFrom(0, 9));
        c.looks(24, x -> x.freeFrom(0, 10));
        c.day(11);
        c.looks(12, x -> x.freeFrom(0, 1));
        c.day(13);
        c.looks(13, x -> x.freeFrom(0, 8));
        c.looks(24, x -> x.freeFrom(0, 9));
        c.looks(13, x -> x.freeFrom(1, 60));
    }

    @Sentence(of = "Promise 27", says = "- `costume`: a costume")
    static void promise27Costume(Case c) {
        c.costumeNumbers(costume -> x -> x.freeFrom(costume, 1));
    }

    @Sentence(of = "Promise 27", says = "- `days`: 1 to 60")
    static void promise27Days1To60(Case c) {
        c.costumes(1);
        c.within(1, 60, days -> x -> x.freeFrom(0, days));
        c.is(1, x -> x.hire(0, 60, 1, 1));
        c.is(0, x -> x.freeFrom(0, 60));
        c.is(1, x -> x.pass(1));
        c.is(61, x -> x.freeFrom(0, 60));
        c.is(1, x -> x.freeFrom(0, 59));
    }

    @Sentence(of = "Promise 27", says = "Returns the day (perhaps greater than 300);")
    static void promise27DayGreaterThan300(Case c) {
        c.costumes(1);
        c.is(52, x -> x.hire(0, 300, 60, 1));
        c.day(240);
        c.looks(240, x -> x.freeFrom(0, 60));
        c.day(241);
        c.looks(360, x -> x.freeFrom(0, 60));
        c.looks(241, x -> x.freeFrom(0, 59));
        c.day(300);
        c.looks(360, x -> x.freeFrom(0, 1));
        c.looks(360, x -> x.freeFrom(0, 60));
        c.is(25, x -> x.endHire(0));
        c.looks(301, x -> x.freeFrom(0, 60));
    }

    @Sentence(of = "Promise 27", says = "Returns the day (perhaps greater than 300);")
    static void promise27BehindAll24Hires(Case c) {
        c.costumes(1);
        for (int hire = 23; hire >= 0; hire--) {
            int first = 2 * hire;
            c.is(1, x -> x.hire(0, first, 1, 1));
        }
        c.looks(1, x -> x.freeFrom(0, 1));
        c.looks(47, x -> x.freeFrom(0, 2));
        c.day(46);
        c.looks(47, x -> x.freeFrom(0, 1));
        c.day(47);
        c.looks(47, x -> x.freeFrom(0, 60));
    }

    @Sentence(of = "Promise 27", says = "INVALID_ARGUMENT if an argument is out of range.")
    static void promise27Invalid(Case c) {
        c.invalid(x -> x.freeFrom(0, 1));
        c.costumes(1);
        c.invalid(x -> x.freeFrom(1, 61));
        c.invalid(x -> x.freeFrom(0, 61));
        c.invalid(x -> x.freeFrom(-1, 1));
        c.is(0, x -> x.freeFrom(0, 1));
    }
}
