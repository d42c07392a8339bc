/** Boundaries of the text: promises 8 to 10, and what the description says. */
final class TextBoundaries {
    private static final String COSTUME = "costume 40 50 60 0 1;";
    private static final String ACTOR = "actor 40 50 60;";

    private TextBoundaries() {
    }

    // ---- the section Text

    @Sentence(of = "Text", says = "Costumes and actors can be read from a text of at most 120 characters")
    static void textOfAtMost120Characters(Case c) {
        c.reads(6, "costume40 40 40 0 0;costume41 40 40 0 0;costume42 40 40 0 0;costume43 40 40 0 0;"
                + "costume44 40 40 0 0;costume45 40 40 0 0;");
        c.all(0, 6, costume -> 40 + costume, costume -> x -> x.costume(costume, 0));
        Case spaces = c.another();
        spaces.type(" ".repeat(105) + ACTOR);
        spaces.full(x -> x.append(';'));
        spaces.is(120, x -> x.count(11));
        spaces.is(1, x -> x.load());
        spaces.is(0, x -> x.count(11));
        spaces.is(1, x -> x.append('a'));
    }

    @Sentence(of = "Text", says = "a sequence of items (possibly none)")
    static void textOfNoItem(Case c) {
        c.is(0, x -> x.load());
        c.reads(0, " ");
        c.reads(0, " ".repeat(120));
        c.reads(1, ACTOR);
        c.reads(2, ACTOR + COSTUME);
    }

    @Sentence(of = "Text", says = "each of which ends with \";\":")
    static void textItemEndsWithSemicolon(Case c) {
        c.error(14, "actor 40 50 60");
        c.error(20, "costume 40 50 60 0 1");
        c.error(25, "costume 40 50 60 0 1 dark");
        c.error(15, "actor 40 50 60 actor 40 50 60;");
        c.error(14, "actor 40 50 60:");
        c.error(0, ";");
        c.error(15, ACTOR + ";");
        c.succeeds(x -> x.clearText());
        c.reads(1, ACTOR);
    }

    @Sentence(of = "Text", says = "\"costume\" CHEST WAIST LENGTH ALLOWANCE CODE [ \"dark\" ]")
    static void textCostumeWithAndWithoutDark(Case c) {
        c.reads(2, "costume 41 42 43 4 1;costume 51 52 53 5 2 dark;");
        int[] light = {41, 42, 43, 41, 42, 43, 4, 1, 0};
        int[] dark = {51, 52, 53, 51, 52, 53, 5, 2, 1};
        c.all(0, 9, what -> light[what], what -> x -> x.costume(0, what));
        c.all(0, 9, what -> dark[what], what -> x -> x.costume(1, what));
        c.error(19, "costume 40 50 60 0 dark;");
        c.error(18, "costume 40 50 60 0;");
        c.error(21, "costume 40 50 60 0 1 2;");
        c.error(26, "costume 40 50 60 0 1 dark dark;");
        c.error(21, "costume 40 50 60 0 1 light;");
        c.error(8, "costume dark 40 50 60 0 1;");
    }

    @Sentence(of = "Text", says = "\"actor\" CHEST WAIST LENGTH")
    static void textActorHasThreeNumbers(Case c) {
        c.reads(1, "actor 41 42 43;");
        c.all(0, 3, measure -> 41 + measure, measure -> x -> x.actor(0, measure));
        c.error(11, "actor 40 50;");
        c.error(15, "actor 40 50 60 0;");
        c.error(15, "actor 40 50 60 dark;");
        c.error(6, "actor ;");
    }

    @Sentence(of = "Text", says = "They are added to what there is, in their order.")
    static void textItemsAreAddedInTheirOrder(Case c) {
        c.costumes(14);
        c.actors(6);
        c.reads(4, "costume 41 40 40 0 0;actor 51 40 40;actor 52 40 40;costume 42 40 40 0 0;");
        c.is(100, x -> x.costume(13, 0));
        c.is(41, x -> x.costume(14, 0));
        c.is(42, x -> x.costume(15, 0));
        c.is(100, x -> x.actor(5, 0));
        c.is(51, x -> x.actor(6, 0));
        c.is(52, x -> x.actor(7, 0));
        c.is(16, x -> x.count(0));
        c.is(8, x -> x.count(1));
    }

    @Sentence(of = "Text", says = "Words are maximal runs of letters a to z;")
    static void textWordsAreRunsOfAToZ(Case c) {
        c.error(0, "actora 40 50 60;");
        c.error(0, "actorz 40 50 60;");
        c.error(5, "actor` 40 50 60;");
        c.error(5, "actor{ 40 50 60;");
        c.error(5, "actorA 40 50 60;");
        c.error(5, "actorZ 40 50 60;");
        c.error(0, "Actor 40 50 60;");
        c.error(0, "acto r 40 50 60;");
        c.error(0, "actoractor 40 50 60;");
        c.error(8, "actor 40a 50 60;");
        c.error(21, "costume 40 50 60 0 1 darkz;");
        c.error(25, "costume 40 50 60 0 1 dark{;");
    }

    @Sentence(of = "Text", says = "numbers are maximal runs of digits")
    static void textNumbersAreRunsOfDigits(Case c) {
        c.error(8, "actor 40/50 60;");
        c.error(8, "actor 40:50 60;");
        c.error(6, "actor -40 50 60;");
        c.error(6, "actor +40 50 60;");
        c.error(8, "actor 40.5 50 60;");
        c.error(6, "actor 4050 60 70;");
        c.error(6, "actor 4 0 50 60;");
        c.succeeds(x -> x.clearText());
        c.reads(1, "actor90 109 199;");
        c.is(90, x -> x.actor(0, 0));
        c.is(109, x -> x.actor(0, 1));
        c.is(199, x -> x.actor(0, 2));
    }

    @Sentence(of = "Text", says = "which must not begin with 0 unless they are the single digit 0.")
    static void textNumberWithA0Ahead(Case c) {
        c.error(17, "costume 40 50 60 00 1;");
        c.error(17, "costume 40 50 60 08 1;");
        c.error(19, "costume 40 50 60 0 01;");
        c.error(19, "costume 40 50 60 0 00;");
        c.error(8, "costume 040 50 60 0 0;");
        c.error(6, "actor 0 50 60;");
        c.error(9, "actor 40 050 60;");
        c.succeeds(x -> x.clearText());
        c.reads(1, "costume 40 50 60 0 0;");
    }

    @Sentence(of = "Text", says = "Spaces (code 32) may stand before, between and after tokens;")
    static void textSpacesOfCode32(Case c) {
        c.reads(2, "   actor   40  50 60   ;  costume  40 50  60 0   1  dark  ;   ");
        c.is(1, x -> x.costume(0, 8));
        for (int character : new int[] {1, 9, 10, 13, 31, 33, 95, 160, 255}) {
            char other = (char) character;
            c.another().error(0, other + ACTOR);
            c.another().error(5, "actor" + other + "40 50 60;");
            c.another().error(14, "actor 40 50 60" + other + ";");
            c.another().error(15, ACTOR + other);
        }
    }

    @Sentence(of = "Text", says = "they are needed only between two words or two numbers.")
    static void textSpacesBetweenTwoNumbers(Case c) {
        c.reads(2, "actor40 50 60;costume40 50 60 0 1dark;");
        c.is(1, x -> x.costume(0, 8));
        c.error(8, "actor40 5060;");
        c.error(16, "costume40 50 60 01dark;");
        c.error(0, "actorcostume");
    }

    @Sentence(of = "Text", says = "The text is read from left to right.")
    static void textFirstErrorOfSeveral(Case c) {
        c.error(6, "actor 39 201 00 dark");
        c.error(9, "actor 40 201 00 dark");
        c.error(12, "actor 40 50 00 dark");
        c.error(15, "actor 40 50 60 dark");
        c.error(21, ACTOR + "actor 39;actor 39;");
        Case full = c.another();
        full.actors(8);
        full.error(0, "actor 39 50 60;");
        full.error(8, "costume 39 40 40 0 0;actor");
        full.error(21, "costume 40 40 40 0 0;actor 39");
    }

    @Sentence(of = "Text", says = "The error position is the offset (from 0) of the first character of the first "
            + "token that is not "
            + "allowed where it stands: by the grammar;")
    static void textErrorByTheGrammar(Case c) {
        c.error(0, "40 actor");
        c.error(0, "dark;");
        c.error(3, "   ;");
        c.error(6, "actor actor 50 60;");
        c.error(6, "actor ; 50 60;");
        c.error(8, "costume costume");
        c.error(18, "costume 40 50 60 0dark;");
        c.error(25, "costume 40 50 60 0 1 dark1;");
        c.error(15, ACTOR + "40");
        c.error(119, " ".repeat(119) + ";");
    }

    @Sentence(of = "Text", says = "because it is another word")
    static void textErrorOfAnotherWord(Case c) {
        c.error(0, "hat 40 50 60;");
        c.error(0, "acto 40 50 60;");
        c.error(0, "ctor 40 50 60;");
        c.error(0, "actors 40 50 60;");
        c.error(0, "actos 40 50 60;");
        c.error(0, "costum 40 50 60 0 1;");
        c.error(0, "costumes 40 50 60 0 1;");
        c.error(0, "costuma 40 50 60 0 1;");
        c.error(2, "  bostume 40 50 60 0 1;");
        c.error(21, "costume 40 50 60 0 1 dar;");
        c.error(21, "costume 40 50 60 0 1 darks;");
        c.error(21, "costume 40 50 60 0 1 dirk;");
        c.error(0, "a".repeat(120));
    }

    @Sentence(of = "Text", says = "any other character")
    static void textErrorOfAnyOtherCharacter(Case c) {
        for (int character = 1; character <= 255; character++) {
            char other = (char) character;
            if (!String.valueOf(other).matches("[ ;a-z0-9]")) {
                Case one = c.another();
                one.type(" actor" + other);
                one.is(-10006, x -> x.load());
                one.is(7, x -> x.count(11));
            }
        }
        c.error(0, "" + (char) 1);
        c.error(0, "" + (char) 255);
        c.error(119, " ".repeat(119) + (char) 128);
    }

    @Sentence(of = "Text", says = "or a number that is out of its range")
    static void textErrorOfANumberOutOfItsRange(Case c) {
        c.error(6, "actor 39 50 60;");
        c.error(9, "actor 40 201 60;");
        c.error(12, "actor 40 50 39;");
        c.error(8, "costume 201 50 60 0 1;");
        c.error(11, "costume 40 39 60 0 1;");
        c.error(14, "costume 40 50 201 0 1;");
        c.error(17, "costume 40 50 60 9 1;");
        c.error(19, "costume 40 50 60 8 4;");
        c.succeeds(x -> x.clearText());
        c.reads(3, "actor 40 200 40;costume 200 40 200 8 3;costume 40 40 40 0 0;");
    }

    /** These numbers are those of the range with 2 to the power of 8, 16, 31, 32 or 64 more, or just very long. */
    @Sentence(of = "Text", says = "or a number that is out of its range")
    static void textErrorOfANumberThatWouldWrapAround(Case c) {
        for (String number : new String[] {"356", "65636", "2147483748", "4294967396", "18446744073709551716",
            "1000000000000000000000100", "9".repeat(100)}) {
            c.another().error(6, "actor " + number + " 50");
        }
        c.error(17, "costume 40 50 60 256 1;");
        c.error(17, "costume 40 50 60 4294967296 1;");
        c.error(19, "costume 40 50 60 8 4294967297;");
        c.error(19, "costume 40 50 60 8 18446744073709551616;");
        c.error(6, "actor " + "1".repeat(114));
    }

    @Sentence(of = "Text", says = "or with a 0 ahead;")
    static void textErrorOfA0Ahead(Case c) {
        c.error(6, "actor 0100 50 60;");
        c.error(6, "actor 00100 50 60;");
        c.error(12, "actor 40 50 060;");
        c.error(17, "costume 40 50 60 01 1;");
        c.error(19, "costume 40 50 60 0 0" + "0".repeat(99));
    }

    @Sentence(of = "Text", says = "or the word \"costume\" or \"actor\" if there are as many as there can be (with "
            + "those of the text "
            + "before it).")
    static void textErrorOfAnItemTooMany(Case c) {
        c.costumes(14);
        c.actors(7);
        c.error(42, COSTUME + COSTUME + COSTUME + ACTOR);
        c.error(57, COSTUME + COSTUME + ACTOR + "costume");
        c.error(36, ACTOR + COSTUME + ACTOR);
        c.succeeds(x -> x.clearText());
        c.reads(3, COSTUME + COSTUME + ACTOR);
        c.error(0, COSTUME);
        c.error(0, ACTOR);
        c.error(1, " actor");
        c.error(1, " costume");
        Case actors = c.another();
        actors.error(112, "actor40 40 40;".repeat(8) + "actor");
        actors.succeeds(x -> x.clearText());
        actors.reads(8, "actor40 40 40;".repeat(8));
        actors.is(8, x -> x.count(1));
        Case costumes = c.another();
        costumes.costumes(10);
        costumes.reads(6, "costume40 40 40 0 0;".repeat(6));
        costumes.is(16, x -> x.count(0));
        costumes.error(0, "costume40 40 40 0 0;");
    }

    @Sentence(of = "Text", says = "(This holds for the last token of the text, too.)")
    static void textErrorOfTheLastToken(Case c) {
        c.error(0, "cost");
        c.error(0, "costumes");
        c.error(6, "actor 39");
        c.error(6, "actor 201");
        c.error(6, "actor 040");
        c.error(12, "actor 40 50 6");
        c.error(14, "actor 40 50 60!");
        c.error(15, "actor 40 50 60 d");
        c.error(17, "costume 40 50 60 9");
        c.error(17, "costume 40 50 60 00");
        c.error(19, "costume 40 50 60 0 4");
        c.error(21, "costume 40 50 60 0 1 dar");
        c.error(15, ACTOR + "c");
        Case full = c.another();
        full.costumes(16);
        full.actors(8);
        full.error(0, "costume");
        full.error(0, "actor");
    }

    @Sentence(of = "Text", says = "If the text ends where another token must come, the error position is the length "
            + "of the text.")
    static void textErrorAtTheEnd(Case c) {
        String[] beginnings = {"actor", "actor 40", "actor 40 50", "actor 40 50 60", "costume", "costume 40",
            "costume 40 50", "costume 40 50 60", "costume 40 50 60 0", "costume 40 50 60 0 1",
            "costume 40 50 60 0 1 dark", ACTOR + "actor", COSTUME + "costume"};
        for (String text : beginnings) {
            c.another().error(text.length(), text);
            c.another().error(text.length() + 2, text + "  ");
            // What stood there in a longer text before it does not count.
            Case second = c.another();
            second.type(text + ";");
            second.error(text.length(), text);
        }
        c.error(120, "costume" + " ".repeat(113));
        c.error(119, "costume" + " ".repeat(112));
        c.error(120, " ".repeat(115) + "actor");
    }

    // ---- promises 8 to 10

    @Sentence(of = "Promise 8", says = "- `character`: character code, 1 to 255")
    static void promise8Character1To255(Case c) {
        c.invalid(x -> x.append(0));
        c.within(1, 255, character -> x -> x.append(character));
        c.invalid(x -> x.append(97 + 256));
        c.is(2, x -> x.count(11));
        c.is(-10000, x -> x.load());
    }

    @Sentence(of = "Promise 8", says = "Appends a character to the text.")
    static void promise8AppendsAtTheEnd(Case c) {
        c.type("actor 40 50 60");
        c.is(-10014, x -> x.load());
        c.is(15, x -> x.append(';'));
        c.is(0, x -> x.count(10));
        c.is(1, x -> x.load());
        c.is(1, x -> x.append(';'));
        c.is(1, x -> x.count(10));
    }

    @Sentence(of = "Promise 8", says = "Returns the new length of the text;")
    static void promise8ReturnsTheNewLength(Case c) {
        c.all(1, 121, length -> length, length -> x -> x.append(32));
        c.is(120, x -> x.count(11));
        c.is(0, x -> x.load());
        c.is(1, x -> x.append(32));
    }

    @Sentence(of = "Promise 8", says = "INVALID_ARGUMENT if character is out of range;")
    static void promise8InvalidBeforeCapacity(Case c) {
        c.invalid(x -> x.append(256));
        c.type(" ".repeat(120));
        c.invalid(x -> x.append(0));
        c.invalid(x -> x.append(256));
        c.invalid(x -> x.append(-1));
        c.full(x -> x.append(1));
        c.full(x -> x.append(255));
    }

    @Sentence(of = "Promise 8", says = "CAPACITY_EXCEEDED if the text already has 120 characters.")
    static void promise8CapacityOf120Characters(Case c) {
        c.type(" ".repeat(119));
        c.is(120, x -> x.append('x'));
        c.full(x -> x.append('y'));
        c.is(-10119, x -> x.load());
        c.full(x -> x.append(' '));
        c.is(120, x -> x.clearText());
        c.is(1, x -> x.append('x'));
    }

    @Sentence(of = "Promise 9", says = "Makes the text empty.")
    static void promise9MakesTheTextEmpty(Case c) {
        c.actors(1);
        c.type("actor 40 50 60");
        c.is(14, x -> x.clearText());
        c.is(0, x -> x.count(11));
        c.is(0, x -> x.load());
        c.is(2, x -> x.count(10));
        c.reads(1, ACTOR);
        c.is(3, x -> x.count(10));
    }

    @Sentence(of = "Promise 9", says = "Returns the previous length of the text.")
    static void promise9ReturnsThePreviousLength(Case c) {
        c.looks(0, x -> x.clearText());
        c.type("x");
        c.is(1, x -> x.clearText());
        c.is(0, x -> x.clearText());
        c.type(" ".repeat(120));
        c.is(120, x -> x.clearText());
        c.is(0, x -> x.clearText());
        c.is(0, x -> x.count(10));
    }

    @Sentence(of = "Promise 10", says = "The text becomes empty.")
    static void promise10TheTextBecomesEmpty(Case c) {
        c.reads(0, "  ");
        c.is(0, x -> x.count(11));
        c.reads(1, ACTOR);
        c.is(0, x -> x.count(11));
        c.is(0, x -> x.load());
        c.is(1, x -> x.count(1));
        c.is(2, x -> x.undo());
        c.is(1, x -> x.undo());
        c.is(0, x -> x.count(11));
        c.is(0, x -> x.count(1));
    }

    @Sentence(of = "Promise 10", says = "This is one action.")
    static void promise10IsOneAction(Case c) {
        c.action(0, x -> x.load());
        c.costumes(1);
        c.reads(6, ACTOR + COSTUME + ACTOR + COSTUME + ACTOR + COSTUME);
        c.is(3, x -> x.count(10));
        c.is(2, x -> x.undo());
        c.is(1, x -> x.count(0));
        c.is(0, x -> x.count(1));
        c.costumes(3);
        c.is(5, x -> x.count(10));
        c.action(0, x -> x.load());
        c.reads(1, ACTOR);
        c.is(5, x -> x.count(10));
        c.is(4, x -> x.undo());
        c.is(0, x -> x.count(1));
    }

    @Sentence(of = "Promise 10", says = "Returns the number of items;")
    static void promise10ReturnsTheNumberOfItems(Case c) {
        c.reads(0, "");
        c.reads(1, COSTUME);
        c.reads(2, COSTUME + ACTOR);
        c.reads(7, "actor40 40 40;".repeat(7));
        c.is(8, x -> x.count(1));
        c.is(2, x -> x.count(0));
    }

    @Sentence(of = "Promise 10", says = "-10000 minus the error position if the text has an error (then nothing "
            + "changes, and the text "
            + "is kept).")
    static void promise10ErrorKeepsTheText(Case c) {
        c.error(0, "x");
        c.error(15, ACTOR + "x");
        c.error(36, COSTUME + ACTOR + ";");
        c.error(120, "actor" + " ".repeat(115));
        Case mended = c.another();
        mended.type(ACTOR + "actor 40 50");
        mended.looks(-10026, x -> x.load());
        mended.looks(-10026, x -> x.load());
        mended.is(0, x -> x.count(1));
        mended.is(0, x -> x.count(10));
        mended.type(" 61;");
        mended.is(2, x -> x.load());
        mended.is(61, x -> x.actor(1, 2));
    }
}
