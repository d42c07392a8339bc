/** Promises 8 to 10: the text, and what is read from it. */
public final class TextTest {
    private static final String BODY = "100 100 100";

    public static void main(String[] args) {
        promise8();
        promise9();
        promise10();
        promise10Items();
        promise10Spaces();
        promise10Errors();
        promise10Numbers();
        promise10Full();
        promise10Action();
        Due.finish("TextTest");
    }

    private static void promise8() {
        CostumeStock x = new CostumeStock();
        Due.is("append(0)", x.append(0), Stocks.INVALID);
        Due.is("append(256)", x.append(256), Stocks.INVALID);
        Due.is("append(-1)", x.append(-1), Stocks.INVALID);
        Due.is("append(LEAST)", x.append(Stocks.LEAST), Stocks.INVALID);
        Due.is("append(1)", x.append(1), 1);
        Due.is("append(255)", x.append(255), 2);
        for (int length = 3; length <= 120; length++) {
            Due.is("append(32)", x.append(32), length);
        }
        Due.is("a character too much", x.append(32), Stocks.FULL);
        Due.is("a character too much, wrong", x.append(0), Stocks.INVALID);
        Due.is("length", x.count(11), 120);
        Due.is("append is no action", x.count(10), 0);
    }

    private static void promise9() {
        CostumeStock x = new CostumeStock();
        Due.is("clearText()", x.clearText(), 0);
        Stocks.type(x, "abc");
        Due.is("clearText()", x.clearText(), 3);
        Due.is("length", x.count(11), 0);
        Due.is("clearText() again", x.clearText(), 0);
        Due.is("clearText is no action", x.count(10), 0);
        Due.is("append(65)", x.append(65), 1);
    }

    private static void promise10() {
        CostumeStock x = new CostumeStock();
        Stocks.type(x, "costume 101 102 103 4 2;actor 91 92 93;costume 111 112 113 8 3 dark;");
        Due.is("load()", x.load(), 3);
        Due.is("the text is empty", x.count(11), 0);
        Due.is("one action", x.count(10), 1);
        int[][] due = {{101, 102, 103, 101, 102, 103, 4, 2, 0, 0, 0, 0, 0},
            {111, 112, 113, 111, 112, 113, 8, 3, 1, 0, 0, 0, 0}};
        for (int costume = 0; costume < 2; costume++) {
            for (int what = 0; what < 13; what++) {
                Due.is("costume", x.costume(costume, what), due[costume][what]);
            }
        }
        Due.is("actors", x.count(1), 1);
        for (int what = 0; what < 3; what++) {
            Due.is("actor(0, " + what + ")", x.actor(0, what), 91 + what);
        }
        Due.is("undo()", x.undo(), 0);
        Due.is("costumes after undo", x.count(0), 0);
        Due.is("actors after undo", x.count(1), 0);
        Due.is("the text is not restored", x.count(11), 0);
    }

    private static void promise10Items() {
        CostumeStock x = Stocks.of(1, 1);
        Due.is("an empty text", x.load(), 0);
        Due.is("that is an action", x.count(10), 3);
        Stocks.type(x, "   ");
        Due.is("spaces alone", x.load(), 0);
        Due.is("length", x.count(11), 0);
        Stocks.type(x, "actor " + BODY + ";");
        Due.is("one actor more", x.load(), 1);
        Due.is("actor(1, 0)", x.actor(1, 0), 100);
        Due.is("the latest actor wears nothing", x.actor(1, 14), -1);
    }

    private static void promise10Spaces() {
        CostumeStock x = new CostumeStock();
        Stocks.type(x, "costume40 41 42 0 0dark;actor40 40 40;");
        Due.is("no more spaces than needed", x.load(), 2);
        Due.is("dark", x.costume(0, 8), 1);
        Stocks.type(x, "  costume  40   200 42 8  3  dark  ;  actor   40 40 200  ;  ");
        Due.is("many spaces", x.load(), 2);
        Due.is("waist", x.costume(1, 1), 200);
        Due.is("code", x.costume(1, 7), 3);
        Due.is("length of the actor", x.actor(1, 2), 200);
    }

    /** Checks the error of a text, and that it changes nothing. */
    private static void error(CostumeStock x, String text, int position) {
        Stocks.type(x, text);
        int[] numbers = Stocks.numbers(x);
        Due.is("load() of '" + text + "'", x.load(), -10000 - position);
        Stocks.unchanged(x, "load() of '" + text + "'", numbers);
    }

    private static void promise10Errors() {
        error(new CostumeStock(), "hat", 0);
        error(new CostumeStock(), "  costumes 100", 2);
        error(new CostumeStock(), "cost", 0);
        error(new CostumeStock(), "kostume 100 100 100 0 0;", 0);
        error(new CostumeStock(), "actoz 100 100 100;", 0);
        error(new CostumeStock(), "Costume", 0);
        error(new CostumeStock(), ";", 0);
        error(new CostumeStock(), "100", 0);
        error(new CostumeStock(), "dark", 0);
        error(new CostumeStock(), "costume", 7);
        error(new CostumeStock(), "costume  ", 9);
        error(new CostumeStock(), "costume ;", 8);
        error(new CostumeStock(), "costume costume", 8);
        error(new CostumeStock(), "costume-100", 7);
        error(new CostumeStock(), "costume\t100", 7);
        error(new CostumeStock(), "costume " + BODY, 19);
        error(new CostumeStock(), "costume " + BODY + " 0", 21);
        error(new CostumeStock(), "costume " + BODY + " 0 0", 23);
        error(new CostumeStock(), "costume " + BODY + " 0 0 ", 24);
        error(new CostumeStock(), "costume " + BODY + " 0 0 dark", 28);
        error(new CostumeStock(), "costume " + BODY + " 0 0 dar;", 24);
        error(new CostumeStock(), "costume " + BODY + " 0 0 darkdark;", 24);
        error(new CostumeStock(), "costume " + BODY + " 0 0 dark dark;", 29);
        error(new CostumeStock(), "costume " + BODY + " 0 0 0;", 24);
        error(new CostumeStock(), "costume " + BODY + " dark;", 20);
        error(new CostumeStock(), "costume " + BODY + ";", 19);
        error(new CostumeStock(), "actor " + BODY, 17);
        error(new CostumeStock(), "actor " + BODY + " dark;", 18);
        error(new CostumeStock(), "actor " + BODY + " 0;", 18);
        error(new CostumeStock(), "actor " + BODY + " costume;", 18);
        error(new CostumeStock(), "actor 100 100;", 13);
        error(new CostumeStock(), "actor " + BODY + ";;", 18);
        error(new CostumeStock(), "actor " + BODY + "; x", 19);
        error(new CostumeStock(), "actor " + BODY + ":", 17);
        error(new CostumeStock(), "actor " + BODY + ";actor 100 100 20;", 32);
        error(new CostumeStock(), "actor" + (char) 233, 5);
    }

    private static void promise10Numbers() {
        error(new CostumeStock(), "actor 39 100 100;", 6);
        error(new CostumeStock(), "actor 201 100 100;", 6);
        error(new CostumeStock(), "actor 100 39 100;", 10);
        error(new CostumeStock(), "actor 100 201 100;", 10);
        error(new CostumeStock(), "actor 100 100 39;", 14);
        error(new CostumeStock(), "actor 100 100 201", 14);
        error(new CostumeStock(), "actor 100 100 0100;", 14);
        error(new CostumeStock(), "actor 100 100 0", 14);
        error(new CostumeStock(), "actor 100100 100;", 6);
        error(new CostumeStock(), "actor 4294967396 100 100;", 6);
        error(new CostumeStock(), "actor 18446744073709551716 100 100;", 6);
        error(new CostumeStock(), "costume " + BODY + " 9 0;", 20);
        error(new CostumeStock(), "costume " + BODY + " 00 0;", 20);
        error(new CostumeStock(), "costume " + BODY + " 01 0;", 20);
        error(new CostumeStock(), "costume " + BODY + " 0 4;", 22);
        error(new CostumeStock(), "costume " + BODY + " 8 00", 22);
        error(new CostumeStock(), "costume " + BODY + " 4294967296 0;", 20);
    }

    private static void promise10Full() {
        CostumeStock x = Stocks.of(15, 7);
        error(x, "costume 40 40 40 0 0;actor 40 40 40;actor 40 40 40;", 36);
        error(x, "actor 40 40 40;costume 40 40 40 0 0; costume", 37);
        Stocks.type(x, "costume 40 40 40 0 0;actor 40 40 40;");
        Due.is("load() of the last ones", x.load(), 2);
        error(x, "costume", 0);
        error(x, " actor", 1);
        error(x, "costumes", 0);
        Due.is("costumes", x.count(0), 16);
        Due.is("actors", x.count(1), 8);
    }

    private static void promise10Action() {
        CostumeStock x = new CostumeStock();
        for (int time = 0; time < 6; time++) {
            Due.is("load()", x.load(), 0);
        }
        Due.is("states", x.count(10), 5);
        Stocks.type(x, "actor 40 40 40;actor 50 50 50;actor 60 60 60;actor 70 70 70;actor 80 80 80;actor 90 90 90;"
                + "actor40 50 60;");
        Due.is("seven actors", x.load(), 7);
        Due.is("actor(6, 2)", x.actor(6, 2), 60);
        Due.is("actor(5, 2)", x.actor(5, 2), 90);
    }
}
