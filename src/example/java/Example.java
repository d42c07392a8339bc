/** A coat, from its first scene to its hire; README.md shows what this prints. */
public final class Example {
    public static void main(String[] args) {
        CostumeStock stock = new CostumeStock();
        int coat = stock.addCostume(100, 80, 120, 4, 1);
        int actor = stock.addActor(103, 79, 118);
        say("worn in the scene before", stock.wear(0, actor, coat));

        int day = stock.perform();
        if (day == CostumeStock.ILLEGAL_STATE) {
            say("no performance, there is a problem", day);
        }
        say("costumes that do not fit", stock.problems(2));
        say("centimeters to alter at least", stock.leastAlteration(coat, actor));
        say("minutes for the alteration", stock.alter(coat, 0, 3));
        say("today, after a performance", stock.perform());
        say("dirt of the coat", stock.costume(coat, 9));
        say("dirt washed out", stock.wash(1, 1 << coat));

        say("fee for the days 3 to 9", stock.hire(coat, 3, 7, 10));
        say("free for five days from the day", stock.freeFrom(coat, 5));
        say("no hire, it is away on the day 9", stock.hire(coat, 9, 1, 10));

        say("items read", read(stock, "actor 98 78 117; costume 98 84 118 2 0 dark;"));
        say("no items, an error at the offset 14", read(stock, "costume 100 80;"));
        say("actions left to undo", stock.undo());
        say("no second alteration", stock.alteration(coat, 1, 0));
        say("no actor, 39 is too little", stock.addActor(39, 79, 118));
    }

    private static int read(CostumeStock stock, String text) {
        stock.clearText();
        for (int offset = 0; offset < text.length(); offset++) {
            stock.append(text.charAt(offset));
        }
        return stock.load();
    }

    private static void say(String what, int answer) {
        System.out.println(what + ": " + answer);
    }
}
