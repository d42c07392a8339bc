/** Stocks as the tests need them at their start. */
final class Stocks {
    static final int INVALID = CostumeStock.INVALID_ARGUMENT;
    static final int STATE = CostumeStock.ILLEGAL_STATE;
    static final int FULL = CostumeStock.CAPACITY_EXCEEDED;
    static final int NONE = CostumeStock.NONE;
    static final int LEAST = Integer.MIN_VALUE;
    static final int GREATEST = Integer.MAX_VALUE;

    private Stocks() {
    }

    /** A stock with so many costumes of 100, 80, 120 centimeters, and so many actors whom they fit. */
    static CostumeStock of(int costumes, int actors) {
        CostumeStock x = new CostumeStock();
        for (int costume = 0; costume < costumes; costume++) {
            Due.is("addCostume", x.addCostume(100, 80, 120, 8, 0), costume);
        }
        for (int actor = 0; actor < actors; actor++) {
            Due.is("addActor", x.addActor(100, 80, 120), actor);
        }
        return x;
    }

    /** Empties the text and types another one. */
    static void type(CostumeStock x, String text) {
        x.clearText();
        for (int offset = 0; offset < text.length(); offset++) {
            Due.is("append", x.append(text.charAt(offset)), offset + 1);
        }
    }

    /** Checks that the call before, an error, recorded no state and left the numbers as they were. */
    static void unchanged(CostumeStock x, String after, int[] numbers) {
        for (int what = 0; what <= 15; what++) {
            Due.is("count(" + what + ") after " + after, x.count(what), numbers[what]);
        }
    }

    static int[] numbers(CostumeStock x) {
        int[] numbers = new int[16];
        for (int what = 0; what <= 15; what++) {
            numbers[what] = x.count(what);
        }
        return numbers;
    }
}
