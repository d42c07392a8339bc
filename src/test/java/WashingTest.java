/** Promises 16 and 28: loads of washing. */
public final class WashingTest {
    private static final boolean[][] CAN_WASH = {{true, true, true, false}, {false, true, true, true},
        {false, false, true, true}, {false, false, false, true}};
    private static final int[] COST = {8, 6, 10, 15};
    private static final int[] OUT = {5, 3, 2, 4};

    public static void main(String[] args) {
        promise16Codes();
        promise16Dirt();
        promise16Wrong();
        promise16Loads();
        promise28();
        Due.finish("WashingTest");
    }

    private static void promise16Codes() {
        for (int code = 0; code < 4; code++) {
            for (int program = 0; program < 4; program++) {
                CostumeStock x = new CostumeStock();
                x.addCostume(100, 100, 100, 0, code);
                boolean can = CAN_WASH[code][program];
                Due.is("wash(" + program + ") of the code " + code, x.wash(program, 1), can ? 0 : Stocks.STATE);
                Due.is("cost", x.count(7), can ? COST[program] : 0);
                Due.is("states", x.count(10), can ? 2 : 1);
            }
        }
    }

    /** A stock with costumes of these codes, of which the costume k has the dirt dirt[k]. */
    private static CostumeStock dirty(int[] codes, int[] dirt) {
        CostumeStock x = new CostumeStock();
        x.addActor(100, 100, 100);
        for (int costume = 0; costume < codes.length; costume++) {
            x.addCostume(100, 100, 100, 0, codes[costume]);
        }
        for (int costume = 0; costume < codes.length; costume++) {
            for (int scene = 0; scene < 12; scene++) {
                x.wear(scene, 0, scene < dirt[costume] ? costume : -1);
            }
            x.perform();
            Due.is("dirt", x.costume(costume, 9), dirt[costume]);
        }
        return x;
    }

    private static void promise16Dirt() {
        for (int program = 0; program < 4; program++) {
            int code = program == 0 ? 0 : program;
            CostumeStock x = dirty(new int[] {code, code, code}, new int[] {9, OUT[program], 1});
            int sum = 2 * OUT[program] + 1;
            Due.is("wash(" + program + ", 7)", x.wash(program, 7), sum);
            Due.is("dirt of 9", x.costume(0, 9), 9 - OUT[program]);
            Due.is("dirt as much as is washed out", x.costume(1, 9), 0);
            Due.is("dirt of 1", x.costume(2, 9), 0);
            Due.is("cost", x.count(7), COST[program]);
            Due.is("wash(" + program + ", 6) again", x.wash(program, 6), 0);
            Due.is("cost", x.count(7), 2 * COST[program]);
            x.undo();
            Due.is("undo()", x.undo(), 3);
            Due.is("dirt after undo", x.costume(1, 9), OUT[program]);
            Due.is("cost after undo", x.count(7), 0);
            Due.is("wash of one alone", x.wash(program, 4), 1);
            Due.is("the other's dirt", x.costume(0, 9), 9);
        }
    }

    private static void promise16Wrong() {
        CostumeStock x = Stocks.of(2, 0);
        int[] numbers = Stocks.numbers(x);
        Due.is("wash(-1, 1)", x.wash(-1, 1), Stocks.INVALID);
        Due.is("wash(4, 1)", x.wash(4, 1), Stocks.INVALID);
        Due.is("wash(0, 0)", x.wash(0, 0), Stocks.INVALID);
        Due.is("wash(0, 4)", x.wash(0, 4), Stocks.INVALID);
        Due.is("wash(0, 7)", x.wash(0, 7), Stocks.INVALID);
        Due.is("wash(0, -1)", x.wash(0, -1), Stocks.INVALID);
        Due.is("wash(0, LEAST)", x.wash(0, Stocks.LEAST), Stocks.INVALID);
        Due.is("wash(3, 5)", x.wash(3, 5), Stocks.INVALID);
        Stocks.unchanged(x, "wash, wrong", numbers);
        Due.is("wash(0, 3)", x.wash(0, 3), 0);
        CostumeStock y = new CostumeStock();
        Due.is("wash(0, 1) without costumes", y.wash(0, 1), Stocks.INVALID);
        CostumeStock z = Stocks.of(16, 0);
        Due.is("wash(0, 32768)", z.wash(0, 32768), 0);
        Due.is("wash(0, 65536)", z.wash(0, 65536), Stocks.INVALID);
    }

    private static void promise16Loads() {
        CostumeStock x = new CostumeStock();
        for (int costume = 0; costume < 7; costume++) {
            x.addCostume(100, 100, 100, 0, 1);
        }
        Due.is("five costumes", x.wash(1, 31), 0);
        Due.is("six costumes", x.wash(1, 63), Stocks.STATE);
        x.setColor(2, 1);
        Due.is("two colors", x.wash(1, 6), Stocks.STATE);
        Due.is("two colors by the program 2", x.wash(2, 6), Stocks.STATE);
        Due.is("two colors by the program 3", x.wash(3, 6), 0);
        x.setColor(1, 1);
        Due.is("two dark ones", x.wash(1, 6), 0);
        x.addCostume(100, 100, 100, 0, 0);
        Due.is("one that cannot be washed so", x.wash(3, 129), Stocks.STATE);
        x.hire(0, 0, 1, 1);
        int[] numbers = Stocks.numbers(x);
        Due.is("one that is away", x.wash(3, 3), Stocks.STATE);
        Stocks.unchanged(x, "wash of one that is away", numbers);
        x.pass(1);
        Due.is("one that is back", x.wash(3, 3), 0);
    }

    private static void promise28() {
        CostumeStock x = dirty(new int[] {0, 1, 2, 3, 0, 1, 2, 3, 0}, new int[] {1, 1, 1, 1, 1, 1, 1, 1, 0});
        for (int costume = 4; costume < 8; costume++) {
            x.setColor(costume, 1);
        }
        Due.is("washable(0, 0)", x.washable(0, 0), 1);
        Due.is("washable(1, 0)", x.washable(1, 0), 3);
        Due.is("washable(2, 0)", x.washable(2, 0), 7);
        Due.is("washable(0, 1)", x.washable(0, 1), 16);
        Due.is("washable(1, 1)", x.washable(1, 1), 48);
        Due.is("washable(2, 1)", x.washable(2, 1), 112);
        Due.is("washable(3, 0)", x.washable(3, 0), 238);
        Due.is("washable(3, 1)", x.washable(3, 1), 238);
        x.hire(1, x.count(3), 1, 1);
        Due.is("washable(1, 0) without the one that is away", x.washable(1, 0), 1);
        Due.is("washable(-1, 0)", x.washable(-1, 0), Stocks.INVALID);
        Due.is("washable(4, 0)", x.washable(4, 0), Stocks.INVALID);
        Due.is("washable(0, 2)", x.washable(0, 2), Stocks.INVALID);
        Due.is("washable(0, -1)", x.washable(0, -1), Stocks.INVALID);
        Due.is("washable(3, 2)", x.washable(3, 2), Stocks.INVALID);
        Due.is("a new stock", new CostumeStock().washable(0, 0), 0);
    }
}
