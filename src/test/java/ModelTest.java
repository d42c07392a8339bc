/** Long runs of calls, the same ones each time, of which every answer is compared with that of PlainStock. */
public final class ModelTest {
    private static final int RUNS = 2500;
    /** What an object answers to later calls is free. */
    private static final int CALLS = 512;
    /** As many calls as one play makes at most. */
    private static final int LONGEST = 120;
    private static final int KINDS = 27;
    private static final int LOOKING = 17;
    private static final int WILD = 40;
    private static final String[] PIECES = {"costume", "actor", "dark", ";", " ", "100", "95", "105", "0", "4", "8",
        "3", "39", "00", "x", "costume 100 80 120 8 1;", "costume 98 84 118 2 0 dark;", "actor 98 78 117;"};

    private long seed;
    private CostumeStock x;
    private PlainStock y;
    private final int[] answers = new int[KINDS];
    private int run;
    private int calls;
    private int focus;

    public static void main(String[] args) {
        ModelTest test = new ModelTest();
        for (int run = 0; run < RUNS; run++) {
            test.playRun(run);
        }
        for (int kind = 0; kind < KINDS; kind++) {
            Due.holds("calls of the kind " + kind + " succeed often enough: " + test.answers[kind],
                    test.answers[kind] > RUNS / 2);
        }
        Due.finish("ModelTest");
    }

    private int below(int bound) {
        seed = seed * 6364136223846793005L + 1442695040888963407L;
        return (int) ((seed >>> 33) % bound);
    }

    private int between(int least, int greatest) {
        return least + below(greatest - least + 1);
    }

    /** Mostly a number of the range, now and then one beside it or far from it. */
    private int argument(int least, int greatest) {
        switch (below(WILD)) {
            case 0: return least - 1;
            case 1: return greatest + 1;
            case 2: return below(4) == 0 ? Integer.MIN_VALUE : least;
            case 3: return below(4) == 0 ? Integer.MAX_VALUE : greatest;
            default: return greatest < least ? least : between(least, greatest);
        }
    }

    private int aCostume() {
        return argument(0, Math.min(y.count(0) - 1, focus));
    }

    private int anActor() {
        return argument(0, Math.min(y.count(1) - 1, focus));
    }

    private int aMeasure() {
        int middle = below(30) == 0 ? 45 : 100;
        return below(WILD) == 0 ? argument(40, 200) : between(middle - 5, middle + 5);
    }

    private void playRun(int number) {
        run = number;
        calls = 0;
        seed = 7919L * number + 17;
        x = new CostumeStock();
        y = new PlainStock();
        // Some runs stay with few costumes and actors, so that much happens to them.
        focus = number % 3 == 0 ? 15 : number % 3 == 1 ? 3 : 1;
        if (number % 2 == 0) {
            for (int measure = 0; measure < 3; measure++) {
                compare(3, x.set(measure, 14), y.set(measure, 14));
            }
        }
        playStart(number % 5);
        while (calls <= CALLS - LONGEST) {
            play(below(KINDS + 12));
        }
        Due.holds("a play makes no more than " + LONGEST + " calls", calls <= CALLS);
        while (calls < CALLS) {
            playLooking(LOOKING + below(KINDS - LOOKING));
        }
    }

    /** Some runs begin with a stock that is nearly full of something. */
    private void playStart(int what) {
        int times = new int[] {0, 5, 14, 21, 110}[what];
        for (int time = 0; time < times; time++) {
            int first = 2 * time;
            switch (what) {
                case 1:
                    compare(9, x.pass(59), y.pass(59));
                    break;
                case 2:
                    compare(0, x.addCostume(100, 80, 120, 8, 1), y.addCostume(100, 80, 120, 8, 1));
                    compare(2, x.addActor(98, 78, 118), y.addActor(98, 78, 118));
                    break;
                case 3:
                    compare(0, x.addCostume(100, 80, 120, 8, 1), y.addCostume(100, 80, 120, 8, 1));
                    compare(12, x.hire(0, first, 1, 7), y.hire(0, first, 1, 7));
                    break;
                default:
                    compare(6, x.append(' '), y.append(' '));
            }
        }
    }

    private void compare(int kind, int got, int want) {
        calls++;
        Due.is("run " + run + ", a call of the kind " + kind, got, want);
        if (want >= -1) {
            answers[kind]++;
        }
    }

    private void play(int kind) {
        if (kind < 7) {
            playMaking(kind);
        } else if (kind < 12) {
            playScenesAndText(kind);
        } else if (kind < LOOKING) {
            playHiresAndWashing(kind);
        } else if (kind < KINDS) {
            playLooking(kind);
        } else {
            // More of what fills a stock.
            playMaking(below(3) == 0 ? 0 : 4);
            playScenesAndText(below(2) == 0 ? 10 : 11);
        }
    }

    private void playMaking(int kind) {
        int c = aCostume();
        int a = aMeasure();
        int b = aMeasure();
        int d = aMeasure();
        switch (kind) {
            case 0: {
                int allowance = argument(0, 8);
                int code = argument(0, 3);
                compare(0, x.addCostume(a, b, d, allowance, code), y.addCostume(a, b, d, allowance, code));
                break;
            }
            case 1: {
                int color = argument(0, 1);
                compare(1, x.setColor(c, color), y.setColor(c, color));
                break;
            }
            case 2:
                compare(2, x.addActor(a, b, d), y.addActor(a, b, d));
                break;
            case 3: {
                int what = argument(0, 3);
                int value = what == 3 ? argument(1, 9) : argument(0, 20);
                compare(3, x.set(what, value), y.set(what, value));
                break;
            }
            case 4: {
                int measure = argument(0, 2);
                int change = below(3) == 0 ? argument(-10, 10) : between(-4, 4);
                compare(4, x.alter(c, measure, change), y.alter(c, measure, change));
                break;
            }
            case 5:
                compare(5, x.unpick(c), y.unpick(c));
                break;
            default:
                if (below(3) == 0) {
                    compare(6, x.clearText(), y.clearText());
                }
                int character = argument(1, 255);
                if (below(3) == 0) {
                    compare(6, x.append(character), y.append(character));
                }
        }
    }

    private void playScenesAndText(int kind) {
        switch (kind) {
            case 7:
                if (below(2) == 0) {
                    compare(7, x.clearText(), y.clearText());
                }
                int pieces = below(4);
                for (int piece = 0; piece < pieces; piece++) {
                    type(PIECES[below(PIECES.length)] + (below(3) == 0 ? "" : " "));
                }
                if (below(3) == 0) {
                    type(below(2) == 0 ? PIECES[15] : PIECES[17]);
                }
                compare(8, x.load(), y.load());
                break;
            case 8:
                compare(8, x.load(), y.load());
                break;
            case 9: {
                int days = below(3) == 0 ? argument(1, 60) : argument(1, 3);
                compare(9, x.pass(days), y.pass(days));
                break;
            }
            case 10: {
                int scene = argument(0, below(2) == 0 ? 11 : 3);
                int actor = anActor();
                int costume = below(3) == 0 ? -1 : aCostume();
                compare(10, x.wear(scene, actor, costume), y.wear(scene, actor, costume));
                break;
            }
            default:
                compare(11, x.perform(), y.perform());
                int problem = argument(0, 4);
                compare(11, x.problems(problem), y.problems(problem));
        }
    }

    private void type(String piece) {
        for (int offset = 0; offset < piece.length(); offset++) {
            int character = piece.charAt(offset);
            compare(6, x.append(character), y.append(character));
        }
    }

    private void playHiresAndWashing(int kind) {
        int c = aCostume();
        switch (kind) {
            case 12:
            case 13: {
                int first = y.count(3) + (below(5) == 0 ? argument(0, 60) : argument(0, 4));
                int days = below(3) == 0 ? argument(1, 60) : argument(1, 10);
                int rate = argument(1, 50);
                compare(kind, x.hire(c, first, days, rate), y.hire(c, first, days, rate));
                break;
            }
            case 14: {
                int hire = argument(0, y.count(2) - 1);
                compare(14, x.endHire(hire), y.endHire(hire));
                break;
            }
            case 15: {
                int program = argument(0, 3);
                int load = below(2) == 0 ? 1 << below(6) : below(2) == 0 ? argument(0, 255) : y.washable(below(4), 0);
                compare(15, x.wash(program, load), y.wash(program, load));
                break;
            }
            default:
                for (int time = below(4); time >= 0; time--) {
                    compare(16, x.undo(), y.undo());
                }
        }
    }

    private void playLooking(int kind) {
        int c = aCostume();
        int a = anActor();
        int scene = argument(0, 11);
        int program = argument(0, 3);
        int index = argument(0, 6);
        int what = argument(0, 15);
        switch (kind) {
            case LOOKING:
                compare(17, x.count(what), y.count(what));
                break;
            case 18: {
                int part = argument(0, 12);
                compare(18, x.costume(c, part), y.costume(c, part));
                break;
            }
            case 19: {
                int part = argument(0, 1);
                compare(19, x.alteration(c, index, part), y.alteration(c, index, part));
                break;
            }
            case 20:
                compare(20, x.actor(a, what), y.actor(a, what));
                break;
            case 21: {
                int hire = argument(0, y.count(2) - 1);
                int part = argument(0, 3);
                compare(21, x.hired(hire, part), y.hired(hire, part));
                break;
            }
            case 22:
                compare(22, x.misfit(c, a), y.misfit(c, a));
                break;
            case 23:
                compare(23, x.leastAlteration(c, a), y.leastAlteration(c, a));
                break;
            case 24:
                compare(24, x.costumeFor(scene, a), y.costumeFor(scene, a));
                break;
            case 25: {
                int days = argument(1, below(2) == 0 ? 60 : 8);
                compare(25, x.freeFrom(c, days), y.freeFrom(c, days));
                break;
            }
            default: {
                int color = argument(0, 1);
                compare(26, x.washable(program, color), y.washable(program, color));
            }
        }
    }
}
