/**
 * The stock of costumes of a theater: costumes, alterations, actors, scenes,
 * performances, washing, hires and plans, with an undo of at most five steps.
 *
 * Every row is made in the constructors and used again, so that no call makes
 * an object.
 */
public final class CostumeStock {
    public static final int INVALID_ARGUMENT = -2001;
    public static final int ILLEGAL_STATE = -2002;
    public static final int CAPACITY_EXCEEDED = -2003;
    public static final int NONE = -2009;

    private static final int MAX_COSTUMES = 16;
    private static final int MAX_ACTORS = 8;
    private static final int MAX_ALTERATIONS = 6;
    private static final int MAX_HIRES = 24;
    private static final int MAX_TEXT = 120;
    private static final int MAX_HISTORY = 5;
    private static final int MEASURES = 3;
    private static final int SCENES = 12;
    private static final int SETTINGS = 4;
    private static final int DIRT_LIMIT = 3;
    private static final int PROBLEM_KINDS = 5;
    private static final int MIN_MEASURE = 40;
    private static final int MAX_MEASURE = 200;
    private static final int MAX_ALLOWANCE = 8;
    private static final int MAX_NARROWING = 20;
    private static final int MAX_CHANGE = 10;
    private static final int MAX_CODE = 3;
    private static final int MAX_DIRT = 9;
    private static final int MAX_EASE = 20;
    private static final int MAX_DAY = 300;
    private static final int MAX_DAYS = 60;
    private static final int MAX_RATE = 50;
    private static final int MAX_LOAD = 5;
    private static final int STRONGEST_PROGRAM = 3;
    private static final int NOTHING_WORN = -1;
    private static final int TEXT_ERROR = -10000;

    /** For each code the set of programs that can wash it: bit k for the program k. */
    private static final int[] PROGRAMS_OF_CODE = {7, 14, 12, 8};
    private static final int[] DIRT_OUT_OF_PROGRAM = {5, 3, 2, 4};
    private static final int[] COST_OF_PROGRAM = {8, 6, 10, 15};

    private final State state;
    private final History history;
    private final Text text;
    private final Reader reader;

    public CostumeStock() {
        state = new State();
        history = new History();
        text = new Text();
        reader = new Reader(text);
    }

    // ---- costumes and actors

    public int addCostume(int chest, int waist, int length, int allowance, int code) {
        if (!areMeasures(chest, waist, length)
                || !isWithin(allowance, 0, MAX_ALLOWANCE) || !isWithin(code, 0, MAX_CODE)) {
            return INVALID_ARGUMENT;
        }
        if (state.wardrobe.size >= MAX_COSTUMES) {
            return CAPACITY_EXCEEDED;
        }
        history.remember(state);
        return state.wardrobe.add(chest, waist, length, allowance, code, 0);
    }

    public int setColor(int costume, int color) {
        if (!state.wardrobe.has(costume) || !isWithin(color, 0, 1)) {
            return INVALID_ARGUMENT;
        }
        history.remember(state);
        int previous = at(state.wardrobe.color, costume);
        put(state.wardrobe.color, costume, color);
        return previous;
    }

    public int addActor(int chest, int waist, int length) {
        if (!areMeasures(chest, waist, length)) {
            return INVALID_ARGUMENT;
        }
        if (state.cast.size >= MAX_ACTORS) {
            return CAPACITY_EXCEEDED;
        }
        history.remember(state);
        return state.cast.add(chest, waist, length);
    }

    public int set(int what, int value) {
        if (!isWithin(what, 0, SETTINGS - 1) || !isSetting(what, value)) {
            return INVALID_ARGUMENT;
        }
        history.remember(state);
        int previous = at(state.settings, what);
        put(state.settings, what, value);
        return previous;
    }

    public int alter(int costume, int measure, int change) {
        if (!state.wardrobe.has(costume) || !isWithin(measure, 0, MEASURES - 1)
                || !isWithin(change, -MAX_CHANGE, MAX_CHANGE) || change == 0) {
            return INVALID_ARGUMENT;
        }
        if (state.isAway(costume) || !state.wardrobe.allows(costume, measure, change)) {
            return ILLEGAL_STATE;
        }
        if (state.wardrobe.roomForAlterations(costume) <= 0) {
            return CAPACITY_EXCEEDED;
        }
        history.remember(state);
        state.wardrobe.addAlteration(costume, measure, change);
        int minutes = 10 + 5 * Math.abs(change);
        state.minutes += minutes;
        return minutes;
    }

    public int unpick(int costume) {
        if (!state.wardrobe.has(costume)) {
            return INVALID_ARGUMENT;
        }
        if (state.isAway(costume) || at(state.wardrobe.alterations, costume) <= 0) {
            return ILLEGAL_STATE;
        }
        history.remember(state);
        int change = state.wardrobe.removeAlteration(costume);
        int minutes = 5 + 2 * Math.abs(change);
        state.minutes += minutes;
        return minutes;
    }

    public int append(int character) {
        if (!isWithin(character, 1, 255)) {
            return INVALID_ARGUMENT;
        }
        if (text.length >= MAX_TEXT) {
            return CAPACITY_EXCEEDED;
        }
        return text.add(character);
    }

    public int clearText() {
        return text.empty();
    }

    public int load() {
        if (!reader.readAll(state.wardrobe.size, state.cast.size)) {
            return TEXT_ERROR - reader.start;
        }
        history.remember(state);
        for (int item = 0; item < reader.items; item++) {
            addItem(item);
        }
        text.empty();
        return reader.items;
    }

    private void addItem(int item) {
        int chest = reader.part(item, Reader.CHEST);
        int waist = reader.part(item, Reader.WAIST);
        int length = reader.part(item, Reader.LENGTH);
        if (reader.part(item, Reader.KIND) == Reader.ACTOR) {
            state.cast.add(chest, waist, length);
        } else {
            state.wardrobe.add(chest, waist, length, reader.part(item, Reader.ALLOWANCE),
                    reader.part(item, Reader.CODE), reader.part(item, Reader.COLOR));
        }
    }

    // ---- scenes

    public int wear(int scene, int actor, int costume) {
        if (!isWithin(scene, 0, SCENES - 1) || !state.cast.has(actor)
                || (costume != NOTHING_WORN && !state.wardrobe.has(costume))) {
            return INVALID_ARGUMENT;
        }
        history.remember(state);
        return state.cast.dress(scene, actor, costume);
    }

    public int perform() {
        for (int kind = 0; kind < PROBLEM_KINDS; kind++) {
            if (state.problemsOf(kind) > 0) {
                return ILLEGAL_STATE;
            }
        }
        if (state.today >= MAX_DAY) {
            return CAPACITY_EXCEEDED;
        }
        history.remember(state);
        state.soilAll();
        state.performances++;
        state.today++;
        return state.today;
    }

    public int pass(int days) {
        if (!isWithin(days, 1, MAX_DAYS)) {
            return INVALID_ARGUMENT;
        }
        if (state.today + days > MAX_DAY) {
            return CAPACITY_EXCEEDED;
        }
        history.remember(state);
        state.today += days;
        return state.today;
    }

    // ---- hires and washing

    public int hire(int costume, int first, int days, int rate) {
        if (!state.wardrobe.has(costume) || !isWithin(first, state.today, MAX_DAY)
                || !isWithin(days, 1, MAX_DAYS) || !isWithin(rate, 1, MAX_RATE)) {
            return INVALID_ARGUMENT;
        }
        if (state.hires.overlapping(costume, first, days) >= 0) {
            return ILLEGAL_STATE;
        }
        if (state.hires.size >= MAX_HIRES) {
            return CAPACITY_EXCEEDED;
        }
        history.remember(state);
        int fee = state.hires.add(costume, first, days, rate);
        state.fees += fee;
        return fee;
    }

    public int endHire(int hire) {
        if (!state.hires.has(hire)) {
            return INVALID_ARGUMENT;
        }
        if (!state.hires.canEnd(hire, state.today)) {
            return ILLEGAL_STATE;
        }
        history.remember(state);
        int paidBack = state.hires.end(hire, state.today);
        state.fees -= paidBack;
        return paidBack;
    }

    public int wash(int program, int load) {
        if (!isProgram(program) || load == 0 || !isSetOfCostumes(load)) {
            return INVALID_ARGUMENT;
        }
        if (!state.allowsLoad(program, load)) {
            return ILLEGAL_STATE;
        }
        history.remember(state);
        state.washing += at(COST_OF_PROGRAM, program);
        return state.wardrobe.clean(load, at(DIRT_OUT_OF_PROGRAM, program));
    }

    public int undo() {
        if (history.size <= 0) {
            return ILLEGAL_STATE;
        }
        history.restore(state);
        return history.size;
    }

    // ---- looking

    public int count(int what) {
        switch (what) {
            case 0: return state.wardrobe.size;
            case 1: return state.cast.size;
            case 2: return state.hires.size;
            case 3: return state.today;
            case 4: return state.cast.quickChanges();
            case 5: return state.minutes;
            case 6: return state.fees;
            case 7: return state.washing;
            case 8: return state.awayToday();
            case 9: return state.performances;
            case 10: return history.size;
            case 11: return text.length;
            default:
                return isWithin(what, 12, 15) ? at(state.settings, what - 12) : INVALID_ARGUMENT;
        }
    }

    public int costume(int costume, int what) {
        if (!state.wardrobe.has(costume)) {
            return INVALID_ARGUMENT;
        }
        switch (what) {
            case 0:
            case 1:
            case 2: return state.wardrobe.present(costume, what);
            case 3:
            case 4:
            case 5: return state.wardrobe.originalOf(costume, what - MEASURES);
            case 6: return at(state.wardrobe.allowance, costume);
            case 7: return at(state.wardrobe.code, costume);
            case 8: return at(state.wardrobe.color, costume);
            case 9: return at(state.wardrobe.dirt, costume);
            case 10: return at(state.wardrobe.alterations, costume);
            case 11: return state.cast.scenesOf(costume);
            case 12: return state.hires.hiresOf(costume);
            default: return INVALID_ARGUMENT;
        }
    }

    public int alteration(int costume, int index, int what) {
        if (!state.wardrobe.has(costume) || index < 0 || !isWithin(what, 0, 1)) {
            return INVALID_ARGUMENT;
        }
        if (index >= at(state.wardrobe.alterations, costume)) {
            return NONE;
        }
        int place = state.wardrobe.placeOf(costume, index);
        return at(what == 0 ? state.wardrobe.alteredMeasure : state.wardrobe.change, place);
    }

    public int actor(int actor, int what) {
        if (!state.cast.has(actor) || !isWithin(what, 0, MEASURES + SCENES - 1)) {
            return INVALID_ARGUMENT;
        }
        if (what < MEASURES) {
            return state.cast.measureOf(actor, what);
        }
        return state.cast.wornIn(what - MEASURES, actor);
    }

    public int hired(int hire, int what) {
        if (!state.hires.has(hire)) {
            return INVALID_ARGUMENT;
        }
        switch (what) {
            case 0: return at(state.hires.costume, hire);
            case 1: return at(state.hires.first, hire);
            case 2: return at(state.hires.days, hire);
            case 3: return at(state.hires.fee, hire);
            default: return INVALID_ARGUMENT;
        }
    }

    public int problems(int kind) {
        return isWithin(kind, 0, PROBLEM_KINDS - 1) ? state.problemsOf(kind) : INVALID_ARGUMENT;
    }

    public int misfit(int costume, int actor) {
        if (!state.wardrobe.has(costume) || !state.cast.has(actor)) {
            return INVALID_ARGUMENT;
        }
        return state.misfitOf(costume, actor);
    }

    // ---- plans

    public int leastAlteration(int costume, int actor) {
        if (!state.wardrobe.has(costume) || !state.cast.has(actor)) {
            return INVALID_ARGUMENT;
        }
        return state.leastChange(costume, actor);
    }

    public int costumeFor(int scene, int actor) {
        if (!isWithin(scene, 0, SCENES - 1) || !state.cast.has(actor)) {
            return INVALID_ARGUMENT;
        }
        return state.bestCostume(scene, actor);
    }

    public int freeFrom(int costume, int days) {
        if (!state.wardrobe.has(costume) || !isWithin(days, 1, MAX_DAYS)) {
            return INVALID_ARGUMENT;
        }
        return state.hires.firstFree(costume, state.today, days);
    }

    public int washable(int program, int color) {
        if (!isProgram(program) || !isWithin(color, 0, 1)) {
            return INVALID_ARGUMENT;
        }
        return state.dirtySet(program, color);
    }

    // ---- arguments

    private static boolean isWithin(int value, int least, int greatest) {
        return value >= least && value <= greatest;
    }

    private static boolean areMeasures(int chest, int waist, int length) {
        return isWithin(chest, MIN_MEASURE, MAX_MEASURE)
                && isWithin(waist, MIN_MEASURE, MAX_MEASURE)
                && isWithin(length, MIN_MEASURE, MAX_MEASURE);
    }

    private static boolean isSetting(int what, int value) {
        return what == DIRT_LIMIT ? isWithin(value, 1, MAX_DIRT) : isWithin(value, 0, MAX_EASE);
    }

    private static boolean isProgram(int program) {
        return isWithin(program, 0, STRONGEST_PROGRAM);
    }

    private boolean isSetOfCostumes(int set) {
        // An unsigned shift, so that a negative number is a set with the costume 31.
        return set >>> state.wardrobe.size == 0;
    }

    // ---- rows: no index is used that has not been tested

    private static int at(int[] row, int index) {
        return index >= 0 && index < row.length ? row[index] : 0;
    }

    private static void put(int[] row, int index, int value) {
        if (index >= 0 && index < row.length) {
            row[index] = value;
        }
    }

    private static void copyRow(int[] from, int[] to) {
        System.arraycopy(from, 0, to, 0, Math.min(from.length, to.length));
    }

    private static boolean isIn(int set, int member) {
        return (set >> member & 1) != 0;
    }

    /** The costumes with their alterations. */
    private static final class Wardrobe {
        int size;
        final int[] original = new int[MAX_COSTUMES * MEASURES];
        final int[] allowance = new int[MAX_COSTUMES];
        final int[] code = new int[MAX_COSTUMES];
        final int[] color = new int[MAX_COSTUMES];
        final int[] dirt = new int[MAX_COSTUMES];
        final int[] alterations = new int[MAX_COSTUMES];
        final int[] alteredMeasure = new int[MAX_COSTUMES * MAX_ALTERATIONS];
        final int[] change = new int[MAX_COSTUMES * MAX_ALTERATIONS];

        void copyFrom(Wardrobe other) {
            size = other.size;
            copyRow(other.original, original);
            copyRow(other.allowance, allowance);
            copyRow(other.code, code);
            copyRow(other.color, color);
            copyRow(other.dirt, dirt);
            copyRow(other.alterations, alterations);
            copyRow(other.alteredMeasure, alteredMeasure);
            copyRow(other.change, change);
        }

        boolean has(int costume) {
            return costume >= 0 && costume < size;
        }

        int add(int chest, int waist, int length, int allowed, int washCode, int shade) {
            int costume = size;
            put(original, costume * MEASURES, chest);
            put(original, costume * MEASURES + 1, waist);
            put(original, costume * MEASURES + 2, length);
            put(allowance, costume, allowed);
            put(code, costume, washCode);
            put(color, costume, shade);
            put(dirt, costume, 0);
            put(alterations, costume, 0);
            size++;
            return costume;
        }

        int originalOf(int costume, int measure) {
            return at(original, costume * MEASURES + measure);
        }

        int placeOf(int costume, int index) {
            return costume * MAX_ALTERATIONS + index;
        }

        int present(int costume, int measure) {
            int value = originalOf(costume, measure);
            int made = at(alterations, costume);
            for (int index = 0; index < made; index++) {
                int place = placeOf(costume, index);
                if (at(alteredMeasure, place) == measure) {
                    value += at(change, place);
                }
            }
            return value;
        }

        boolean allows(int costume, int measure, int difference) {
            int first = originalOf(costume, measure);
            int then = present(costume, measure) + difference;
            return then >= MIN_MEASURE && then >= first - MAX_NARROWING
                    && then <= first + at(allowance, costume);
        }

        int roomForAlterations(int costume) {
            return MAX_ALTERATIONS - at(alterations, costume);
        }

        void addAlteration(int costume, int measure, int difference) {
            int made = at(alterations, costume);
            put(alteredMeasure, placeOf(costume, made), measure);
            put(change, placeOf(costume, made), difference);
            put(alterations, costume, made + 1);
        }

        /** Returns the change of the alteration that is gone. */
        int removeAlteration(int costume) {
            int latest = at(alterations, costume) - 1;
            put(alterations, costume, latest);
            return at(change, placeOf(costume, latest));
        }

        boolean canBeWashed(int costume, int program) {
            return isIn(at(PROGRAMS_OF_CODE, at(code, costume)), program);
        }

        void soil(int costume, int by) {
            put(dirt, costume, Math.min(at(dirt, costume) + by, MAX_DIRT));
        }

        /** Returns the sum of the dirt that is washed out. */
        int clean(int set, int strength) {
            int sum = 0;
            for (int costume = 0; costume < size; costume++) {
                if (isIn(set, costume)) {
                    int out = Math.min(at(dirt, costume), strength);
                    put(dirt, costume, at(dirt, costume) - out);
                    sum += out;
                }
            }
            return sum;
        }
    }

    /** The actors, and what they wear in the scenes. */
    private static final class Cast {
        int size;
        final int[] measures = new int[MAX_ACTORS * MEASURES];
        final int[] worn = new int[SCENES * MAX_ACTORS];

        void copyFrom(Cast other) {
            size = other.size;
            copyRow(other.measures, measures);
            copyRow(other.worn, worn);
        }

        boolean has(int actor) {
            return actor >= 0 && actor < size;
        }

        int add(int chest, int waist, int length) {
            int actor = size;
            put(measures, actor * MEASURES, chest);
            put(measures, actor * MEASURES + 1, waist);
            put(measures, actor * MEASURES + 2, length);
            for (int scene = 0; scene < SCENES; scene++) {
                put(worn, scene * MAX_ACTORS + actor, NOTHING_WORN);
            }
            size++;
            return actor;
        }

        int measureOf(int actor, int measure) {
            return at(measures, actor * MEASURES + measure);
        }

        int wornIn(int scene, int actor) {
            return at(worn, scene * MAX_ACTORS + actor);
        }

        /** Returns what the actor wore there before. */
        int dress(int scene, int actor, int costume) {
            int previous = wornIn(scene, actor);
            put(worn, scene * MAX_ACTORS + actor, costume);
            return previous;
        }

        int wearers(int scene, int costume) {
            int number = 0;
            for (int actor = 0; actor < size; actor++) {
                if (wornIn(scene, actor) == costume) {
                    number++;
                }
            }
            return number;
        }

        boolean isWornByAnother(int scene, int actor, int costume) {
            int own = wornIn(scene, actor) == costume ? 1 : 0;
            return wearers(scene, costume) > own;
        }

        int scenesOf(int costume) {
            int number = 0;
            for (int scene = 0; scene < SCENES; scene++) {
                if (wearers(scene, costume) > 0) {
                    number++;
                }
            }
            return number;
        }

        /** Tells if somebody wears in the next scene what only others wear in this one. */
        boolean isHandedOver(int scene, int costume) {
            if (wearers(scene, costume) == 0) {
                return false;
            }
            for (int actor = 0; actor < size; actor++) {
                if (wornIn(scene + 1, actor) == costume && wornIn(scene, actor) != costume) {
                    return true;
                }
            }
            return false;
        }

        int quickChanges() {
            int number = 0;
            for (int scene = 0; scene + 1 < SCENES; scene++) {
                for (int actor = 0; actor < size; actor++) {
                    int before = wornIn(scene, actor);
                    int then = wornIn(scene + 1, actor);
                    if (before != NOTHING_WORN && then != NOTHING_WORN && before != then) {
                        number++;
                    }
                }
            }
            return number;
        }
    }

    /** The hires of all costumes, in the order in which they were made. */
    private static final class Hires {
        int size;
        final int[] costume = new int[MAX_HIRES];
        final int[] first = new int[MAX_HIRES];
        final int[] days = new int[MAX_HIRES];
        final int[] rate = new int[MAX_HIRES];
        final int[] fee = new int[MAX_HIRES];

        void copyFrom(Hires other) {
            size = other.size;
            copyRow(other.costume, costume);
            copyRow(other.first, first);
            copyRow(other.days, days);
            copyRow(other.rate, rate);
            copyRow(other.fee, fee);
        }

        boolean has(int hire) {
            return hire >= 0 && hire < size;
        }

        private static int feeFor(int numberOfDays, int dayRate) {
            return dayRate * (numberOfDays - numberOfDays / 7);
        }

        /** Returns the fee. */
        int add(int wanted, int firstDay, int numberOfDays, int dayRate) {
            int earned = feeFor(numberOfDays, dayRate);
            put(costume, size, wanted);
            put(first, size, firstDay);
            put(days, size, numberOfDays);
            put(rate, size, dayRate);
            put(fee, size, earned);
            size++;
            return earned;
        }

        int dayAfter(int hire) {
            return at(first, hire) + at(days, hire);
        }

        /** Returns a hire of the costume that has one of these days, or -1. */
        int overlapping(int wanted, int firstDay, int numberOfDays) {
            for (int hire = 0; hire < size; hire++) {
                if (at(costume, hire) == wanted && at(first, hire) < firstDay + numberOfDays
                        && firstDay < dayAfter(hire)) {
                    return hire;
                }
            }
            return -1;
        }

        int hiresOf(int wanted) {
            int number = 0;
            for (int hire = 0; hire < size; hire++) {
                if (at(costume, hire) == wanted) {
                    number++;
                }
            }
            return number;
        }

        boolean canEnd(int hire, int today) {
            return at(first, hire) <= today && today + 1 < dayAfter(hire);
        }

        /** Makes today the last day of a hire, and returns what is paid back. */
        int end(int hire, int today) {
            int daysThen = today - at(first, hire) + 1;
            int paidBack = (at(fee, hire) - feeFor(daysThen, at(rate, hire))) / 2;
            put(days, hire, daysThen);
            put(fee, hire, at(fee, hire) - paidBack);
            return paidBack;
        }

        int firstFree(int wanted, int today, int numberOfDays) {
            int day = today;
            // The day moves behind one more hire each time, so there is a turn for each and one to find none.
            for (int turn = 0; turn <= MAX_HIRES; turn++) {
                int hire = overlapping(wanted, day, numberOfDays);
                if (hire < 0) {
                    return day;
                }
                day = dayAfter(hire);
            }
            return day;
        }
    }

    /** All that undo brings back. */
    private static final class State {
        final Wardrobe wardrobe = new Wardrobe();
        final Cast cast = new Cast();
        final Hires hires = new Hires();
        final int[] settings = {6, 6, 4, 5};
        int today;
        int minutes;
        int fees;
        int washing;
        int performances;

        void become(State other) {
            wardrobe.copyFrom(other.wardrobe);
            cast.copyFrom(other.cast);
            hires.copyFrom(other.hires);
            copyRow(other.settings, settings);
            today = other.today;
            minutes = other.minutes;
            fees = other.fees;
            washing = other.washing;
            performances = other.performances;
        }

        boolean isAway(int costume) {
            return hires.overlapping(costume, today, 1) >= 0;
        }

        int awayToday() {
            int set = 0;
            for (int costume = 0; costume < wardrobe.size; costume++) {
                if (isAway(costume)) {
                    set |= 1 << costume;
                }
            }
            return set;
        }

        boolean isTooDirty(int costume) {
            return at(wardrobe.dirt, costume) >= at(settings, DIRT_LIMIT);
        }

        /** The change of least size after which a measure fits: 0 if it does already. */
        int lackOf(int costume, int actor, int measure) {
            int present = wardrobe.present(costume, measure);
            int least = cast.measureOf(actor, measure);
            int greatest = least + at(settings, measure);
            if (present < least) {
                return least - present;
            }
            return present > greatest ? greatest - present : 0;
        }

        int misfitOf(int costume, int actor) {
            int sum = 0;
            for (int measure = 0; measure < MEASURES; measure++) {
                sum += Math.abs(lackOf(costume, actor, measure));
            }
            return sum;
        }

        int leastChange(int costume, int actor) {
            int sum = 0;
            int room = wardrobe.roomForAlterations(costume);
            for (int measure = 0; measure < MEASURES; measure++) {
                int lack = lackOf(costume, actor, measure);
                if (lack == 0) {
                    continue;
                }
                // A greater change than the lack is nowhere allowed where the lack is not.
                if (room <= 0 || Math.abs(lack) > MAX_CHANGE || !wardrobe.allows(costume, measure, lack)) {
                    return NONE;
                }
                room--;
                sum += Math.abs(lack);
            }
            return sum;
        }

        int bestCostume(int scene, int actor) {
            int best = NONE;
            int bestChange = 0;
            for (int costume = 0; costume < wardrobe.size; costume++) {
                if (!isFreeFor(scene, actor, costume)) {
                    continue;
                }
                int change = leastChange(costume, actor);
                if (change != NONE && (best == NONE || change < bestChange)) {
                    best = costume;
                    bestChange = change;
                }
            }
            return best;
        }

        boolean isFreeFor(int scene, int actor, int costume) {
            if (isAway(costume) || isTooDirty(costume)) {
                return false;
            }
            int last = Math.min(scene + 1, SCENES - 1);
            for (int near = Math.max(scene - 1, 0); near <= last; near++) {
                if (cast.isWornByAnother(near, actor, costume)) {
                    return false;
                }
            }
            return true;
        }

        int problemsOf(int kind) {
            switch (kind) {
                case 0: return wornTwice();
                case 1: return handedOver();
                default: return wornAmiss(kind);
            }
        }

        int wornTwice() {
            int number = 0;
            for (int scene = 0; scene < SCENES; scene++) {
                for (int costume = 0; costume < wardrobe.size; costume++) {
                    if (cast.wearers(scene, costume) > 1) {
                        number++;
                    }
                }
            }
            return number;
        }

        int handedOver() {
            int number = 0;
            for (int scene = 0; scene + 1 < SCENES; scene++) {
                for (int costume = 0; costume < wardrobe.size; costume++) {
                    if (cast.isHandedOver(scene, costume)) {
                        number++;
                    }
                }
            }
            return number;
        }

        int wornAmiss(int kind) {
            int number = 0;
            for (int scene = 0; scene < SCENES; scene++) {
                for (int actor = 0; actor < cast.size; actor++) {
                    int costume = cast.wornIn(scene, actor);
                    if (costume == NOTHING_WORN) {
                        continue;
                    }
                    boolean amiss = kind == 2 ? misfitOf(costume, actor) > 0
                            : kind == 3 ? isAway(costume) : isTooDirty(costume);
                    if (amiss) {
                        number++;
                    }
                }
            }
            return number;
        }

        void soilAll() {
            for (int costume = 0; costume < wardrobe.size; costume++) {
                wardrobe.soil(costume, cast.scenesOf(costume));
            }
        }

        boolean allowsLoad(int program, int load) {
            if (Integer.bitCount(load) > MAX_LOAD) {
                return false;
            }
            int colors = 0;
            for (int costume = 0; costume < wardrobe.size; costume++) {
                if (!isIn(load, costume)) {
                    continue;
                }
                if (isAway(costume) || !wardrobe.canBeWashed(costume, program)) {
                    return false;
                }
                colors |= 1 << at(wardrobe.color, costume);
            }
            return program == STRONGEST_PROGRAM || Integer.bitCount(colors) <= 1;
        }

        int dirtySet(int program, int color) {
            int set = 0;
            for (int costume = 0; costume < wardrobe.size; costume++) {
                boolean suits = program == STRONGEST_PROGRAM || at(wardrobe.color, costume) == color;
                if (suits && at(wardrobe.dirt, costume) > 0 && !isAway(costume)
                        && wardrobe.canBeWashed(costume, program)) {
                    set |= 1 << costume;
                }
            }
            return set;
        }
    }

    /** A ring of the latest states: the oldest one's place is taken by a new one when all are full. */
    private static final class History {
        int size;
        private int next;
        private final State[] states;

        History() {
            states = new State[MAX_HISTORY];
            for (int place = 0; place < states.length; place++) {
                states[place] = new State();
            }
        }

        void remember(State state) {
            State kept = stateAt(next);
            if (kept == null) {
                return;
            }
            kept.become(state);
            next = next + 1 < MAX_HISTORY ? next + 1 : 0;
            size = Math.min(size + 1, MAX_HISTORY);
        }

        void restore(State state) {
            int latest = next > 0 ? next - 1 : MAX_HISTORY - 1;
            State kept = stateAt(latest);
            if (size <= 0 || kept == null) {
                return;
            }
            state.become(kept);
            next = latest;
            size--;
        }

        private State stateAt(int place) {
            return place >= 0 && place < states.length ? states[place] : null;
        }
    }

    private static final class Text {
        int length;
        final int[] characters = new int[MAX_TEXT];

        /** Returns the new length. */
        int add(int character) {
            put(characters, length, character);
            length++;
            return length;
        }

        /** Returns the previous length. */
        int empty() {
            int previous = length;
            length = 0;
            return previous;
        }
    }

    /** Reads a text into items, which are kept here until the whole text is known to be right. */
    private static final class Reader {
        static final int KIND = 0;
        static final int CHEST = 1;
        static final int WAIST = 2;
        static final int LENGTH = 3;
        static final int ALLOWANCE = 4;
        static final int CODE = 5;
        static final int COLOR = 6;
        private static final int PARTS = 7;

        static final int COSTUME = 0;
        static final int ACTOR = 1;

        private static final int END = 0;
        private static final int WORD = 1;
        private static final int NUMBER = 2;
        private static final int SIGN = 3;

        /** Greater than any number that is allowed, so that long ones cannot wrap around. */
        private static final int TOO_GREAT = 1000;

        int items;
        /** The offset of the present token: where the error is if it is not allowed. */
        int start;
        private int end;
        private int token;
        private int costumesLeft;
        private int actorsLeft;
        private final Text text;
        private final int[] parts;

        Reader(Text read) {
            text = read;
            parts = new int[(MAX_COSTUMES + MAX_ACTORS) * PARTS];
        }

        int part(int item, int which) {
            return at(parts, item * PARTS + which);
        }

        private void keep(int which, int value) {
            put(parts, items * PARTS + which, value);
        }

        /** Tells if the text has no error, when there are so many costumes and actors already. */
        boolean readAll(int costumes, int actors) {
            costumesLeft = MAX_COSTUMES - costumes;
            actorsLeft = MAX_ACTORS - actors;
            items = 0;
            end = 0;
            nextToken();
            for (int turn = 0; turn < MAX_TEXT && token != END; turn++) {
                if (!readItem()) {
                    return false;
                }
                items++;
                nextToken();
            }
            return token == END;
        }

        private boolean readItem() {
            boolean isCostume = isWord("costume");
            if (!isCostume && !isWord("actor") || !takePlace(isCostume)) {
                return false;
            }
            keep(KIND, isCostume ? COSTUME : ACTOR);
            int last = isCostume ? CODE : LENGTH;
            for (int which = CHEST; which <= last; which++) {
                if (!readNumber(which)) {
                    return false;
                }
            }
            nextToken();
            boolean dark = isCostume && isWord("dark");
            keep(COLOR, dark ? 1 : 0);
            if (dark) {
                nextToken();
            }
            return token == SIGN && at(text.characters, start) == ';';
        }

        private boolean takePlace(boolean forCostume) {
            if (forCostume) {
                costumesLeft--;
                return costumesLeft >= 0;
            }
            actorsLeft--;
            return actorsLeft >= 0;
        }

        private boolean readNumber(int which) {
            nextToken();
            boolean zeroAhead = end - start > 1 && at(text.characters, start) == '0';
            if (token != NUMBER || zeroAhead) {
                return false;
            }
            int value = 0;
            for (int offset = start; offset < end; offset++) {
                value = Math.min(value * 10 + at(text.characters, offset) - '0', TOO_GREAT);
            }
            keep(which, value);
            return isAllowed(which, value);
        }

        private static boolean isAllowed(int which, int value) {
            switch (which) {
                case ALLOWANCE: return isWithin(value, 0, MAX_ALLOWANCE);
                case CODE: return isWithin(value, 0, MAX_CODE);
                default: return isWithin(value, MIN_MEASURE, MAX_MEASURE);
            }
        }

        private boolean isWord(String word) {
            if (token != WORD || end - start != word.length()) {
                return false;
            }
            for (int index = 0; index < word.length(); index++) {
                if (at(text.characters, start + index) != word.charAt(index)) {
                    return false;
                }
            }
            return true;
        }

        private void nextToken() {
            start = end;
            while (start < text.length && at(text.characters, start) == ' ') {
                start++;
            }
            token = kindAt(start);
            end = token == END ? start : start + 1;
            if (token == WORD || token == NUMBER) {
                while (end < text.length && kindAt(end) == token) {
                    end++;
                }
            }
        }

        /** The kind of token to which the character at an offset belongs. */
        private int kindAt(int offset) {
            if (offset >= text.length) {
                return END;
            }
            int character = at(text.characters, offset);
            if (isWithin(character, 'a', 'z')) {
                return WORD;
            }
            return isWithin(character, '0', '9') ? NUMBER : SIGN;
        }
    }
}
