import java.util.ArrayList;
import java.util.List;
import java.util.function.IntFunction;
import java.util.function.IntUnaryOperator;

/** A run of calls on a new object for one sentence of the document, each with the answer that is due. */
final class Case {
    /** What an object answers to later calls is free. */
    static final int LAST_CALL = 512;

    /** A call of a method with its arguments. */
    interface Call {
        int on(CostumeStock x);
    }

    private final String name;
    private final CostumeStock stock = new CostumeStock();
    private final List<Call> made = new ArrayList<>();
    private int calls;

    Case(String test) {
        name = test;
    }

    /** The same test on another new object. */
    Case another() {
        return new Case(name);
    }

    private int ask(Call call) {
        calls++;
        if (calls > LAST_CALL) {
            Due.holds(where() + " makes at most " + LAST_CALL + " calls", false);
        }
        return call.on(stock);
    }

    private String where() {
        String line = StackWalker.getInstance().walk(frames -> frames.map(Object::toString)
                .filter(frame -> frame.contains("Boundaries.java")).findFirst().orElse("?"));
        return name + " (" + line.replaceFirst(".*\\(", "") + ", call " + calls;
    }

    private void check(int got, int want) {
        Due.is(got == want ? name : where(), got, want);
    }

    /** The call answers so. */
    void is(int want, Call call) {
        check(ask(call), want);
        made.add(call);
    }

    /** The call answers no error. */
    void succeeds(Call call) {
        int got = ask(call);
        Due.holds(got >= -1 ? name : where() + " succeeds: " + got, got >= -1);
        made.add(call);
    }

    /** The calls with from to upTo - 1 answer so. */
    void all(int from, int upTo, IntUnaryOperator want, IntFunction<Call> call) {
        for (int number = from; number < upTo; number++) {
            is(want.applyAsInt(number), call.apply(number));
        }
    }

    /** The call answers so, and every answer afterwards is as if it had not been made. */
    void looks(int want, Call call) {
        check(ask(call), want);
        Afterwards.asWithout(name, made, call);
    }

    void invalid(Call call) {
        looks(-2001, call);
    }

    void illegal(Call call) {
        looks(-2002, call);
    }

    void full(Call call) {
        looks(-2003, call);
    }

    void none(Call call) {
        looks(-2009, call);
    }

    /** The least and the greatest value succeed; those beside them, and those that wrap around, are invalid. */
    void within(int least, int greatest, IntFunction<Call> call) {
        invalid(call.apply(least - 1));
        invalid(call.apply(greatest + 1));
        invalid(call.apply(Integer.MIN_VALUE));
        invalid(call.apply(Integer.MAX_VALUE));
        succeeds(call.apply(least));
        succeeds(call.apply(greatest));
    }

    /** The call names a costume: of none, of two and of all 16 those that there are alone. */
    void costumeNumbers(IntFunction<Call> before, IntFunction<Call> call) {
        for (int number : new int[] {0, 2, 16}) {
            Case some = another();
            some.actors(1);
            some.costumes(number);
            some.numbers(number, 16, x -> x.addCostume(100, 80, 120, 8, 0), before, call);
        }
    }

    void costumeNumbers(IntFunction<Call> call) {
        costumeNumbers(number -> x -> x.count(0), call);
    }

    /** The call names an actor: of none, of two and of all 8 those that there are alone. */
    void actorNumbers(IntFunction<Call> call) {
        for (int number : new int[] {0, 2, 8}) {
            Case some = another();
            some.costumes(1);
            some.actors(number);
            some.numbers(number, 8, x -> x.addActor(100, 80, 120), actor -> x -> x.count(1), call);
        }
    }

    /** The call names a hire: of none, of two and of all 24 those that there are alone; all begin today. */
    void hireNumbers(IntFunction<Call> call) {
        for (int number : new int[] {0, 2, 24}) {
            Case some = another();
            some.costumes(3);
            some.succeeds(x -> x.pass(22));
            if (number > 0) {
                some.is(5, x -> x.hire(0, 22, 5, 1));
                some.hireDays(1, 30, 27 + number);
                some.is(5, x -> x.hire(2, 22, 5, 1));
            }
            some.numbers(number, 24, x -> x.hire(1, 100, 1, 1), hire -> x -> x.count(2), call);
        }
    }

    private void numbers(int number, int most, Call addOne, IntFunction<Call> before, IntFunction<Call> call) {
        if (number < most) {
            succeeds(addOne);
            succeeds(x -> x.undo());
        }
        invalid(call.apply(number));
        invalid(call.apply(-1));
        invalid(call.apply(Integer.MIN_VALUE));
        invalid(call.apply(Integer.MAX_VALUE));
        if (number > 0) {
            succeeds(before.apply(0));
            succeeds(call.apply(0));
            succeeds(before.apply(number - 1));
            succeeds(call.apply(number - 1));
        }
    }

    /** The call answers so, records one state (or drops the oldest for it), and undo brings back what was before. */
    void action(int want, Call call) {
        List<Call> before = List.copyOf(made);
        int states = ask(x -> x.count(10));
        is(want, call);
        is(Math.min(states + 1, 5), x -> x.count(10));
        Afterwards.undone(name, before, call);
    }

    /** Adds costumes of 100, 80, 120 centimeters, which can be altered by 8 and have the code 0. */
    void costumes(int number) {
        for (int time = 0; time < number; time++) {
            succeeds(x -> x.addCostume(100, 80, 120, 8, 0));
        }
    }

    /** Adds actors whom those costumes fit. */
    void actors(int number) {
        for (int time = 0; time < number; time++) {
            succeeds(x -> x.addActor(100, 80, 120));
        }
    }

    /** Makes one hire of the costume for each day from the first to the last. */
    void hireDays(int costume, int first, int last) {
        all(first, last + 1, day -> 1, day -> x -> x.hire(costume, day, 1, 1));
    }

    /** Lets days pass until it is this one. */
    void day(int day) {
        int today = ask(x -> x.count(3));
        while (today < day) {
            int days = Math.min(60, day - today);
            today += days;
            is(today, x -> x.pass(days));
        }
    }

    /** Lets the actor 0, whom it has to fit, wear a clean costume in so many scenes of a performance, and no longer. */
    void soil(int costume, int scenes) {
        for (int scene = 0; scene < scenes; scene++) {
            int there = scene;
            is(-1, x -> x.wear(there, 0, costume));
        }
        succeeds(x -> x.perform());
        for (int scene = 0; scene < scenes; scene++) {
            int there = scene;
            is(costume, x -> x.wear(there, 0, -1));
        }
        is(Math.min(scenes, 9), x -> x.costume(costume, 9));
    }

    void type(String text) {
        int length = ask(x -> x.count(11));
        for (int offset = 0; offset < text.length(); offset++) {
            char character = text.charAt(offset);
            is(length + offset + 1, x -> x.append(character));
        }
    }

    /** The text is read into so many items. */
    void reads(int items, String text) {
        type(text);
        is(items, x -> x.load());
    }

    /** The text has an error there, and nothing changes. */
    void error(int position, String text) {
        succeeds(x -> x.clearText());
        type(text);
        looks(-10000 - position, x -> x.load());
    }
}
