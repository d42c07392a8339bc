import java.util.ArrayList;
import java.util.Arrays;
import java.util.List;

/** Compares the answers of two objects, on one of which a call more was made. */
final class Afterwards {
    private static final int[] DAYS = {1, 7, 60};
    private static final int STATES = 10;

    private Afterwards() {
    }

    /** Every answer after the call is as if it had not been made. */
    static void asWithout(String name, List<Case.Call> made, Case.Call call) {
        List<Case.Call> with = new ArrayList<>(made);
        with.add(call);
        for (List<Case.Call> ending : endings()) {
            compare(name, with, made, ending, true);
        }
    }

    /** After the call and undo every answer is as if they had not been made, but for the history's oldest state. */
    static void undone(String name, List<Case.Call> made, Case.Call call) {
        List<Case.Call> with = new ArrayList<>(made);
        with.add(call);
        with.add(x -> x.undo());
        compare(name + ", undone", with, made, List.of(), false);
        compare(name + ", undone", with, made, later(), false);
    }

    /** What may be called afterwards: nothing, undo until there is nothing left, load, and actions. */
    private static List<List<Case.Call>> endings() {
        List<List<Case.Call>> endings = new ArrayList<>();
        List<Case.Call> undos = new ArrayList<>();
        for (int time = 0; time <= 6; time++) {
            endings.add(List.copyOf(undos));
            undos.add(x -> x.undo());
        }
        endings.add(List.of(x -> x.load()));
        endings.add(later());
        return endings;
    }

    private static List<Case.Call> later() {
        return List.of(x -> x.perform(), x -> x.hire(0, 300, 2, 7), x -> x.wash(0, 1), x -> x.unpick(0),
                x -> x.alter(0, 1, -1), x -> x.endHire(0), x -> x.pass(1), x -> x.addCostume(90, 70, 110, 2, 3),
                x -> x.addActor(90, 70, 110), x -> x.wear(3, 0, 0), x -> x.setColor(0, 1), x -> x.set(3, 4),
                x -> x.append(59), x -> x.perform());
    }

    private static void compare(String name, List<Case.Call> with, List<Case.Call> without,
            List<Case.Call> ending, boolean history) {
        List<Case.Call> all = questions(without, ending, history);
        int room = Case.LAST_CALL - with.size() - ending.size();
        Due.holds(name + ": there is room for questions", room > 0);
        for (int from = 0; room > 0 && from < all.size(); from += room) {
            List<Case.Call> some = all.subList(from, Math.min(from + room, all.size()));
            int[] want = answers(without, ending, some);
            int[] got = answers(with, ending, some);
            int place = Arrays.mismatch(got, want);
            Due.holds(place < 0 ? name : name + ": after " + ending.size() + " calls the answer " + (from + place)
                    + " is " + got[place] + ", and without the call " + want[place], place < 0);
        }
    }

    private static int[] answers(List<Case.Call> made, List<Case.Call> ending, List<Case.Call> asked) {
        CostumeStock x = new CostumeStock();
        made.forEach(call -> call.on(x));
        int[] answers = new int[ending.size() + asked.size()];
        for (int place = 0; place < answers.length; place++) {
            boolean ended = place >= ending.size();
            answers[place] = (ended ? asked.get(place - ending.size()) : ending.get(place)).on(x);
        }
        return answers;
    }

    /** All that can be asked about what such an object has, and about one costume, actor and hire more. */
    private static List<Case.Call> questions(List<Case.Call> made, List<Case.Call> ending, boolean history) {
        CostumeStock x = new CostumeStock();
        made.forEach(call -> call.on(x));
        ending.forEach(call -> call.on(x));
        int costumes = Math.min(x.count(0) + 1, 16);
        int actors = Math.min(x.count(1) + 1, 8);
        List<Case.Call> all = new ArrayList<>();
        for (int number = 0; number < 16; number++) {
            int what = number;
            if (history || what != STATES) {
                all.add(y -> y.count(what));
            }
        }
        for (int costume = 0; costume < costumes; costume++) {
            addCostume(all, costume, actors);
        }
        for (int actor = 0; actor < actors; actor++) {
            addActor(all, actor);
        }
        addHires(all, Math.min(x.count(2) + 1, 24));
        addSets(all);
        return all;
    }

    private static void addCostume(List<Case.Call> all, int costume, int actors) {
        for (int number = 0; number <= 12; number++) {
            int what = number;
            all.add(x -> x.costume(costume, what));
        }
        for (int number = 0; number < 12; number++) {
            int what = number;
            all.add(x -> x.alteration(costume, what / 2, what % 2));
        }
        for (int number = 0; number < actors; number++) {
            int actor = number;
            all.add(x -> x.misfit(costume, actor));
            all.add(x -> x.leastAlteration(costume, actor));
        }
        for (int days : DAYS) {
            all.add(x -> x.freeFrom(costume, days));
        }
    }

    private static void addActor(List<Case.Call> all, int actor) {
        for (int number = 0; number <= 14; number++) {
            int what = number;
            all.add(x -> x.actor(actor, what));
        }
        for (int number = 0; number <= 11; number++) {
            int scene = number;
            all.add(x -> x.costumeFor(scene, actor));
        }
    }

    private static void addHires(List<Case.Call> all, int hires) {
        for (int number = 0; number < hires * 4; number++) {
            int place = number;
            all.add(x -> x.hired(place / 4, place % 4));
        }
    }

    private static void addSets(List<Case.Call> all) {
        for (int number = 0; number <= 4; number++) {
            int kind = number;
            all.add(x -> x.problems(kind));
        }
        for (int number = 0; number < 8; number++) {
            int place = number;
            all.add(x -> x.washable(place / 2, place % 2));
        }
    }
}
