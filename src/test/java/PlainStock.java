import java.util.ArrayDeque;
import java.util.ArrayList;
import java.util.Deque;
import java.util.HashSet;
import java.util.List;
import java.util.Set;
import java.util.TreeSet;
import java.util.regex.Matcher;
import java.util.regex.Pattern;

/**
 * The document's rules a second time, as slowly and literally as they can be
 * said: days are sets, plans try everything, undo copies all. ModelTest
 * compares the answers of CostumeStock with these.
 */
final class PlainStock {
    private static final int INVALID = -2001;
    private static final int STATE = -2002;
    private static final int FULL = -2003;
    private static final int NONE = -2009;
    private static final Pattern TOKEN = Pattern.compile("[a-z]+|[0-9]+|[^ ]");
    private static final String[] WASHED_BY = {"012", "123", "23", "3"};

    private record Alteration(int measure, int change) {
    }

    private static final class Costume {
        int[] original;
        int allowance;
        int code;
        int color;
        int dirt;
        List<Alteration> alterations = new ArrayList<>();

        Costume copy() {
            Costume c = new Costume();
            c.original = original.clone();
            c.allowance = allowance;
            c.code = code;
            c.color = color;
            c.dirt = dirt;
            c.alterations = new ArrayList<>(alterations);
            return c;
        }

        int present(int measure) {
            return original[measure] + alterations.stream().filter(a -> a.measure() == measure)
                    .mapToInt(Alteration::change).sum();
        }

        boolean allows(int measure, int change) {
            int then = present(measure) + change;
            return !(then < 40 || then < original[measure] - 20 || then > original[measure] + allowance);
        }
    }

    private static final class Hire {
        int costume;
        int first;
        int rate;
        int fee;
        Set<Integer> days = new TreeSet<>();

        Hire copy() {
            Hire h = new Hire();
            h.costume = costume;
            h.first = first;
            h.rate = rate;
            h.fee = fee;
            h.days = new TreeSet<>(days);
            return h;
        }
    }

    private static final class State {
        List<Costume> costumes = new ArrayList<>();
        List<int[]> actors = new ArrayList<>();
        List<Hire> hires = new ArrayList<>();
        int[][] worn = new int[12][8];
        int[] settings = {6, 6, 4, 5};
        int today;
        int minutes;
        int fees;
        int washing;
        int performances;

        State copy() {
            State s = new State();
            costumes.forEach(c -> s.costumes.add(c.copy()));
            actors.forEach(a -> s.actors.add(a.clone()));
            hires.forEach(h -> s.hires.add(h.copy()));
            for (int scene = 0; scene < 12; scene++) {
                s.worn[scene] = worn[scene].clone();
            }
            s.settings = settings.clone();
            s.today = today;
            s.minutes = minutes;
            s.fees = fees;
            s.washing = washing;
            s.performances = performances;
            return s;
        }
    }

    private State s = new State();
    private final Deque<State> history = new ArrayDeque<>();
    private String text = "";

    private void action() {
        history.addLast(s.copy());
        if (history.size() > 5) {
            history.removeFirst();
        }
    }

    private static boolean out(int value, int least, int greatest) {
        return value < least || value > greatest;
    }

    private boolean noCostume(int costume) {
        return out(costume, 0, s.costumes.size() - 1);
    }

    private boolean noActor(int actor) {
        return out(actor, 0, s.actors.size() - 1);
    }

    private boolean away(int costume, int day) {
        return s.hires.stream().anyMatch(h -> h.costume == costume && h.days.contains(day));
    }

    int addCostume(int chest, int waist, int length, int allowance, int code) {
        if (out(chest, 40, 200) || out(waist, 40, 200) || out(length, 40, 200) || out(allowance, 0, 8)
                || out(code, 0, 3)) {
            return INVALID;
        }
        if (s.costumes.size() == 16) {
            return FULL;
        }
        action();
        return newCostume(new int[] {chest, waist, length}, allowance, code, 0);
    }

    private int newCostume(int[] original, int allowance, int code, int color) {
        Costume c = new Costume();
        c.original = original;
        c.allowance = allowance;
        c.code = code;
        c.color = color;
        s.costumes.add(c);
        return s.costumes.size() - 1;
    }

    int setColor(int costume, int color) {
        if (noCostume(costume) || out(color, 0, 1)) {
            return INVALID;
        }
        action();
        int previous = s.costumes.get(costume).color;
        s.costumes.get(costume).color = color;
        return previous;
    }

    int addActor(int chest, int waist, int length) {
        if (out(chest, 40, 200) || out(waist, 40, 200) || out(length, 40, 200)) {
            return INVALID;
        }
        if (s.actors.size() == 8) {
            return FULL;
        }
        action();
        return newActor(new int[] {chest, waist, length});
    }

    private int newActor(int[] measures) {
        s.actors.add(measures);
        for (int scene = 0; scene < 12; scene++) {
            s.worn[scene][s.actors.size() - 1] = -1;
        }
        return s.actors.size() - 1;
    }

    int set(int what, int value) {
        if (out(what, 0, 3) || (what == 3 ? out(value, 1, 9) : out(value, 0, 20))) {
            return INVALID;
        }
        action();
        int previous = s.settings[what];
        s.settings[what] = value;
        return previous;
    }

    int alter(int costume, int measure, int change) {
        if (noCostume(costume) || out(measure, 0, 2) || out(change, -10, 10) || change == 0) {
            return INVALID;
        }
        Costume c = s.costumes.get(costume);
        if (away(costume, s.today) || !c.allows(measure, change)) {
            return STATE;
        }
        if (c.alterations.size() == 6) {
            return FULL;
        }
        action();
        s.costumes.get(costume).alterations.add(new Alteration(measure, change));
        int minutes = 10 + 5 * Math.abs(change);
        s.minutes += minutes;
        return minutes;
    }

    int unpick(int costume) {
        if (noCostume(costume)) {
            return INVALID;
        }
        if (away(costume, s.today) || s.costumes.get(costume).alterations.isEmpty()) {
            return STATE;
        }
        action();
        List<Alteration> made = s.costumes.get(costume).alterations;
        int minutes = 5 + 2 * Math.abs(made.remove(made.size() - 1).change());
        s.minutes += minutes;
        return minutes;
    }

    int append(int character) {
        if (out(character, 1, 255)) {
            return INVALID;
        }
        if (text.length() == 120) {
            return FULL;
        }
        text += (char) character;
        return text.length();
    }

    int clearText() {
        int previous = text.length();
        text = "";
        return previous;
    }

    /** Splits the text first, then walks through the tokens with the name of what is due next. */
    int load() {
        List<String> words = new ArrayList<>();
        List<Integer> offsets = new ArrayList<>();
        Matcher matcher = Pattern.compile(TOKEN.pattern(), Pattern.DOTALL).matcher(text);
        while (matcher.find()) {
            words.add(matcher.group());
            offsets.add(matcher.start());
        }
        words.add("");
        offsets.add(text.length());
        List<List<Integer>> items = new ArrayList<>();
        int costumes = s.costumes.size();
        int actors = s.actors.size();
        int at = 0;
        while (!words.get(at).isEmpty()) {
            boolean costume = words.get(at).equals("costume");
            if (!(costume && costumes < 16 || words.get(at).equals("actor") && actors < 8)) {
                return -10000 - offsets.get(at);
            }
            costumes += costume ? 1 : 0;
            actors += costume ? 0 : 1;
            at++;
            List<Integer> item = new ArrayList<>();
            for (int part = 0; part < (costume ? 5 : 3); part++, at++) {
                int least = part < 3 ? 40 : 0;
                int greatest = part < 3 ? 200 : part == 3 ? 8 : 3;
                if (!words.get(at).matches("0|[1-9][0-9]{0,2}") || out(Integer.parseInt(words.get(at)), least, greatest)) {
                    return -10000 - offsets.get(at);
                }
                item.add(Integer.parseInt(words.get(at)));
            }
            if (costume) {
                boolean dark = words.get(at).equals("dark");
                item.add(dark ? 1 : 0);
                at += dark ? 1 : 0;
            }
            if (!words.get(at).equals(";")) {
                return -10000 - offsets.get(at);
            }
            at++;
            items.add(item);
        }
        action();
        for (List<Integer> item : items) {
            int[] measures = {item.get(0), item.get(1), item.get(2)};
            if (item.size() == 3) {
                newActor(measures);
            } else {
                newCostume(measures, item.get(3), item.get(4), item.get(5));
            }
        }
        text = "";
        return items.size();
    }

    int wear(int scene, int actor, int costume) {
        if (out(scene, 0, 11) || noActor(actor) || costume != -1 && noCostume(costume)) {
            return INVALID;
        }
        action();
        int previous = s.worn[scene][actor];
        s.worn[scene][actor] = costume;
        return previous;
    }

    int perform() {
        for (int kind = 0; kind < 5; kind++) {
            if (problems(kind) != 0) {
                return STATE;
            }
        }
        if (s.today == 300) {
            return FULL;
        }
        action();
        for (int costume = 0; costume < s.costumes.size(); costume++) {
            Costume c = s.costumes.get(costume);
            c.dirt = Math.min(9, c.dirt + costume(costume, 11));
        }
        s.performances++;
        return ++s.today;
    }

    int pass(int days) {
        if (out(days, 1, 60)) {
            return INVALID;
        }
        if (s.today + days > 300) {
            return FULL;
        }
        action();
        return s.today += days;
    }

    private static int fee(int days, int rate) {
        int fee = 0;
        for (int day = 1; day <= days; day++) {
            fee += day % 7 == 0 ? 0 : rate;
        }
        return fee;
    }

    int hire(int costume, int first, int days, int rate) {
        if (noCostume(costume) || out(first, s.today, 300) || out(days, 1, 60) || out(rate, 1, 50)) {
            return INVALID;
        }
        Hire hire = new Hire();
        for (int day = first; day < first + days; day++) {
            if (away(costume, day)) {
                return STATE;
            }
            hire.days.add(day);
        }
        if (s.hires.size() == 24) {
            return FULL;
        }
        action();
        hire.costume = costume;
        hire.first = first;
        hire.rate = rate;
        hire.fee = fee(days, rate);
        s.hires.add(hire);
        s.fees += hire.fee;
        return hire.fee;
    }

    int endHire(int hire) {
        if (out(hire, 0, s.hires.size() - 1)) {
            return INVALID;
        }
        Set<Integer> days = s.hires.get(hire).days;
        if (!days.contains(s.today) || !days.contains(s.today + 1)) {
            return STATE;
        }
        action();
        Hire h = s.hires.get(hire);
        h.days.removeIf(day -> day > s.today);
        int paidBack = (h.fee - fee(h.days.size(), h.rate)) / 2;
        h.fee -= paidBack;
        s.fees -= paidBack;
        return paidBack;
    }

    private static boolean canWash(int program, Costume c) {
        return WASHED_BY[c.code].indexOf('0' + program) >= 0;
    }

    int wash(int program, int load) {
        if (out(program, 0, 3) || load == 0) {
            return INVALID;
        }
        List<Integer> members = new ArrayList<>();
        for (int bit = 0; bit < 32; bit++) {
            if ((load & 1 << bit) != 0) {
                members.add(bit);
            }
        }
        if (members.stream().anyMatch(this::noCostume)) {
            return INVALID;
        }
        boolean colored = members.stream().map(m -> s.costumes.get(m).color).distinct().count() > 1;
        if (members.size() > 5 || colored && program != 3
                || members.stream().anyMatch(m -> away(m, s.today) || !canWash(program, s.costumes.get(m)))) {
            return STATE;
        }
        action();
        int sum = 0;
        for (int member : members) {
            Costume c = s.costumes.get(member);
            int before = c.dirt;
            c.dirt = Math.max(0, before - List.of(5, 3, 2, 4).get(program));
            sum += before - c.dirt;
        }
        s.washing += List.of(8, 6, 10, 15).get(program);
        return sum;
    }

    int undo() {
        if (history.isEmpty()) {
            return STATE;
        }
        s = history.removeLast();
        return history.size();
    }

    int count(int what) {
        int[] numbers = {s.costumes.size(), s.actors.size(), s.hires.size(), s.today, quickChanges(), s.minutes,
            s.fees, s.washing, awaySet(), s.performances, history.size(), text.length(), s.settings[0],
            s.settings[1], s.settings[2], s.settings[3]};
        return out(what, 0, 15) ? INVALID : numbers[what];
    }

    private int quickChanges() {
        int number = 0;
        for (int actor = 0; actor < s.actors.size(); actor++) {
            for (int scene = 1; scene < 12; scene++) {
                Set<Integer> both = new HashSet<>(List.of(s.worn[scene - 1][actor], s.worn[scene][actor]));
                number += both.size() == 2 && !both.contains(-1) ? 1 : 0;
            }
        }
        return number;
    }

    private int awaySet() {
        int set = 0;
        for (Hire h : s.hires) {
            set |= h.days.contains(s.today) ? 1 << h.costume : 0;
        }
        return set;
    }

    int costume(int costume, int what) {
        if (noCostume(costume) || out(what, 0, 12)) {
            return INVALID;
        }
        Costume c = s.costumes.get(costume);
        int scenes = 0;
        for (int scene = 0; scene < 12; scene++) {
            scenes += wearers(scene, costume).isEmpty() ? 0 : 1;
        }
        int hires = (int) s.hires.stream().filter(h -> h.costume == costume).count();
        int[] numbers = {c.present(0), c.present(1), c.present(2), c.original[0], c.original[1], c.original[2],
            c.allowance, c.code, c.color, c.dirt, c.alterations.size(), scenes, hires};
        return numbers[what];
    }

    int alteration(int costume, int index, int what) {
        if (noCostume(costume) || index < 0 || out(what, 0, 1)) {
            return INVALID;
        }
        List<Alteration> made = s.costumes.get(costume).alterations;
        if (index >= made.size()) {
            return NONE;
        }
        return what == 0 ? made.get(index).measure() : made.get(index).change();
    }

    int actor(int actor, int what) {
        if (noActor(actor) || out(what, 0, 14)) {
            return INVALID;
        }
        return what < 3 ? s.actors.get(actor)[what] : s.worn[what - 3][actor];
    }

    int hired(int hire, int what) {
        if (out(hire, 0, s.hires.size() - 1) || out(what, 0, 3)) {
            return INVALID;
        }
        Hire h = s.hires.get(hire);
        return new int[] {h.costume, h.first, h.days.size(), h.fee}[what];
    }

    private Set<Integer> wearers(int scene, int costume) {
        Set<Integer> wearers = new HashSet<>();
        for (int actor = 0; actor < s.actors.size(); actor++) {
            if (s.worn[scene][actor] == costume) {
                wearers.add(actor);
            }
        }
        return wearers;
    }

    private boolean fits(int costume, int actor) {
        for (int measure = 0; measure < 3; measure++) {
            int present = s.costumes.get(costume).present(measure);
            int least = s.actors.get(actor)[measure];
            if (out(present, least, least + s.settings[measure])) {
                return false;
            }
        }
        return true;
    }

    int problems(int kind) {
        if (out(kind, 0, 4)) {
            return INVALID;
        }
        int number = 0;
        for (int scene = 0; scene < 12; scene++) {
            for (int costume = 0; costume < s.costumes.size(); costume++) {
                Set<Integer> here = wearers(scene, costume);
                if (kind == 0) {
                    number += here.size() > 1 ? 1 : 0;
                } else if (kind == 1) {
                    Set<Integer> then = scene < 11 ? wearers(scene + 1, costume) : Set.of();
                    number += !here.isEmpty() && !here.containsAll(then) ? 1 : 0;
                } else {
                    for (int actor : here) {
                        boolean amiss = kind == 2 && !fits(costume, actor) || kind == 3 && away(costume, s.today)
                                || kind == 4 && s.costumes.get(costume).dirt >= s.settings[3];
                        number += amiss ? 1 : 0;
                    }
                }
            }
        }
        return number;
    }

    int misfit(int costume, int actor) {
        if (noCostume(costume) || noActor(actor)) {
            return INVALID;
        }
        int sum = 0;
        for (int measure = 0; measure < 3; measure++) {
            int present = s.costumes.get(costume).present(measure);
            int nearest = Integer.MAX_VALUE;
            int least = s.actors.get(actor)[measure];
            for (int good = least; good <= least + s.settings[measure]; good++) {
                nearest = Math.min(nearest, Math.abs(good - present));
            }
            sum += nearest;
        }
        return sum;
    }

    /** Tries for each measure no change and every change, all together. */
    int leastAlteration(int costume, int actor) {
        if (noCostume(costume) || noActor(actor)) {
            return INVALID;
        }
        Costume c = s.costumes.get(costume);
        List<List<Integer>> good = new ArrayList<>();
        for (int measure = 0; measure < 3; measure++) {
            good.add(new ArrayList<>());
            for (int change = -10; change <= 10; change++) {
                int least = s.actors.get(actor)[measure];
                boolean allowed = change == 0 || c.allows(measure, change);
                if (allowed && !out(c.present(measure) + change, least, least + s.settings[measure])) {
                    good.get(measure).add(change);
                }
            }
        }
        int best = Integer.MAX_VALUE;
        for (int chest : good.get(0)) {
            for (int waist : good.get(1)) {
                for (int length : good.get(2)) {
                    int made = (chest == 0 ? 0 : 1) + (waist == 0 ? 0 : 1) + (length == 0 ? 0 : 1);
                    if (c.alterations.size() + made <= 6) {
                        best = Math.min(best, Math.abs(chest) + Math.abs(waist) + Math.abs(length));
                    }
                }
            }
        }
        return best == Integer.MAX_VALUE ? NONE : best;
    }

    int costumeFor(int scene, int actor) {
        if (out(scene, 0, 11) || noActor(actor)) {
            return INVALID;
        }
        int best = NONE;
        for (int costume = s.costumes.size() - 1; costume >= 0; costume--) {
            Set<Integer> others = new HashSet<>();
            for (int near = 0; near < 12; near++) {
                if (Math.abs(near - scene) <= 1) {
                    others.addAll(wearers(near, costume));
                }
            }
            others.remove(actor);
            int least = leastAlteration(costume, actor);
            if (others.isEmpty() && !away(costume, s.today) && s.costumes.get(costume).dirt < s.settings[3]
                    && least != NONE && (best == NONE || least <= leastAlteration(best, actor))) {
                best = costume;
            }
        }
        return best;
    }

    int freeFrom(int costume, int days) {
        if (noCostume(costume) || out(days, 1, 60)) {
            return INVALID;
        }
        int first = s.today;
        int free = 0;
        for (int day = s.today; free < days; day++) {
            free++;
            if (away(costume, day)) {
                free = 0;
                first = day + 1;
            }
        }
        return first;
    }

    int washable(int program, int color) {
        if (out(program, 0, 3) || out(color, 0, 1)) {
            return INVALID;
        }
        int set = 0;
        for (int costume = 0; costume < s.costumes.size(); costume++) {
            Costume c = s.costumes.get(costume);
            if (c.dirt > 0 && !away(costume, s.today) && canWash(program, c) && (program == 3 || c.color == color)) {
                set += 1 << costume;
            }
        }
        return set;
    }
}
