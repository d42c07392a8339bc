import java.io.IOException;
import java.lang.reflect.InvocationTargetException;
import java.lang.reflect.Method;
import java.nio.file.Files;
import java.nio.file.Path;
import java.util.ArrayList;
import java.util.List;
import java.util.Locale;
import java.util.Set;

/**
 * The boundaries of the document, sentence by sentence. Each sentence with one has a test of its own, a method with the
 * mark Sentence; it is checked that the document has these words, and that no sentence of it is without a test.
 */
public final class BoundariesTest {
    private static final List<Class<?>> TESTS = List.of(CostumesBoundaries.class, ActorsBoundaries.class,
            TextBoundaries.class, ScenesBoundaries.class, HiresBoundaries.class, WashingBoundaries.class,
            LookingBoundaries.class);
    private static final List<String> SECTIONS = List.of("Description", "Costumes", "Actors", "Scenes",
            "Days and hires", "Performances", "Washing", "Text", "Undo", "Errors");
    /** Sentences without a boundary: others say the same with theirs, or they say nothing that can be tried. */
    private static final Set<String> WITHOUT = Set.of("All lengths are whole centimeters.",
            "The problems are, by their kinds:", "The constants:",
            "The constructor and the methods follow, a promise each: the signature, then what it does.",
            "Reads the text.", "Hires a costume out.", "Ends a hire early.", "Washes a load.", "Returns a number.",
            "Returns the number;", "Returns a property of a costume.", "Returns the property;",
            "Returns a part of an alteration.", "Returns the part;",
            "Returns a measure of an actor, or what the actor wears.", "Returns a part of a hire.",
            "Counts the problems of a kind.", "Returns the misfit of a costume for an actor.",
            "Returns the least alteration of a costume for an actor.",
            "Returns the costumes of which a load could consist.");

    private static Document document;
    private static final List<Sentence> TRIED = new ArrayList<>();

    public static void main(String[] args) throws IOException, ReflectiveOperationException {
        Path path = Path.of("../shared/DOC.md");
        document = Files.exists(path) ? new Document(path) : null;
        for (Class<?> tests : TESTS) {
            for (Method method : tests.getDeclaredMethods()) {
                if (method.isAnnotationPresent(Sentence.class)) {
                    run(method);
                }
            }
        }
        if (document == null) {
            System.out.println("BoundariesTest: there is no " + path + ", so its words were not compared");
        } else {
            checkThatAllAreTried();
        }
        Due.finish("BoundariesTest");
    }

    private static void run(Method method) throws IllegalAccessException, InvocationTargetException {
        Sentence sentence = method.getAnnotation(Sentence.class);
        String name = method.getName();
        Due.holds(name + " has words of the document",
                document == null || document.says(sentence.of(), sentence.says()));
        String section = sentence.of().toLowerCase(Locale.ROOT);
        // "promise 2" has to begin promise2Chest, and a word of "days and hires" hiresAtMost24.
        String beginning = section.startsWith("promise") ? section.replace(" ", "") : section.replace(" ", "|");
        Due.holds(name + " is named after " + section, name.matches("(" + beginning + ")[A-Z].*"));
        method.invoke(null, new Case(name));
        TRIED.add(sentence);
    }

    private static void checkThatAllAreTried() {
        List<String> sections = new ArrayList<>(SECTIONS);
        for (int promise = 1; promise <= 28; promise++) {
            sections.add("Promise " + promise);
        }
        int sentences = 0;
        for (String section : sections) {
            for (String sentence : document.sentences(section)) {
                sentences++;
                Due.holds(section + " has a test of: " + sentence, WITHOUT.contains(sentence) || TRIED.stream()
                        .anyMatch(tried -> tried.of().equals(section) && overlap(tried.says(), sentence)));
            }
        }
        Due.holds("sentences are found: " + sentences, sentences > 200);
    }

    private static boolean overlap(String words, String sentence) {
        return sentence.contains(words) || words.contains(sentence);
    }
}
