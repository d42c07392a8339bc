import java.lang.reflect.Constructor;
import java.lang.reflect.Field;
import java.lang.reflect.Method;
import java.lang.reflect.Modifier;
import java.util.Arrays;
import java.util.List;
import java.util.Set;
import java.util.TreeSet;

/** The face of the document: what is public, and that nothing else can be seen. */
public final class FaceTest {
    private static final List<String> METHODS = List.of("addCostume 5", "setColor 2", "addActor 3", "set 2",
            "alter 3", "unpick 1", "append 1", "clearText 0", "load 0", "wear 3", "perform 0", "pass 1",
            "hire 4", "endHire 1", "wash 2", "undo 0", "count 1", "costume 2", "alteration 3", "actor 2",
            "hired 2", "problems 1", "misfit 2", "leastAlteration 2", "costumeFor 2", "freeFrom 2", "washable 2");

    public static void main(String[] args) {
        Due.is("INVALID_ARGUMENT", CostumeStock.INVALID_ARGUMENT, -2001);
        Due.is("ILLEGAL_STATE", CostumeStock.ILLEGAL_STATE, -2002);
        Due.is("CAPACITY_EXCEEDED", CostumeStock.CAPACITY_EXCEEDED, -2003);
        Due.is("NONE", CostumeStock.NONE, -2009);
        int modifiers = CostumeStock.class.getModifiers();
        Due.holds("the class is public and final", Modifier.isPublic(modifiers) && Modifier.isFinal(modifiers));
        checkMethods();
        checkFields();
        checkConstructors();
        Due.finish("FaceTest");
    }

    private static void checkMethods() {
        Set<String> seen = new TreeSet<>();
        for (Method method : CostumeStock.class.getDeclaredMethods()) {
            if (Modifier.isPrivate(method.getModifiers())) {
                Due.holds(method + " has a name of its own", METHODS.stream()
                        .noneMatch(face -> face.startsWith(method.getName() + " ")));
                continue;
            }
            seen.add(method.getName() + " " + method.getParameterCount());
            Due.holds(method + " is public, not static, and has ints alone",
                    Modifier.isPublic(method.getModifiers()) && !Modifier.isStatic(method.getModifiers())
                    && method.getReturnType() == int.class
                    && Arrays.stream(method.getParameterTypes()).allMatch(type -> type == int.class));
        }
        Due.holds("the methods are those of the document: " + seen, seen.equals(new TreeSet<>(METHODS)));
    }

    private static void checkFields() {
        Set<String> seen = new TreeSet<>();
        for (Field field : CostumeStock.class.getDeclaredFields()) {
            if (!Modifier.isPrivate(field.getModifiers())) {
                seen.add(field.getName());
            }
            if (Modifier.isStatic(field.getModifiers())) {
                Due.holds(field + " is final", Modifier.isFinal(field.getModifiers()));
            }
        }
        Due.holds("the constants are those of the document: " + seen, seen.equals(
                Set.of("INVALID_ARGUMENT", "ILLEGAL_STATE", "CAPACITY_EXCEEDED", "NONE")));
    }

    private static void checkConstructors() {
        Constructor<?>[] all = CostumeStock.class.getDeclaredConstructors();
        Due.is("the number of constructors", all.length, 1);
        Due.holds("the constructor is public and takes nothing",
                Modifier.isPublic(all[0].getModifiers()) && all[0].getParameterCount() == 0);
    }
}
