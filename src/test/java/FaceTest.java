import java.lang.reflect.Constructor;
import java.lang.reflect.Field;
import java.lang.reflect.Method;
import java.lang.reflect.Modifier;
import java.util.Set;
import java.util.TreeSet;

/** The public face: what the document lists, and nothing else that is not private. */
public final class FaceTest {
    private static final Set<String> METHODS = Set.of(
        "rule 2", "spot 3", "tower 3", "creep 3", "send 3", "clear 1", "buy 4", "idle 0", "play 1", "during 2",
        "best 1", "bought 2", "take 0", "lost 0", "least 3", "hurts 3");
    private static final Set<String> CONSTANTS = Set.of("NONE", "UNKNOWN", "OUTSIDE", "NOT", "FULL");

    public static void main(String[] args) {
        Class<?> face = TowersAndWaves.class;
        int modifiers = face.getModifiers();
        Check.that("the class is public and final", Modifier.isPublic(modifiers) && Modifier.isFinal(modifiers));
        methods(face);
        fields(face);
        Constructor<?>[] constructors = face.getDeclaredConstructors();
        Check.due("constructors", constructors.length, 1);
        Check.that("the constructor is public, without parameters",
            Modifier.isPublic(constructors[0].getModifiers()) && constructors[0].getParameterCount() == 0);
        for (Class<?> inside : face.getDeclaredClasses()) {
            Check.that(inside + " is static and not public",
                Modifier.isStatic(inside.getModifiers()) && !Modifier.isPublic(inside.getModifiers()));
            for (Method m : inside.getDeclaredMethods()) {
                Check.that(m + " bears no name of the face", !isName(m.getName()));
            }
        }
        Check.end();
    }

    private static void methods(Class<?> face) {
        Set<String> seen = new TreeSet<>();
        for (Method m : face.getDeclaredMethods()) {
            if (Modifier.isPrivate(m.getModifiers())) {
                Check.that(m + " bears no name of the face", !isName(m.getName()));
                continue;
            }
            Check.that(m + " is public", Modifier.isPublic(m.getModifiers()));
            Check.that(m + " answers an int", m.getReturnType() == int.class);
            for (Class<?> type : m.getParameterTypes()) {
                Check.that(m + " takes ints", type == int.class);
            }
            seen.add(m.getName() + " " + m.getParameterCount());
        }
        Check.that("the methods are those of the document: " + seen, seen.equals(METHODS));
    }

    private static void fields(Class<?> face) {
        Set<String> seen = new TreeSet<>();
        for (Field f : face.getDeclaredFields()) {
            if (Modifier.isStatic(f.getModifiers())) {
                Check.that(f + " is final", Modifier.isFinal(f.getModifiers()));
            }
            if (!Modifier.isPrivate(f.getModifiers())) {
                Check.that(f + " is public static int",
                    Modifier.isPublic(f.getModifiers()) && Modifier.isStatic(f.getModifiers()) && f.getType() == int.class);
                seen.add(f.getName());
            }
        }
        Check.that("the constants are those of the document: " + seen, seen.equals(CONSTANTS));
        Check.due("NONE", TowersAndWaves.NONE, -1);
        Check.due("UNKNOWN", TowersAndWaves.UNKNOWN, -1001);
        Check.due("OUTSIDE", TowersAndWaves.OUTSIDE, -1002);
        Check.due("NOT", TowersAndWaves.NOT, -1003);
        Check.due("FULL", TowersAndWaves.FULL, -1004);
    }

    private static boolean isName(String name) {
        for (String method : METHODS) {
            if (method.startsWith(name + " ")) {
                return true;
            }
        }
        return false;
    }
}
