import java.lang.reflect.Constructor;
import java.lang.reflect.Field;
import java.lang.reflect.Method;
import java.lang.reflect.Modifier;
import java.nio.file.Files;
import java.nio.file.Path;
import java.util.Arrays;
import java.util.HashSet;
import java.util.List;
import java.util.Set;
import java.util.TreeSet;
import java.util.stream.Collectors;

/** The public face, and what rule 1 of LANGUAGE.md says of it. */
public final class FaceTests {
    private static final String BOUNDS = "IndexOutOfBoundsException";
    private static final String ARGUMENT = "IllegalArgumentException";
    private static final String STATE = "IllegalStateException";

    private static final List<String> FACE = List.of(
            "int addBatch(int,int) " + ARGUMENT + " " + STATE,
            "int seal(int,int,int) " + BOUNDS + " " + ARGUMENT + " " + STATE,
            "int move(int,int) " + BOUNDS + " " + STATE,
            "int setWarm(int,int) " + BOUNDS + " " + ARGUMENT,
            "int setShipping(int,int) " + ARGUMENT,
            "int recall(int) " + BOUNDS + " " + STATE,
            "int pass(int) " + ARGUMENT,
            "int day() ",
            "int batches() ",
            "int tins() ",
            "int inCellar() ",
            "int shipped() ",
            "int lost() ",
            "int swelled() ",
            "int standOn(int) " + BOUNDS,
            "int warmOf(int) " + BOUNDS,
            "int batchOf(int) " + BOUNDS,
            "int shelfOf(int) " + BOUNDS,
            "int vacuumOf(int) " + BOUNDS,
            "boolean isShipped(int) " + BOUNDS,
            "boolean isLost(int) " + BOUNDS,
            "int swelledOf(int) " + BOUNDS,
            "int leftOf(int) " + BOUNDS,
            "boolean isRecalled(int) " + BOUNDS,
            "int first(int) " + ARGUMENT,
            "int placeBy(int,int) " + BOUNDS + " " + ARGUMENT,
            "int daysOf(int) " + BOUNDS,
            "int daysUntilRecalled(int) " + BOUNDS,
            "int lostWith(int,int) " + ARGUMENT,
            "int bestOrder() ",
            "int shippingWanted() ",
            "int bestShelf(int) " + BOUNDS,
            "double meanVacuum() ",
            "long digest() ");

    private static final Check check = new Check();

    public static void main(String[] args) throws Exception {
        check.part("face");
        check.same("public", Modifier.isPublic(TinCellar.class.getModifiers()), true);
        check.same("final", Modifier.isFinal(TinCellar.class.getModifiers()), true);
        methods();
        constructors();
        fields();
        classesInside();
        source();
        check.end();
    }

    private static void methods() {
        Set<String> open = new TreeSet<>();
        Set<String> openNames = new HashSet<>();
        for (Method m : TinCellar.class.getDeclaredMethods()) {
            if (!Modifier.isPrivate(m.getModifiers())) {
                open.add(signature(m));
                openNames.add(m.getName());
                check.same(m + " is public and not static",
                        Modifier.isPublic(m.getModifiers()) && !Modifier.isStatic(m.getModifiers()), true);
            }
        }
        check.same("methods", open, new TreeSet<>(FACE));
        for (Method m : TinCellar.class.getDeclaredMethods()) {
            if (Modifier.isPrivate(m.getModifiers())) {
                check.same("private " + m.getName() + " bears a public name", openNames.contains(m.getName()), false);
            }
        }
    }

    private static String signature(Method m) {
        return m.getReturnType().getSimpleName() + " " + m.getName() + "(" + names(m.getParameterTypes(), ",") + ") "
                + names(m.getExceptionTypes(), " ");
    }

    private static String names(Class<?>[] types, String between) {
        return Arrays.stream(types).map(Class::getSimpleName).collect(Collectors.joining(between));
    }

    private static void constructors() {
        Constructor<?>[] all = TinCellar.class.getDeclaredConstructors();
        check.same("constructors", all.length, 1);
        check.same("public constructor", Modifier.isPublic(all[0].getModifiers()), true);
        check.same("its parameters", all[0].getParameterCount(), 0);
    }

    private static void fields() {
        for (Field f : TinCellar.class.getDeclaredFields()) {
            check.same(f + " is private", Modifier.isPrivate(f.getModifiers()), true);
            if (Modifier.isStatic(f.getModifiers())) {
                check.same(f + " is final", Modifier.isFinal(f.getModifiers()), true);
            }
        }
    }

    private static void classesInside() {
        for (Class<?> c : TinCellar.class.getDeclaredClasses()) {
            int m = c.getModifiers();
            check.same(c + " is closed and static",
                    !Modifier.isPublic(m) && !Modifier.isProtected(m) && Modifier.isStatic(m), true);
        }
    }

    /** What rules 4, 6, 10 and 13 rule out, as far as a word in the source tells it. */
    private static void source() throws Exception {
        String text = Files.readString(Path.of("src/main/java/TinCellar.java"));
        for (String word : List.of("package ", "import ", "catch", "finally", "synchronized", "assert", "->", "::",
                "System.", "Random", "Exact(", "instanceof")) {
            check.same("the source holds '" + word + "'", text.contains(word), false);
        }
        check.same("the source holds a sign beyond 126", text.chars().anyMatch(c -> c > 126), false);
    }
}
