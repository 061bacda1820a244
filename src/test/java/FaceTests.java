import java.lang.reflect.Constructor;
import java.lang.reflect.Field;
import java.lang.reflect.Method;
import java.lang.reflect.Modifier;
import java.util.ArrayList;
import java.util.List;
import java.util.Set;
import java.util.TreeSet;

/** The face of the class, as the document's section 'The public face' writes it, nothing beside it, and its sizes. */
final class FaceTests {
    private static final String I = " IndexOutOfBoundsException";
    private static final String A = " IllegalArgumentException";
    private static final String S = " IllegalStateException";

    private FaceTests() {
    }

    static void run() {
        Check.that("the class is public and final",
                Modifier.isPublic(CardPort.class.getModifiers()) && Modifier.isFinal(CardPort.class.getModifiers()));
        Check.same("methods", methods(), dueMethods());
        Check.same("constants", constants(), "ANSWERED,LOST,NONE,OPEN,PRESSED,WON");
        Constructor<?>[] made = CardPort.class.getDeclaredConstructors();
        Check.that("one public constructor without parameters",
                made.length == 1 && made[0].getParameterCount() == 0 && Modifier.isPublic(made[0].getModifiers()));
        Document.quote("Terms", "The constants: `NONE = -1`: None.");
        Document.quote("Terms", "`OPEN = 0, ANSWERED = 1, PRESSED = 2, WON = 3, LOST = 4`: What chargebacks are.");
        Check.same("NONE", CardPort.NONE, -1);
        Check.same("OPEN", CardPort.OPEN, 0);
        Check.same("ANSWERED", CardPort.ANSWERED, 1);
        Check.same("PRESSED", CardPort.PRESSED, 2);
        Check.same("WON", CardPort.WON, 3);
        Check.same("LOST", CardPort.LOST, 4);
        noPrivateMethodIsNamedAsAPublicOne();
        classesKeepTheirSizes();
    }

    private static String methods() {
        Set<String> texts = new TreeSet<>();
        for (Method m : CardPort.class.getDeclaredMethods()) {
            if (Modifier.isPrivate(m.getModifiers())) {
                continue;
            }
            StringBuilder text = new StringBuilder(Modifier.toString(m.getModifiers()));
            text.append(' ').append(m.getReturnType()).append(' ').append(m.getName());
            for (Class<?> type : m.getParameterTypes()) {
                text.append(' ').append(type);
            }
            for (Class<?> type : m.getExceptionTypes()) {
                text.append(' ').append(type.getSimpleName());
            }
            texts.add(text.toString());
        }
        return String.join("\n", texts);
    }

    private static String dueMethods() {
        Set<String> texts = new TreeSet<>();
        texts.add("public int shop int int" + I);
        texts.add("public int kind int int int" + I + A);
        texts.add("public int authorise int int int" + I + A + S);
        texts.add("public int capture int int" + I + A + S);
        texts.add("public int cancel int" + I + S);
        texts.add("public int refund int int" + I + A + S);
        texts.add("public int dispute int int" + I + A + S);
        texts.add("public int answer int" + I + S);
        texts.add("public int press int" + I + S);
        texts.add("public int rule int boolean" + I + S);
        texts.add("public int pass int" + A);
        texts.add("public int paymentOf int int" + I + A);
        texts.add("public int captureOf int int" + I + A);
        texts.add("public int chargebackOf int int" + I + A);
        texts.add("public int limit int" + I);
        texts.add("public long net int boolean" + I);
        texts.add("public long netAnew int" + I);
        texts.add("public int due int" + I);
        texts.add("public int count int" + A);
        return String.join("\n", texts);
    }

    private static String constants() {
        Set<String> names = new TreeSet<>();
        for (Field f : CardPort.class.getDeclaredFields()) {
            if (Modifier.isPrivate(f.getModifiers())) {
                continue;
            }
            Check.same("the modifiers of " + f.getName(), Modifier.toString(f.getModifiers()), "public static final");
            Check.same("the type of " + f.getName(), f.getType(), int.class);
            names.add(f.getName());
        }
        return String.join(",", names);
    }

    private static void noPrivateMethodIsNamedAsAPublicOne() {
        Set<String> names = new TreeSet<>();
        for (Method m : CardPort.class.getMethods()) {
            names.add(m.getName());
        }
        for (Class<?> each : CardPort.class.getDeclaredClasses()) {
            Check.that(each.getName() + " is neither public nor protected",
                    !Modifier.isPublic(each.getModifiers()) && !Modifier.isProtected(each.getModifiers()));
            for (Method m : each.getDeclaredMethods()) {
                Check.that(m + " has a name of its own", !names.contains(m.getName()));
            }
        }
        for (Method m : CardPort.class.getDeclaredMethods()) {
            Check.that(m + " has a name of its own", !Modifier.isPrivate(m.getModifiers()) || !names.contains(m.getName()));
        }
    }

    /** LANGUAGE.md, rules 2, 5 and 11. */
    private static void classesKeepTheirSizes() {
        List<Class<?>> classes = new ArrayList<>(List.of(CardPort.class.getDeclaredClasses()));
        Check.that("rule 11: at most some twelve classes", classes.size() < 12);
        for (Class<?> each : classes) {
            Check.that("rule 2: " + each + " is static", Modifier.isStatic(each.getModifiers()));
        }
        classes.add(CardPort.class);
        for (Class<?> each : classes) {
            int fields = 0;
            for (Field f : each.getDeclaredFields()) {
                boolean isStatic = Modifier.isStatic(f.getModifiers());
                fields += isStatic ? 0 : 1;
                Check.that("rule 5: " + f + " is final", !isStatic || Modifier.isFinal(f.getModifiers()));
            }
            Check.that("rule 11: at most some twenty fields in " + each, fields <= 20);
            for (Method m : each.getDeclaredMethods()) {
                Check.that("rule 11: at most seven parameters in " + m, m.getParameterCount() <= 7);
            }
        }
    }
}
