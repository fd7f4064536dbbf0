import java.io.IOException;
import java.lang.reflect.Field;
import java.lang.reflect.Member;
import java.lang.reflect.Method;
import java.lang.reflect.Modifier;
import java.nio.charset.StandardCharsets;
import java.nio.file.Files;
import java.nio.file.Path;
import java.util.HashSet;
import java.util.Set;
import java.util.regex.Matcher;
import java.util.regex.Pattern;

/** The document's face, and those rules of LANGUAGE.md that can be seen without reading like a person. */
public final class LanguageTest {
    private static final Checks CHECKS = new Checks();
    private static final Path SOURCE = Path.of("src/main/java/PhoneRater.java");

    private static final String INDEX = " IndexOutOfBoundsException";
    private static final String ARGUMENT = " IllegalArgumentException";
    private static final String STATE = " IllegalStateException";

    private static final String[] FACE = {
        "int addTariff(int,int,int,int,int)" + ARGUMENT + STATE, "int setZone(int,int,int,int)" + INDEX + ARGUMENT,
        "boolean setPeak(int,int)" + ARGUMENT, "int addAccount(int,int,int)" + ARGUMENT + STATE,
        "int addLine(int,int)" + INDEX + STATE, "int setTariff(int,int)" + INDEX, "int setBundle(int,int)" + INDEX + ARGUMENT,
        "int addCall(int,int,int,int)" + INDEX + ARGUMENT + STATE, "int correct(int,int)" + INDEX + ARGUMENT,
        "int callCount()", "int callAt(int)" + INDEX, "boolean isPeak(int)" + INDEX, "int told(int,int)" + INDEX,
        "int dearest()", "int lineSum(int)" + INDEX, "int daySum(int)" + INDEX, "int sum(int)" + INDEX,
        "int total(int)" + INDEX, "int left(int)" + INDEX, "int emptied(int)" + INDEX, "int dayFees(int,int)" + INDEX,
        "int totalWith(int,int)" + INDEX, "int bestTariff(int)" + INDEX, "double freeShare()", "long digest()",
    };

    /** What no line of code may hold, with the rule that says so. */
    private static final String[][] RULED_OUT = {
        {"rule 2, a lambda", "->"}, {"rule 2, a method reference", "::"}, {"rule 4, a library", "^import (?!java\\.util\\.ArrayList;)"},
        {"rule 4, what throws by itself", "Exact\\b"}, {"rule 6, a catch", "\\bcatch\\b"},
        {"rule 6", "\\b(finally|synchronized|assert)\\b"}, {"rule 10, texts joined by +", "\"\\s*\\+|\\+\\s*\""},
        {"rule 13, the world outside", "\\b(System|Thread|Runtime|Random)\\b"}, {"rule 4, a sign", "[^\\x01-\\x7f]"},
        {"rule 12, an iterator", "for \\([^;]*:"},
    };

    public static void main(String[] args) throws IOException {
        classesBear();
        methodsAreTheFace();
        fieldsAreHidden();
        linesKeepTheRules();
        methodsAreShort();
        CHECKS.end("LanguageTest");
    }

    private static void classesBear() {
        CHECKS.isTrue("the class is public and final",
                PhoneRater.class.getModifiers() == (Modifier.PUBLIC | Modifier.FINAL));
        CHECKS.isTrue("one public constructor without parameters", PhoneRater.class.getDeclaredConstructors().length == 1
                && PhoneRater.class.getConstructors().length == 1
                && PhoneRater.class.getConstructors()[0].getParameterCount() == 0);
        Class<?>[] inside = PhoneRater.class.getDeclaredClasses();
        CHECKS.isTrue("rule 11, some twelve classes", inside.length < 12);
        for (Class<?> c : inside) {
            CHECKS.isTrue("rule 1, class " + c + " is hidden", isHidden(c.getModifiers()));
            CHECKS.isTrue("rule 2, class " + c + " is static", Modifier.isStatic(c.getModifiers()));
        }
    }

    private static boolean isHidden(int modifiers) {
        return (modifiers & (Modifier.PUBLIC | Modifier.PROTECTED)) == 0;
    }

    private static void methodsAreTheFace() {
        Set<String> want = new HashSet<>(Set.of(FACE));
        Set<String> names = new HashSet<>();
        for (String signature : FACE) {
            names.add(signature.substring(signature.indexOf(' ') + 1, signature.indexOf('(')));
        }
        for (Method m : PhoneRater.class.getDeclaredMethods()) {
            if (Modifier.isPublic(m.getModifiers())) {
                CHECKS.isTrue("rule 1, " + signature(m) + " is of the face", want.remove(signature(m)));
            } else {
                isPrivateWithItsOwnName(m, names);
            }
        }
        CHECKS.isTrue("the face lacks " + want, want.isEmpty());
        for (Class<?> c : PhoneRater.class.getDeclaredClasses()) {
            for (Method m : c.getDeclaredMethods()) {
                CHECKS.isTrue("rule 1, " + m + " has a name of its own", !names.contains(m.getName()));
            }
        }
    }

    private static void isPrivateWithItsOwnName(Method m, Set<String> names) {
        CHECKS.isTrue("rule 1, " + m + " is private", isPrivate(m));
        CHECKS.isTrue("rule 1, " + m + " has a name of its own", !names.contains(m.getName()));
        CHECKS.isTrue("rule 11, " + m + " takes at most seven", m.getParameterCount() <= 7);
    }

    private static String signature(Method m) {
        StringBuilder s = new StringBuilder(m.getReturnType().getName());
        s.append(' ').append(m.getName()).append('(');
        for (Class<?> p : m.getParameterTypes()) {
            s.append(s.charAt(s.length() - 1) == '(' ? "" : ",").append(p.getName());
        }
        s.append(')');
        for (Class<?> thrown : m.getExceptionTypes()) {
            s.append(' ').append(thrown.getSimpleName());
        }
        return s.toString();
    }

    private static boolean isPrivate(Member m) {
        return Modifier.isPrivate(m.getModifiers());
    }

    private static void fieldsAreHidden() {
        for (Field f : PhoneRater.class.getDeclaredFields()) {
            CHECKS.isTrue("rule 1, " + f + " is private", isPrivate(f));
            CHECKS.isTrue("rule 5, " + f + " is no changing static",
                    !Modifier.isStatic(f.getModifiers()) || Modifier.isFinal(f.getModifiers()));
        }
    }

    private static void linesKeepTheRules() throws IOException {
        String[] lines = Files.readString(SOURCE, StandardCharsets.UTF_8).split("\n");
        for (int i = 0; i < lines.length; i++) {
            for (String[] ruled : RULED_OUT) {
                Matcher m = Pattern.compile(ruled[1]).matcher(lines[i]);
                CHECKS.isTrue(ruled[0] + ", line " + (i + 1) + ": " + lines[i].trim(), !m.find());
            }
        }
    }

    private static void methodsAreShort() throws IOException {
        String[] lines = Files.readString(SOURCE, StandardCharsets.UTF_8).split("\n");
        int begun = 0;
        for (int i = 0; i < lines.length; i++) {
            begun = lines[i].isBlank() ? i : begun;
            boolean inside = lines[i].startsWith("        ") || lines[i].startsWith("    }");
            CHECKS.isTrue("rule 11, a method with line " + (i + 1) + " is long", !inside || i - begun < 60);
        }
    }
}
