import java.io.IOException;
import java.lang.reflect.Constructor;
import java.lang.reflect.Field;
import java.lang.reflect.Method;
import java.lang.reflect.Modifier;
import java.nio.charset.StandardCharsets;
import java.nio.file.Files;
import java.nio.file.Path;
import java.util.Set;
import java.util.TreeSet;
import java.util.regex.Matcher;
import java.util.regex.Pattern;

/** The public face, and what of ../shared/LANGUAGE.md the source and the class files show. */
public final class FaceTest {
    private static final Checks check = new Checks();

    private static final String OUT = "IndexOutOfBoundsException";
    private static final String BAD = "IllegalArgumentException";
    private static final String NOT_NOW = "IllegalStateException";

    private static final String[] FACE = {
        "int begin(int) " + BAD,
        "int setPassage(int,int,int) " + OUT + "," + BAD + "," + NOT_NOW,
        "int addRope(int) " + BAD + "," + NOT_NOW,
        "int addHelper(int) " + BAD + "," + NOT_NOW,
        "int setSilence(int,int) " + BAD,
        "int go(int,int) " + OUT + "," + NOT_NOW,
        "int take(int,int) " + OUT + "," + NOT_NOW,
        "int lay(int) " + OUT + "," + NOT_NOW,
        "int rig(int) " + OUT + "," + NOT_NOW,
        "int takeOff(int) " + OUT + "," + NOT_NOW,
        "int carry(int) " + BAD + "," + NOT_NOW,
        "int send(int) " + OUT + "," + NOT_NOW,
        "int pass(int) " + BAD + "," + NOT_NOW,
        "int passage(int,int) " + OUT + "," + BAD,
        "int rope(int,int) " + OUT + "," + BAD,
        "int helper(int,int) " + OUT + "," + BAD,
        "int value(int) " + BAD,
        "int message(int,int) " + OUT + "," + BAD,
        "int carried(int,int) " + OUT + "," + BAD,
        "int why(int,int) " + OUT,
        "int minutesUp(int) " + OUT,
        "int spare(int) " + OUT,
        "int bestRope(int) " + OUT,
        "int carryMinutes() ",
        "int team() ",
        "int reach(int) " + OUT,
        "double meanTiredness() ",
        "int append(int) " + BAD + "," + NOT_NOW,
        "int clearText() ",
        "int carryOut() ",
        "int undo() " + NOT_NOW,
        "long digest() "};

    public static void main(String[] args) throws IOException {
        publicMethods();
        noOtherMembers();
        classesInside();
        Path source = Path.of("src/main/java/CaveRelay.java");
        sourceKeepsToTheRules(Files.readString(source, StandardCharsets.US_ASCII));
        check.end("FaceTest");
    }

    private static String told(Method m) {
        StringBuilder text = new StringBuilder(m.getReturnType().getSimpleName() + " " + m.getName() + "(");
        for (int i = 0; i < m.getParameterCount(); i++) {
            text.append(i > 0 ? "," : "").append(m.getParameterTypes()[i].getSimpleName());
        }
        text.append(") ");
        for (int i = 0; i < m.getExceptionTypes().length; i++) {
            text.append(i > 0 ? "," : "").append(m.getExceptionTypes()[i].getSimpleName());
        }
        return text.toString();
    }

    private static void publicMethods() {
        Set<String> got = new TreeSet<>();
        for (Method m : CaveRelay.class.getDeclaredMethods()) {
            if (Modifier.isPublic(m.getModifiers()) && !Modifier.isStatic(m.getModifiers())) {
                got.add(told(m));
            }
        }
        check.same("face", new TreeSet<>(Set.of(FACE)).equals(got) ? 1 : 0, 1);
        check.same("face", 32, got.size());
        check.hold("public and final", CaveRelay.class.getModifiers() == (Modifier.PUBLIC | Modifier.FINAL));
    }

    private static void noOtherMembers() {
        Set<String> names = new TreeSet<>();
        for (Method m : CaveRelay.class.getDeclaredMethods()) {
            boolean isPublic = Modifier.isPublic(m.getModifiers());
            check.hold("private: " + m, isPublic || Modifier.isPrivate(m.getModifiers()));
            check.hold("one method of the name: " + m, names.add(m.getName()));
        }
        for (Field f : CaveRelay.class.getDeclaredFields()) {
            boolean isFace = f.getName().equals("NONE") && Modifier.isPublic(f.getModifiers());
            check.hold("private: " + f, isFace || Modifier.isPrivate(f.getModifiers()));
            staticIsFinal(f);
        }
        Constructor<?>[] constructors = CaveRelay.class.getDeclaredConstructors();
        check.same("constructors", 1, constructors.length);
        check.hold("public constructor without parameters",
                Modifier.isPublic(constructors[0].getModifiers()) && constructors[0].getParameterCount() == 0);
    }

    private static void staticIsFinal(Field f) {
        boolean isStatic = Modifier.isStatic(f.getModifiers());
        check.hold("final: " + f, !isStatic || Modifier.isFinal(f.getModifiers()));
    }

    private static void classesInside() {
        Class<?>[] inside = CaveRelay.class.getDeclaredClasses();
        check.hold("some twelve classes at most", inside.length < 12);
        for (Class<?> c : inside) {
            check.hold("static: " + c, Modifier.isStatic(c.getModifiers()));
            check.hold("not public: " + c, (c.getModifiers() & (Modifier.PUBLIC | Modifier.PROTECTED)) == 0);
            int fields = 0;
            for (Field f : c.getDeclaredFields()) {
                staticIsFinal(f);
                fields += Modifier.isStatic(f.getModifiers()) ? 0 : 1;
            }
            check.hold("some twenty fields at most: " + c, fields <= 20);
        }
    }

    private static void sourceKeepsToTheRules(String source) {
        String[] forbidden = {"->", "::", "\\bimport\\b", "\\bpackage\\b", "Exact\\b", "\\btry\\b", "\\bcatch\\b",
            "\\bfinally\\b", "\\bsynchronized\\b", "\\bassert\\b", "\\binstanceof\\b", "\\bSystem\\b", "\\bThread\\b",
            "\\bhashCode\\b", "\\bequals\\b", "\\btoString\\b", "static \\{", "\\bthrows Exception\\b", "\\bwhile\\b",
            "[^\\x00-\\x7f]", "\t"};
        for (String word : forbidden) {
            Matcher m = Pattern.compile(word).matcher(source);
            check.hold("the source has " + word, !m.find());
        }
        Matcher thrown = Pattern.compile("\\bthrow\\b(?! new (IndexOutOfBounds|IllegalArgument|IllegalState)Exception"
                + "\\(\"[a-z ]+\"\\);)").matcher(source);
        check.hold("only the document's exceptions are thrown, with a written text", !thrown.find());
        shortMethods(source);
    }

    /** A method begins with its line indented by 4 or 8 and ends with a brace of the same indentation. */
    private static void shortMethods(String source) {
        String[] lines = source.split("\n");
        int methods = 0;
        for (int i = 0; i < lines.length; i++) {
            Matcher m = Pattern.compile("( {4}| {8})\\S[^=;]*\\(.*").matcher(lines[i]);
            boolean begins = m.matches() && !lines[i].contains("//") && !lines[i].contains("*");
            if (!begins) {
                continue;
            }
            int end = i;
            while (end < lines.length - 1 && !lines[end].equals(m.group(1) + "}")) {
                end++;
            }
            if (lines[i].endsWith("{") && !lines[i].contains(" if (") && !lines[i].contains(" for (")) {
                methods++;
                check.hold("a short method: " + lines[i].trim(), end - i <= 60);
                check.hold("seven parameters at most: " + lines[i].trim(), lines[i].split(",").length <= 7);
            }
        }
        check.hold("methods were found", methods > 100);
    }
}
