import java.io.ByteArrayOutputStream;
import java.io.IOException;
import java.io.PrintStream;
import java.nio.charset.StandardCharsets;
import java.nio.file.Files;
import java.nio.file.Path;
import java.util.ArrayList;
import java.util.List;
import java.util.regex.Matcher;
import java.util.regex.Pattern;

/** The examples of README.md stand here line for line, and print what their comments say. */
public final class ReadmeTest {
    private static final Checks check = new Checks();

    public static void main(String[] args) throws IOException {
        List<String> examples = examples(Files.readString(Path.of("README.md"), StandardCharsets.UTF_8));
        String own = Files.readString(Path.of("src/test/java/ReadmeTest.java"), StandardCharsets.UTF_8);
        check.same("examples", 2, examples.size());
        for (String example : examples) {
            check.hold("the example is another one here: " + example, own.contains(example.indent(8)));
        }
        check.hold("the examples print " + printed(), printed().equals(told(examples)));
        check.end("ReadmeTest");
    }

    private static void ropesAndReasons() {
        CaveRelay x = new CaveRelay();   // 4 passages, the stretcher at station 4
        int rope = x.addRope(30);
        int helper = x.addHelper(300);   // may be below for 300 minutes
        x.take(helper, rope);
        x.go(helper, 1);                 // 5 minutes
        x.pass(5);
        System.out.println(x.why(helper, 2));       // 3
        x.rig(helper);                   // 10 minutes
        x.pass(10);
        System.out.println(x.why(helper, 2));       // 0
        System.out.println(x.minutesUp(helper));    // 5
        System.out.println(x.spare(helper));        // 280
    }

    private static void ordersFromAText() {
        CaveRelay x = new CaveRelay();
        x.begin(1);                      // a crawl of 5 minutes, the stretcher at station 1
        for (int i = 0; i < 3; i++) {
            x.addHelper(100);
        }
        for (char c : "g01;g11;g21;p5;c012;p15;".toCharArray()) {
            x.append(c);
        }
        System.out.println(x.carryOut());           // 6
        System.out.println(x.value(4));             // 0
        System.out.println(x.meanTiredness());      // 35.0
        System.out.println(x.undo());               // 3
        System.out.println(x.value(4));             // 1
        x.append('x');
        System.out.println(x.carryOut());           // -34
    }

    private static List<String> examples(String readme) {
        List<String> found = new ArrayList<>();
        Matcher m = Pattern.compile("```java\n(.*?)```", Pattern.DOTALL).matcher(readme);
        while (m.find()) {
            found.add(m.group(1));
        }
        return found;
    }

    private static List<String> told(List<String> examples) {
        List<String> told = new ArrayList<>();
        Matcher m = Pattern.compile("println\\(.*\\); +// (.*)").matcher(String.join("", examples));
        while (m.find()) {
            told.add(m.group(1));
        }
        return told;
    }

    private static List<String> printed() {
        PrintStream before = System.out;
        ByteArrayOutputStream bytes = new ByteArrayOutputStream();
        System.setOut(new PrintStream(bytes, true, StandardCharsets.UTF_8));
        ropesAndReasons();
        ordersFromAText();
        System.setOut(before);
        return bytes.toString(StandardCharsets.UTF_8).lines().toList();
    }
}
