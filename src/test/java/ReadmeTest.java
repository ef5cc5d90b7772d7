import java.io.IOException;
import java.lang.reflect.Method;
import java.lang.reflect.Modifier;
import java.nio.file.Files;
import java.nio.file.Path;
import java.util.ArrayList;
import java.util.List;

/** README.md keeps to the class: its example answers what it says, and its table has every call. */
public final class ReadmeTest {
    private static final Path README = Path.of("README.md");
    private static final Path TEST = Path.of("src/test/java/ReadmeTest.java");

    private static int wrong;

    private static void due(String what, Object got, Object want) {
        if (!want.equals(got)) {
            wrong++;
            System.out.println(what + ": found " + got + ", due is " + want);
        }
    }

    /** The example, line by line as it stands in README.md, with its answers looked at between the lines. */
    private static void runExample() {
        RouterNet net = new RouterNet(8);
        int link = net.lay(0, 1, 3, 200);
        due("lay", link, 0);
        net.announce(1, 64, 2);
        while (net.take(link, 1) != RouterNet.REFUSED) {
            due("router 0 took one of router 1", net.held(0, 1) > 0, true);
        }
        due("route", net.route(0, 64), link);
        due("route", net.route(0, 127), link);
        due("route", net.route(0, 63), RouterNet.NONE);
        due("route", net.route(0, 128), RouterNet.NONE);
        int packet = net.send(0, 70, 50, false);
        due("all of them piece 1", net.piece(1, 2), 50);
        due("life", net.piece(1, 3), 8);
        net.go(1);
        due("MOVING", net.piece(1, 5), RouterNet.MOVING);
        due("now at router 1", net.piece(1, 4), 1);
        net.go(1);
        due("ENDED", net.piece(1, 5), RouterNet.ENDED);
        net.ended(packet, 1);
        due("ended", net.ended(packet, 1), 50);
    }

    private static List<String> codeOf(String text) {
        List<String> code = new ArrayList<>();
        for (String line : text.split("\n")) {
            String bare = line.replaceAll("//.*", "").strip();
            if (!bare.isEmpty()) {
                code.add(bare);
            }
        }
        return code;
    }

    /** Each line of the example stands in this test, in the same order: what is tested is what is shown. */
    private static void checkExampleIsTheSame(String readme, String test) {
        String block = readme.split("```java\n")[1].split("```")[0];
        List<String> shown = codeOf(block);
        List<String> run = codeOf(test);
        int at = run.indexOf("private static void runExample() {");
        for (String line : shown) {
            int found = run.subList(at + 1, run.size()).indexOf(line);
            due("the example's line '" + line + "' is tested", found >= 0, true);
            at += found + 1;
        }
        due("the example has lines", shown.size() > 5, true);
        due("all of them in runExample", at < run.indexOf("private static List<String> codeOf(String text) {"), true);
    }

    private static void checkTable(String readme) {
        for (Method method : RouterNet.class.getDeclaredMethods()) {
            if (Modifier.isPublic(method.getModifiers())) {
                String row = "(?s).*\n\\| `" + method.getName() + "\\((\\w+(, \\w+){" + (method.getParameterCount() - 1)
                    + "})\\)` \\|.*";
                due("a row for " + method, readme.matches(row), true);
            }
        }
        due("a row for the constructor", readme.contains("\n| `new RouterNet(life)` |"), true);
    }

    public static void main(String[] args) throws IOException {
        String readme = Files.readString(README);
        runExample();
        checkExampleIsTheSame(readme, Files.readString(TEST));
        checkTable(readme);
        System.out.println(wrong == 0 ? "the README is as due" : wrong + " findings");
        if (wrong != 0) {
            System.exit(1);
        }
    }
}
