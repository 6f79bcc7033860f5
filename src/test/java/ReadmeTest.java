import java.io.ByteArrayOutputStream;
import java.io.PrintStream;
import java.nio.file.Files;
import java.nio.file.Path;
import java.util.ArrayList;
import java.util.List;

/** README.md keeps its word: its example is Example.java, which answers what stands behind each call; its texts are ones. */
public final class ReadmeTest {
    public static void main(String[] args) throws Exception {
        String readme = Files.readString(Path.of("README.md"));
        exampleStandsThere(readme);
        exampleAnswersSo(readme);
        callsAreAllTold(readme);
        rulesAreOnes(readme);
        houseIsOne();
        Due.rest("ReadmeTest");
    }

    private static void exampleStandsThere(String readme) throws Exception {
        String source = Files.readString(Path.of("src/test/java/Example.java"));
        String code = source.substring(source.indexOf("public final class"));
        Due.is("the example of README.md is Example.java", readme.contains("```java\n" + code + "```"), true);
    }

    private static void exampleAnswersSo(String readme) {
        List<String> due = new ArrayList<>();
        for (String line : readme.split("\n")) {
            if (line.contains("System.out.println(")) {
                due.add(line.substring(line.indexOf("// ") + 3).split("[ :]")[0]);
            }
        }
        PrintStream screen = System.out;
        ByteArrayOutputStream printed = new ByteArrayOutputStream();
        System.setOut(new PrintStream(printed));
        Example.main(new String[0]);
        System.out.flush();
        System.setOut(screen);
        String got = String.join(" ", printed.toString().split("\\s+"));
        Due.same("the example", got, String.join(" ", due));
        Due.is("calls in the example", due.size(), 17);
    }

    private static void callsAreAllTold(String readme) {
        for (java.lang.reflect.Method method : ThreeSizes.class.getDeclaredMethods()) {
            if (java.lang.reflect.Modifier.isPublic(method.getModifiers())) {
                Due.is("README.md tells of " + method.getName(), readme.contains("`" + method.getName() + "`"), true);
            }
        }
    }

    private static void rulesAreOnes(String readme) {
        StringBuilder rule = new StringBuilder();
        for (String line : readme.split("\n")) {
            if (line.startsWith("    send ")) {
                rule.append(line).append('\n');
            }
        }
        ThreeSizes sizes = new ThreeSizes();
        Due.is("the rule of README.md", Due.rule(sizes, 0, rule.toString()), 3);
    }

    /** Each kind of statement once, as README.md lays it out. */
    private static void houseIsOne() {
        ThreeSizes sizes = new ThreeSizes();
        Due.is("a house as README.md tells it", Due.house(sizes, "last a price 1 runs 2 3 4;"
                + "sort b off 1 2 3 4 5 wear 6 grow 7 leave 8;keeps 1 2 3 4 5;fare 1; wipe 2; fee 3;stock a 30 4;"
                + "ask c 1 2 3 4 5;"), 8);
    }
}
