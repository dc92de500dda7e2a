import java.io.IOException;
import java.nio.file.Files;
import java.nio.file.Path;
import java.util.ArrayList;
import java.util.List;
import java.util.stream.Stream;

/**
 * What README.md says: each line of its example is made here, and must answer the number that stands
 * behind it there. It is run from the project's folder, as .ci/run does.
 */
public final class FamilyRulesReadme {
    private static final Path README = Path.of("README.md");
    private static final Path TESTS = Path.of("src", "test", "java");

    private static int wrong = 0;
    private static final List<String> EXAMPLE = new ArrayList<>();
    private static int next = 0;

    private static void tellWrong(String text) {
        wrong++;
        System.out.println("README.md: " + text);
    }

    private static void readExample() throws IOException {
        boolean inside = false;
        for (String line : Files.readAllLines(README)) {
            if (line.startsWith("```")) {
                inside = line.equals("```java");
            } else if (inside) {
                EXAMPLE.add(line);
            }
        }
    }

    private static String nextLine(String code) {
        String line = next < EXAMPLE.size() ? EXAMPLE.get(next) : "";
        next++;
        int comment = line.indexOf("//");
        String told = comment < 0 ? line : line.substring(0, comment);
        if (!told.trim().equals(code)) {
            tellWrong("line " + next + " of the example is \"" + told.trim() + "\", tested is \"" + code + "\"");
        }
        return comment < 0 ? "" : line.substring(comment + 2).trim();
    }

    private static int line(String code, int got) {
        String comment = nextLine(code);
        String told = comment.replaceFirst("[^-0-9].*", "");
        if (!told.equals("" + got)) {
            tellWrong(code + " answered " + got + ", told is \"" + comment + "\"");
        }
        return got;
    }

    private static void example() {
        nextLine("FamilyRules x = new FamilyRules();");
        FamilyRules x = new FamilyRules();
        int sort = line("int sort = x.leaf(2, 1, 0);", x.leaf(2, 1, 0));
        int nat = line("int nat = x.family(sort, 0, 2);", x.family(sort, 0, 2));
        int self = line("int self = x.leaf(1, nat, 0);", x.leaf(1, nat, 0));
        int step = line("int step = x.binder(6, 5, self, self);", x.binder(6, 5, self, self));
        line("int zero = x.constructor(nat + 1, self);", x.constructor(nat + 1, self));
        int bad = line("int bad = x.binder(6, 5, step, self);", x.binder(6, 5, step, self));
        line("int no = x.constructor(nat + 2, bad);", x.constructor(nat + 2, bad));
        line("int next = x.constructor(nat + 2, step);", x.constructor(nat + 2, step));
        line("int again = x.constructor(nat + 2, step);", x.constructor(nat + 2, step));
        int brought = line("int brought = x.brings(nat + 2, 0);", x.brings(nat + 2, 0));
        line("int q = x.part(brought, 1, 1);", x.part(brought, 1, 1));
        line("int nodes = x.size(nat);", x.size(nat));
        int rec = line("int rec = x.type(nat, 1);", x.type(nat, 1));
        line("int name = x.part(rec, 0, 1);", x.part(rec, 0, 1));
        line("int count = x.terms();", x.terms());
        if (next < EXAMPLE.size()) {
            tellWrong("the example has lines that are not tested");
        }
    }

    private static void namesOfTests() throws IOException {
        String readme = Files.readString(README);
        List<Path> tests = new ArrayList<>();
        try (Stream<Path> files = Files.list(TESTS)) {
            files.forEach(tests::add);
        }
        for (Path test : tests) {
            String name = test.getFileName().toString().replace(".java", "");
            if (!readme.contains("- `" + name + "`:")) {
                tellWrong("the test " + name + " is not named");
            }
        }
    }

    public static void main(String[] args) throws IOException {
        readExample();
        example();
        namesOfTests();
        System.out.println(wrong == 0 ? "the readme is as due" : wrong + " things are not as due");
        if (wrong != 0) {
            System.exit(1);
        }
    }
}
