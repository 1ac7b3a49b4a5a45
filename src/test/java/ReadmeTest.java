import java.io.IOException;
import java.nio.file.Files;
import java.nio.file.Path;
import java.util.ArrayList;
import java.util.List;
import java.util.TreeSet;
import java.util.regex.Matcher;
import java.util.regex.Pattern;
import java.util.stream.Stream;
import javax.tools.ToolProvider;

/** README.md is as it is: its examples answer what it says behind "//", and its table names every test there is. */
public final class ReadmeTest {
    private static final Due DUE = new Due("ReadmeTest");
    private static final Pattern BLOCK = Pattern.compile("(?s)```java\n(.*?)```");
    /** A line with one call and the answer that it is said to have. */
    private static final Pattern TOLD = Pattern.compile("(int \\w+ = )?(x\\.\\w+\\(.*\\)); +// (-?\\d+)\\b.*");

    public static void main(String[] args) throws Exception {
        String text = Files.readString(Path.of("README.md"));
        examples(text);
        table(text);
        DUE.is(".ci/run can be run", Files.isExecutable(Path.of(".ci/run")) ? 1 : 0, 1);
        DUE.close();
    }

    /** The blocks become one class: a block that begins by "static" stands in it, each other one is a method's body. */
    private static void examples(String text) throws Exception {
        StringBuilder source = new StringBuilder("public class Example {\n");
        StringBuilder all = new StringBuilder();
        List<String> lines = new ArrayList<>();
        List<Long> due = new ArrayList<>();
        Matcher blocks = BLOCK.matcher(text);
        for (int many = 0; blocks.find(); many++) {
            if (blocks.group(1).startsWith("static")) {
                source.append(blocks.group(1));
                continue;
            }
            source.append("static void example").append(many).append("(java.util.List<Long> answers) {\n");
            for (String line : blocks.group(1).split("\n")) {
                source.append(asked(line, lines, due)).append("\n");
            }
            source.append("}\n");
            all.append("example").append(many).append("(answers);\n");
        }
        source.append("public static void tell(java.util.List<Long> answers) {\n").append(all).append("}\n}\n");
        DUE.is("README.md has examples", lines.size() > 20 ? 1 : 0, 1);
        List<Long> answers = answers(source.toString());
        DUE.is("answers", answers.size(), due.size());
        for (int i = 0; i < Math.min(answers.size(), due.size()); i++) {
            DUE.is(lines.get(i), answers.get(i), due.get(i));
        }
    }

    private static String asked(String line, List<String> lines, List<Long> due) {
        Matcher told = TOLD.matcher(line);
        if (!told.matches()) {
            return line;
        }
        lines.add(told.group(2));
        due.add(Long.parseLong(told.group(3)));
        if (told.group(1) == null) {
            return "answers.add((long) " + told.group(2) + ");";
        }
        String name = told.group(1).split(" ")[1];
        return told.group(1) + told.group(2) + "; answers.add((long) " + name + ");";
    }

    private static List<Long> answers(String source) throws Exception {
        List<Long> answers = new ArrayList<>();
        Path room = Files.createTempDirectory("readme");
        Path file = room.resolve("Example.java");
        Files.writeString(file, source);
        String classes = System.getProperty("java.class.path");
        int failed = ToolProvider.getSystemJavaCompiler().run(null, null, null, "-cp", classes, "-d", room.toString(), file.toString());
        DUE.is("README.md's examples compile", failed, 0);
        if (failed == 0) {
            try (java.net.URLClassLoader loader = new java.net.URLClassLoader(new java.net.URL[] {room.toUri().toURL()})) {
                loader.loadClass("Example").getMethod("tell", List.class).invoke(null, answers);
            }
        }
        try (Stream<Path> made = Files.list(room)) {
            for (Path path : made.toList()) {
                Files.delete(path);
            }
        }
        Files.delete(room);
        return answers;
    }

    private static void table(String text) throws IOException {
        TreeSet<String> told = new TreeSet<>();
        Matcher rows = Pattern.compile("(?m)^\\| (\\w+Test) \\| .* \\|$").matcher(text);
        while (rows.find()) {
            told.add(rows.group(1));
        }
        TreeSet<String> there = new TreeSet<>();
        try (Stream<Path> files = Files.list(Path.of("src/test/java"))) {
            files.map(file -> file.getFileName().toString()).filter(name -> name.endsWith("Test.java"))
                    .forEach(name -> there.add(name.substring(0, name.length() - ".java".length())));
        }
        DUE.is("README.md's table of tests", told.toString(), there.toString());
    }
}
