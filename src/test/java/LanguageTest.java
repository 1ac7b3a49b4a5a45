import java.io.IOException;
import java.nio.file.Files;
import java.nio.file.Path;
import java.util.ArrayList;
import java.util.List;
import java.util.Set;
import java.util.TreeSet;
import java.util.regex.Matcher;
import java.util.regex.Pattern;

/** Rules of LANGUAGE.md that the class's text can show. */
public final class LanguageTest {
    private static final Due DUE = new Due("LanguageTest");
    private static final String FACE = "wide bar shape tongs terms feed end row recipe fault steps run came iron welds heats"
            + " plan reached even change made twelve piece soonest striker image back count status";

    public static void main(String[] args) throws IOException {
        String source = Files.readString(Path.of("src/main/java/HotIron.java"));
        String code = source.replaceAll("(?s)/\\*.*?\\*/", "").replaceAll("//[^\n]*", "");
        face(code);
        words(code);
        methods(code);
        classes(code);
        DUE.close();
    }

    private static List<String> found(String code, String pattern) {
        List<String> all = new ArrayList<>();
        Matcher matcher = Pattern.compile(pattern).matcher(code);
        while (matcher.find()) {
            all.add(matcher.group(matcher.groupCount()));
        }
        return all;
    }

    private static void none(String code, String pattern, String why) {
        List<String> all = found(code, pattern);
        DUE.is(why + " " + all, all.size(), 0);
    }

    private static void face(String code) {
        Set<String> due = new TreeSet<>(List.of(FACE.split(" ")));
        Set<String> told = new TreeSet<>(found(code, "public (?:int|long) (\\w+)\\("));
        DUE.is("rule 1: the face " + told, told.equals(due) ? 1 : 0, 1);
        for (String name : FACE.split(" ")) {
            none(code, "(?m)^ +(?:private |static |final )*[\\w\\[\\]]+ (" + name + ")\\(", "rule 1: a method of a face's name");
        }
        none(code, "(?m)^    (?!private |public |\\}| )(\\S.*)$", "rule 1: members that can be seen");
    }

    private static void words(String code) {
        none(code, "\\b(throw|throws|try|catch|synchronized|assert|protected|volatile|native)\\b", "rule 6");
        none(code, "(->|::)", "rule 2: lambdas, method references");
        none(code, "\\b(System\\.(?!arraycopy)\\w+|Thread|Random|Object|Map|Set|Optional|Stream|BigInteger)\\b", "rule 4");
        none(code, "\\b(\\w+Exact)\\b", "rule 4: Exact");
        none(code, "(import (?!java\\.util\\.Arrays;).*)", "rule 4: imports");
        none(code, "(Arrays\\.(?!copyOf\\b|copyOfRange\\b|fill\\b)\\w+)", "rule 4: Arrays");
        none(code, "(Math\\.(?!max\\b|min\\b|abs\\b|floorMod\\b|floorDiv\\b)\\w+)", "rule 4: Math");
        none(code, "(?m)^ +((?:private )?static (?!final|class|int |long |void |boolean ).*)$", "rule 5: static fields");
    }

    /** Rule 11: how many lines and parameters a method has. */
    private static void methods(String code) {
        String[] lines = code.split("\n");
        Pattern head = Pattern.compile("^( +)(?:public |private |static |final )*[\\w\\[\\]]+ ?\\w*\\(([^)]*)\\) \\{$");
        for (int i = 0; i < lines.length; i++) {
            Matcher matcher = head.matcher(lines[i]);
            if (!matcher.matches() || lines[i].contains(" if (") || lines[i].contains(" new ")) {
                continue;
            }
            int to = i;
            while (!lines[to].equals(matcher.group(1) + "}")) {
                to++;
            }
            DUE.is("rule 11: lines of " + lines[i].trim(), to - i < 60 ? 1 : 0, 1);
            DUE.is("rule 11: parameters of " + lines[i].trim(), matcher.group(2).split(",").length <= 7 ? 1 : 0, 1);
        }
    }

    private static void classes(String code) {
        List<String> all = found(code, "\\bclass (\\w+)");
        DUE.is("rule 11: classes " + all, all.size() <= 12 ? 1 : 0, 1);
        none(code, "(?m)^    ((?!private static final class|public ).*\\bclass \\w+)", "rule 2: classes that are not static");
        for (String part : code.split("\\bclass ")) {
            int fields = found(part, "(?m)^ +((?:private )?(?:final )?[\\w\\[\\]]+ \\w+(?: = [^;]+)?;)$").size()
                    - found(part, "(?m)^            .*;$").size();
            DUE.is("rule 11: fields of " + part.split(" ")[0], fields <= 22 ? 1 : 0, 1);
        }
    }
}
