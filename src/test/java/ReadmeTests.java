import java.io.IOException;
import java.lang.reflect.Method;
import java.lang.reflect.Modifier;
import java.nio.file.Files;
import java.nio.file.Path;
import java.util.Set;
import java.util.TreeSet;
import java.util.regex.Matcher;
import java.util.regex.Pattern;

/**
 * README.md has a row for every call of the face, with the refusals that the document has for it, tells for how many
 * calls an object is good, and its examples answer what they say.
 */
public final class ReadmeTests {
    private static final Path ROOT = Path.of(System.getProperty("project.root", "."));
    private static int wrong = 0;

    private static void must(boolean so, String what) {
        if (!so) {
            wrong++;
            System.out.println("not so: " + what);
        }
    }

    private static void due(long is, long due, String what) {
        must(is == due, what + " is " + is + ", due " + due);
    }

    private static String row(String readme, String name) {
        Matcher m = Pattern.compile("(?m)^\\| `" + name + "\\([^)]*\\)` \\|.*$").matcher(readme);
        String found = m.find() ? m.group() : "";
        must(!found.isEmpty(), "a row for " + name);
        must(found.isEmpty() || !m.find(), "one row for " + name);
        return found;
    }

    private static String arguments(Method m, String row) {
        StringBuilder types = new StringBuilder();
        Matcher inside = Pattern.compile("\\(([^)]*)\\)").matcher(row);
        if (inside.find() && !inside.group(1).isEmpty()) {
            for (String argument : inside.group(1).split(", ")) {
                types.append(argument.split(" ")[0]).append(' ');
            }
        }
        return types.toString();
    }

    private static void everyCallHasItsRow(String readme) {
        row(readme, "GreedyServers");
        for (Method m : GreedyServers.class.getDeclaredMethods()) {
            if (!Modifier.isPublic(m.getModifiers())) {
                continue;
            }
            StringBuilder types = new StringBuilder();
            for (Class<?> type : m.getParameterTypes()) {
                types.append(type).append(' ');
            }
            String row = row(readme, m.getName());
            must(arguments(m, row).contentEquals(types), "the arguments of " + m.getName() + ": " + row);
        }
    }

    private static Set<String> codes(String words) {
        Set<String> found = new TreeSet<>();
        Matcher m = Pattern.compile("(?<![\\w.])-\\d+").matcher(words);
        while (m.find()) {
            found.add(m.group());
        }
        return found;
    }

    /** The document's own words for a call tell its refusals; the row has the same ones. */
    private static void rowsTellTheDocumentsRefusals(String readme) throws IOException {
        Path file = ROOT.resolve("../shared/DOC.md");
        if (!Files.exists(file)) {
            return;
        }
        Matcher promise = Pattern.compile("## Promise \\d+: (\\w+)\\s+`[^`]*`: (.*)").matcher(Files.readString(file));
        int promises = 0;
        while (promise.find()) {
            promises++;
            Set<String> due = codes(promise.group(2));
            if (promise.group(1).equals("text")) {
                due.add("-1000");
                due.add("-2000");
            }
            String row = row(readme, promise.group(1));
            must(codes(row).equals(due), "the refusals " + due + " in " + row);
        }
        due(promises, 42, "promises with a call");
        String[] names = {"-1", "-2", "-3", "-4", "-11", "-12", "-13", "-14", "-15", "-16"};
        for (String name : names) {
            must(readme.contains("\n| " + name + " | "), "a row for the refusal " + name);
        }
    }

    private static void examples() {
        GreedyServers x = new GreedyServers();
        due(x.keep(0, 1, 1, 3), 0, "keep");
        int s = x.comes(0, 2, 15);
        due(s, 0, "comes");
        due(x.sends(s, 5, 3), 1, "sends");
        due(x.then(s, 9, 0), 0, "then");
        due(x.ticks(9), 0, "ticks");
        due(x.server(s, 10), 1, "DONE behind them");
        GreedyServers y = new GreedyServers();
        String words = "s131015;j053;t10;";
        y.row(1, 0, words.length());
        for (int i = 0; i < words.length(); i++) {
            due(y.put(1, i, words.charAt(i)), 0, "put");
        }
        due(y.text(1), 3, "text");
        due(y.server(0, 0), 1, "KIND by the text");
        due(y.server(0, 1), 3, "FIGURE by the text");
        due(y.server(0, 2), 10, "BUDGET by the text");
        due(y.server(0, 3), 15, "PERIOD by the text");
        due(y.count(1), 10, "TICK behind the text");
        due(y.breaks(1, 0, 2, 0), Long.MIN_VALUE + 101, "a refusal of a long");
    }

    public static void main(String[] args) throws IOException {
        String readme = Files.readString(ROOT.resolve("README.md"));
        everyCallHasItsRow(readme);
        rowsTellTheDocumentsRefusals(readme);
        must(readme.contains("good for 512 calls"), "for how many calls an object is good");
        must(readme.contains("bash .ci/run"), "how to run the tests");
        examples();
        System.out.println(wrong == 0 ? "README: all so" : "README: " + wrong + " not so");
        System.exit(wrong == 0 ? 0 : 1);
    }
}
