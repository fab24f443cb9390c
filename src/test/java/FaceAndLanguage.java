import java.io.DataInputStream;
import java.io.IOException;
import java.io.InputStream;
import java.lang.reflect.Constructor;
import java.lang.reflect.Field;
import java.lang.reflect.Method;
import java.lang.reflect.Modifier;
import java.nio.file.Files;
import java.nio.file.Path;
import java.util.ArrayList;
import java.util.List;
import java.util.Set;
import java.util.TreeSet;
import java.util.regex.Matcher;
import java.util.regex.Pattern;

/** The public face is the document's and no more, and the class keeps to what of LANGUAGE.md a program can see. */
public final class FaceAndLanguage {
    private static final Set<String> FACE = Set.of("int text(int)", "int server(int,int)", "int job(int,int,int)",
        "int comes(int,int,int)", "int sends(int,int,int)", "int drops(int)", "int ticks(int)",
        "int then(int,int,int)", "int runs(int,int)", "int quiet(int)", "int misses(int)", "int ran(int,int,int)",
        "int admitted(int,int)", "int demand(int,int)", "int needs(int,int)", "int alone(int,int)",
        "int kindBest(int,int,int)", "int send(int)", "int load(int)", "int whoRan(int,int,int)",
        "int two(int,int,int)", "long breaks(int,int,int,int)", "long share(int,int)", "int bits(int)",
        "long wide(int)", "int forged(int)", "int judge(int)", "int days(int,int,int)", "int image()",
        "int restore()", "int count(int)", "int tray(int,int,int)", "int lays(int,int,int)", "int laid(int,int)",
        "int like(int,int)", "int keep(int,int,int,int)", "int row(int,int,int)", "int put(int,int,int)",
        "long element(int,int)", "int copy(int,int,int,int,int)", "int cost(int)", "int toss(int)");
    private static final Set<String> LIBRARY = Set.of("java/lang/Object.<init>", "java/lang/Math.min",
        "java/lang/Math.max", "java/lang/Math.abs", "java/lang/Integer.bitCount", "java/lang/System.arraycopy",
        "java/util/Arrays.fill", "java/lang/IllegalStateException.<init>",
        "java/lang/IllegalArgumentException.<init>", "java/lang/UnsupportedOperationException.<init>");
    private static int wrong = 0;

    private static void must(boolean so, String what) {
        if (!so) {
            wrong++;
            System.out.println("not so: " + what);
        }
    }

    private static String signature(Method m) {
        StringBuilder s = new StringBuilder(m.getReturnType() + " " + m.getName() + "(");
        for (Class<?> p : m.getParameterTypes()) {
            s.append(s.charAt(s.length() - 1) == '(' ? "" : ",").append(p);
        }
        return s.append(')').toString();
    }

    private static void face() {
        Class<?> c = GreedyServers.class;
        must(Modifier.isPublic(c.getModifiers()) && Modifier.isFinal(c.getModifiers()), "public and final");
        Set<String> found = new TreeSet<>();
        Set<String> names = new TreeSet<>();
        for (Method m : c.getDeclaredMethods()) {
            if (Modifier.isPublic(m.getModifiers())) {
                found.add(signature(m));
                names.add(m.getName());
                must(!Modifier.isStatic(m.getModifiers()), m.getName() + " is no static method");
            } else {
                must(Modifier.isPrivate(m.getModifiers()), m.getName() + " is private");
            }
        }
        must(found.equals(new TreeSet<>(FACE)), "the face is the document's: " + found);
        Constructor<?>[] made = c.getDeclaredConstructors();
        must(made.length == 1 && Modifier.isPublic(made[0].getModifiers()) && made[0].getParameterCount() == 0,
            "one public constructor");
        try {
            Class<?>[] thrown = c.getMethod("element", int.class, int.class).getExceptionTypes();
            must(thrown.length == 2 && thrown[0] == IllegalArgumentException.class
                && thrown[1] == IllegalStateException.class, "element tells what it throws");
        } catch (NoSuchMethodException e) {
            must(false, "there is element");
        }
        for (Field f : c.getDeclaredFields()) {
            must(Modifier.isPrivate(f.getModifiers()), f.getName() + " is private");
        }
        int classes = 1;
        shape(c, names);
        for (Class<?> inner : c.getDeclaredClasses()) {
            classes++;
            must(Modifier.isStatic(inner.getModifiers()), inner + " is static");
            must(!Modifier.isPublic(inner.getModifiers()) && !Modifier.isProtected(inner.getModifiers()),
                inner + " is not public");
            shape(inner, names);
            for (Method m : inner.getDeclaredMethods()) {
                must(!names.contains(m.getName()), m + " has no name of the face");
            }
        }
        must(classes <= 12, "twelve classes at most: " + classes);
    }

    private static void shape(Class<?> c, Set<String> names) {
        int fields = 0;
        for (Field f : c.getDeclaredFields()) {
            if (Modifier.isStatic(f.getModifiers())) {
                must(Modifier.isFinal(f.getModifiers()) && (f.getType().isPrimitive() || f.getType() == String.class),
                    "static " + f + " is a constant");
            } else {
                fields++;
            }
        }
        must(fields <= 20, c + " has twenty fields at most");
        for (Method m : c.getDeclaredMethods()) {
            must(m.getParameterCount() <= 7, m + " takes seven at most");
            must(!Modifier.isPrivate(m.getModifiers()) || !names.contains(m.getName()), m + " has a name of its own");
        }
    }

    /** The methods of the library that a class file calls, out of its constants. */
    private static void called(Class<?> c, Set<String> all) throws IOException {
        String name = c.getName() + ".class";
        try (InputStream raw = FaceAndLanguage.class.getResourceAsStream("/" + name);
                DataInputStream in = new DataInputStream(raw)) {
            in.readLong();
            int n = in.readUnsignedShort();
            String[] texts = new String[n];
            int[] tags = new int[n];
            int[] one = new int[n];
            int[] two = new int[n];
            for (int i = 1; i < n; i++) {
                tags[i] = in.readUnsignedByte();
                switch (tags[i]) {
                    case 1: texts[i] = in.readUTF(); break;
                    case 3: case 4: in.readInt(); break;
                    case 5: case 6: in.readLong(); i++; break;
                    case 7: case 8: case 16: case 19: case 20: one[i] = in.readUnsignedShort(); break;
                    case 15: in.readUnsignedByte(); in.readUnsignedShort(); break;
                    default: one[i] = in.readUnsignedShort(); two[i] = in.readUnsignedShort(); break;
                }
            }
            for (int i = 1; i < n; i++) {
                must(tags[i] != 17 && tags[i] != 18 && tags[i] != 15, name + " has no lambda and no joined texts");
                if (tags[i] == 10 || tags[i] == 11) {
                    String owner = texts[one[one[i]]];
                    if (owner.startsWith("java/")) {
                        all.add(owner + "." + texts[one[two[i]]]);
                    }
                }
            }
        }
    }

    private static void library() throws IOException {
        Set<String> all = new TreeSet<>();
        called(GreedyServers.class, all);
        for (Class<?> inner : GreedyServers.class.getDeclaredClasses()) {
            called(inner, all);
        }
        all.removeAll(LIBRARY);
        must(all.isEmpty(), "only the library that LANGUAGE.md lists is called: " + all);
    }

    private static void source() throws IOException {
        Path root = Path.of(System.getProperty("project.root", "."));
        List<String> lines = Files.readAllLines(root.resolve("src/main/java/GreedyServers.java"));
        String whole = String.join("\n", lines);
        String code = whole.replaceAll("(?s)/\\*.*?\\*/", "").replaceAll("//[^\n]*", "");
        String[] never = {"->", "::", "\\bfinally\\b", "\\bsynchronized\\b", "\\bassert\\b", "\\bgetMessage\\b",
            "\\bpackage\\b", "Exact\\b", "\\bfloat\\b", "\\bdouble\\b", "\\bvar\\b", "\\bequals\\(", "\\bhashCode\\b",
            "\\btoString\\b", "\\bThrowable\\b", "\\bcatch \\((Runtime|Arithmetic|IndexOut|NullPointer|Class)?Exception",
            "\\bstatic \\{", "@", "\\bwhile \\(true\\)", "for \\(;;"};
        for (String pattern : never) {
            Matcher m = Pattern.compile(pattern).matcher(code);
            must(!m.find(), "no " + pattern + " in the class");
        }
        for (String line : lines) {
            must(!line.startsWith("import ") || line.equals("import java.util.Arrays;"), "no " + line);
            must(line.chars().allMatch(ch -> ch < 128), "plain signs: " + line);
        }
        methodLengths(lines);
    }

    private static void methodLengths(List<String> lines) {
        List<String> open = new ArrayList<>();
        Pattern head = Pattern.compile("^( {4}| {8})(?!if|for|switch|while|return|else)[A-Za-z].*\\).*\\{$");
        int begun = -1;
        String indent = "";
        for (int i = 0; i < lines.size(); i++) {
            Matcher m = head.matcher(lines.get(i));
            if (begun < 0 && m.matches()) {
                begun = i;
                indent = m.group(1);
                open.add(lines.get(i).trim());
            } else if (begun >= 0 && lines.get(i).equals(indent + "}")) {
                must(i - begun <= 60, open.get(open.size() - 1) + " is short");
                begun = -1;
            }
        }
        must(open.size() > 100, "the methods are seen: " + open.size());
    }

    public static void main(String[] args) throws IOException {
        face();
        library();
        source();
        System.out.println(wrong == 0 ? "the face and the language are as told" : wrong + " not so");
        if (wrong != 0) {
            System.exit(1);
        }
    }
}
