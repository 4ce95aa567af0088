import java.io.DataInputStream;
import java.io.IOException;
import java.lang.reflect.Field;
import java.lang.reflect.Method;
import java.lang.reflect.Modifier;
import java.nio.file.Files;
import java.nio.file.Path;
import java.util.ArrayList;
import java.util.Arrays;
import java.util.List;
import java.util.TreeSet;
import java.util.regex.Matcher;
import java.util.regex.Pattern;

/** The rules of LANGUAGE.md that can be seen from the text and from the compiled class. */
public final class LanguageTest {
    private static final Path SOURCE = Path.of("src/main/java/GraftRules.java");
    private static final String[] FACE = {
        "int feed(int)", "int tell()", "int fault()", "int told(int)", "int tree(int,int)", "int pattern(int,int)",
        "int same(int,int)", "long count(int)", "long undoneBy(int)", "int graft(int,int,int)", "int step(int,int)",
        "int plain(int)", "int mirror(int)", "int take(int)", "int fate(int,int,int)", "int dual()", "int clear()",
        "int drift(int)", "int undo(int)", "int write(int,int)", "int tear()", "int seed(int)", "int keep(int)",
        "int goBack(int)"};
    private static final String[] RULED_OUT = {"throw", "throws", "try", "catch", "finally", "synchronized", "assert",
        "->", "::", "Exact", "System.out", "System.err", "nanoTime", "currentTimeMillis", "Random", "Thread"};
    // What the class uses of rule 4; another function of the library is looked up there, then put here.
    private static final List<String> LIBRARY = List.of("java/lang/Object.<init>", "java/lang/Math.max",
        "java/lang/Math.min", "java/lang/Math.floorMod", "java/lang/System.arraycopy", "java/util/Arrays.fill");
    private static final Due DUE = new Due();

    public static void main(String[] args) throws IOException {
        String source = withoutComments(Files.readString(SOURCE));
        face();
        List<Class<?>> classes = new ArrayList<>(List.of(GraftRules.class.getDeclaredClasses()));
        for (Class<?> inside : classes) {
            DUE.isTrue(inside + " is static", Modifier.isStatic(inside.getModifiers()));
            DUE.isTrue(inside + " is not public", !Modifier.isPublic(inside.getModifiers()));
        }
        classes.add(GraftRules.class);
        DUE.isTrue("at most twelve classes", classes.size() <= 12);
        for (Class<?> each : classes) {
            fieldsOf(each);
            methodsOf(each);
            libraryOf(each);
        }
        words(source);
        madeInConstructorsAlone(source);
        methodLengths(source);
        DUE.end("LanguageTest");
    }

    private static String withoutComments(String source) {
        return source.replaceAll("(?s)/\\*.*?\\*/", "").replaceAll("//[^\n]*", "");
    }

    private static void face() {
        TreeSet<String> found = new TreeSet<>();
        for (Method method : GraftRules.class.getDeclaredMethods()) {
            if (!Modifier.isPrivate(method.getModifiers())) {
                String name = method.toString().replace("GraftRules.", "").replace("public ", "");
                found.add(name);
                DUE.isTrue(name + " is public", Modifier.isPublic(method.getModifiers()));
            }
        }
        DUE.isTrue("the face is the document's: " + found, found.equals(new TreeSet<>(Arrays.asList(FACE))));
        int modifiers = GraftRules.class.getModifiers();
        DUE.isTrue("public and final", Modifier.isPublic(modifiers) && Modifier.isFinal(modifiers));
        DUE.is("one constructor", GraftRules.class.getDeclaredConstructors().length, 1);
        DUE.is("a public constructor", GraftRules.class.getConstructors().length, 1);
        TreeSet<String> constants = new TreeSet<>();
        for (Field field : GraftRules.class.getDeclaredFields()) {
            if (!Modifier.isPrivate(field.getModifiers())) {
                constants.add(field.getName());
            }
        }
        DUE.isTrue("the constants are the document's",
            constants.equals(new TreeSet<>(List.of("NONE", "UNKNOWN", "OUTSIDE", "NOT", "FULL"))));
    }

    private static void fieldsOf(Class<?> each) {
        int own = 0;
        for (Field field : each.getDeclaredFields()) {
            if (Modifier.isStatic(field.getModifiers())) {
                DUE.isTrue(field + " is final", Modifier.isFinal(field.getModifiers()));
            } else {
                own++;
            }
        }
        DUE.isTrue(each + " has at most twenty fields", own <= 20);
    }

    private static void methodsOf(Class<?> each) {
        for (Method method : each.getDeclaredMethods()) {
            DUE.isTrue(method + " takes at most seven", method.getParameterCount() <= 7);
            if (each != GraftRules.class || Modifier.isPrivate(method.getModifiers())) {
                for (String open : FACE) {
                    DUE.isTrue(method + " has a name of its own", !open.contains(" " + method.getName() + "("));
                }
            }
        }
    }

    /** Each function that the compiled class calls stands in its pool: a class and a name, told by their numbers. */
    private static void libraryOf(Class<?> each) throws IOException {
        try (DataInputStream in = new DataInputStream(each.getResourceAsStream(each.getName() + ".class"))) {
            in.skipNBytes(8);
            int size = in.readUnsignedShort();
            String[] texts = new String[size];
            int[] firsts = new int[size];
            int[] seconds = new int[size];
            boolean[] functions = new boolean[size];
            for (int i = 1; i < size; i++) {
                int tag = in.readUnsignedByte();
                functions[i] = tag == 10 || tag == 11;
                switch (tag) {
                    case 1: texts[i] = in.readUTF(); break;
                    case 7: case 8: case 16: case 19: case 20: firsts[i] = in.readUnsignedShort(); break;
                    case 15: in.skipNBytes(3); break;
                    case 5: case 6: in.skipNBytes(8); i++; break;
                    default:
                        firsts[i] = in.readUnsignedShort();
                        seconds[i] = in.readUnsignedShort();
                        break;
                }
            }
            for (int i = 1; i < size; i++) {
                if (functions[i]) {
                    String owner = texts[firsts[firsts[i]]];
                    String name = owner + "." + texts[firsts[seconds[i]]];
                    DUE.isTrue(each + " calls " + name, owner.startsWith("GraftRules") || LIBRARY.contains(name));
                }
            }
        }
    }

    private static void words(String source) {
        for (String word : RULED_OUT) {
            String pattern = Character.isLetter(word.charAt(0)) ? "\\b" + word + "\\b" : Pattern.quote(word);
            DUE.isTrue("no " + word, !Pattern.compile(pattern).matcher(source).find());
        }
        Matcher imports = Pattern.compile("import ([^;]*);").matcher(source);
        while (imports.find()) {
            DUE.isTrue("import " + imports.group(1), imports.group(1).equals("java.util.Arrays"));
        }
        for (char c : source.toCharArray()) {
            DUE.isTrue("signs are 1 to 127", c >= 1 && c <= 127);
        }
    }

    /** All calls share one room: what is made is made once, by constructors. */
    private static void madeInConstructorsAlone(String source) {
        for (String line : source.split("\n")) {
            if (Pattern.compile("\\bnew\\b").matcher(line).find()) {
                boolean field = line.matches(" +private final .* = new .*;");
                boolean row = line.matches(" +(ahead|images)\\[i\\] = new \\w+\\(\\);");
                DUE.isTrue("made by a constructor: " + line.trim(), field || row);
            }
        }
    }

    private static void methodLengths(String source) {
        Pattern head = Pattern.compile("( {4}| {8})(public |private |static )*\\w[\\w\\[\\]]* ?\\w*\\(.*\\) \\{");
        String[] lines = source.split("\n");
        int methods = 0;
        for (int i = 0; i < lines.length; i++) {
            Matcher started = head.matcher(lines[i]);
            if (started.matches()) {
                methods++;
                int end = i;
                while (end < lines.length && !lines[end].equals(started.group(1) + "}")) {
                    end++;
                }
                DUE.isTrue("short: " + lines[i].trim(), end - i <= 60);
            }
        }
        DUE.isTrue("methods are found", methods >= FACE.length);
    }
}
