import java.io.IOException;
import java.io.InputStream;
import java.lang.reflect.Constructor;
import java.lang.reflect.Executable;
import java.lang.reflect.Field;
import java.lang.reflect.Method;
import java.lang.reflect.Modifier;
import java.nio.charset.StandardCharsets;
import java.nio.file.Files;
import java.nio.file.Path;
import java.util.ArrayList;
import java.util.Arrays;
import java.util.List;
import java.util.Set;
import java.util.TreeSet;
import java.util.regex.Matcher;
import java.util.regex.Pattern;

/** Those rules of ../shared/LANGUAGE.md that a program can check, by their numbers. */
public final class HandlingRulesLanguageTest {
    private static final Path SOURCE = Path.of("src/main/java/HandlingRules.java");
    private static final String THROWN = "IllegalStateException|IllegalArgumentException|IndexOutOfBoundsException"
        + "|ArithmeticException|UnsupportedOperationException|NoSuchElementException|RuntimeException";

    private static int wrong = 0;

    private static void mustHold(int rule, boolean holds, String what) {
        if (!holds) {
            wrong++;
            System.out.println("rule " + rule + " of LANGUAGE.md: " + what);
        }
    }

    private static List<Class<?>> classes() {
        List<Class<?>> all = new ArrayList<>();
        all.add(HandlingRules.class);
        for (int i = 0; i < all.size(); i++) {
            all.addAll(Arrays.asList(all.get(i).getDeclaredClasses()));
        }
        return all;
    }

    /** The source with its comments and texts taken out, so that words in them do not count. */
    private static String plain(String source) {
        return source.replaceAll("(?s)/\\*.*?\\*/", "").replaceAll("//[^\n]*", "")
            .replaceAll("\"(\\\\.|[^\"\\\\])*\"", "\"\"");
    }

    private static void face() {
        int own = HandlingRules.class.getModifiers();
        mustHold(1, Modifier.isPublic(own) && Modifier.isFinal(own), "the class is not public and final");
        Set<String> open = new TreeSet<>();
        for (Method m : HandlingRules.class.getMethods()) {
            open.add(m.getName());
        }
        for (Method m : HandlingRules.class.getDeclaredMethods()) {
            boolean hidden = Modifier.isPrivate(m.getModifiers());
            mustHold(1, hidden || Modifier.isPublic(m.getModifiers()) || m.isSynthetic(), m + " is half open");
            mustHold(1, !hidden || !open.contains(m.getName()), m + " bears the name of a public one");
        }
        for (Class<?> c : HandlingRules.class.getDeclaredClasses()) {
            int is = c.getModifiers();
            mustHold(1, Modifier.isStatic(is) && !Modifier.isPublic(is) && !Modifier.isProtected(is), c + " is open");
        }
    }

    private static void fields() {
        for (Class<?> c : classes()) {
            int kept = 0;
            for (Field f : c.getDeclaredFields()) {
                boolean isStatic = Modifier.isStatic(f.getModifiers());
                kept += isStatic ? 0 : 1;
                mustHold(5, !isStatic || Modifier.isFinal(f.getModifiers()), f + " is static and not final");
                boolean isConstant = f.getType().isPrimitive() || f.getType() == String.class;
                mustHold(5, !isStatic || isConstant, f + " is static and no constant");
            }
            mustHold(11, kept <= 20, c + " has " + kept + " fields");
        }
        mustHold(11, classes().size() <= 12, "there are " + classes().size() + " classes");
    }

    private static void parameters() {
        for (Class<?> c : classes()) {
            List<Executable> all = new ArrayList<>(Arrays.asList(c.getDeclaredMethods()));
            all.addAll(Arrays.asList(c.getDeclaredConstructors()));
            for (Executable e : all) {
                mustHold(11, e.getParameterCount() <= 7, e + " takes " + e.getParameterCount());
            }
            for (Method m : c.getDeclaredMethods()) {
                boolean isOwnText = Set.of("equals", "hashCode", "toString").contains(m.getName());
                mustHold(6, !isOwnText, m + " is not to be written");
            }
        }
    }

    /** The compiled classes name every class of the library that they use. */
    private static void library() throws IOException {
        Set<String> allowed = Set.of("java/lang/Object", "java/lang/Math", "java/lang/String", "java/lang/Integer",
            "java/lang/Long", "java/lang/StringBuilder", "java/lang/System", "java/util/ArrayList", "java/util/List",
            "java/util/Arrays");
        Pattern named = Pattern.compile("java[x]?/[\\w/$]+");
        for (Class<?> c : classes()) {
            try (InputStream in = HandlingRules.class.getResourceAsStream(c.getName() + ".class")) {
                Matcher m = named.matcher(new String(in.readAllBytes(), StandardCharsets.ISO_8859_1));
                while (m.find()) {
                    String name = m.group();
                    boolean isThrown = name.matches("java/(lang|util)/(" + THROWN + ")");
                    mustHold(4, isThrown || allowed.contains(name), c + " uses " + name);
                }
            }
        }
    }

    private static void words(String source) {
        for (String word : new String[] {"package", "import static", "finally", "synchronized", "assert", "volatile",
            "transient", "native", "strictfp", "getMessage", "NaN", "Exact", "nanoTime", "currentTimeMillis",
            "identityHashCode", "getenv", "getProperty"}) {
            Matcher m = Pattern.compile("\\b\\w*" + word + "\\b").matcher(source);
            mustHold(6, !m.find(), "the word " + word);
        }
        mustHold(2, !source.contains("->") && !source.contains("::"), "a lambda or a method reference");
        mustHold(5, !Pattern.compile("static\\s*\\{").matcher(source).find(), "a static initialiser block");
        mustHold(4, !Pattern.compile("System\\.(?!arraycopy\\b)").matcher(source).find(), "System beyond arraycopy");
        Matcher thrown = Pattern.compile("\\bthrow\\b(?! new (" + THROWN + ")\\((\"\")?\\);)").matcher(source);
        mustHold(6, !thrown.find(), "a throw of another form");
        for (Constructor<?> c : HandlingRules.class.getDeclaredConstructors()) {
            mustHold(6, c.getExceptionTypes().length == 0, "a constructor throws");
        }
        String machine = "ArrayIndexOutOfBounds|NullPointer|ClassCast|NegativeArraySize|ArrayStore|Throwable"
            + "|catch \\((Exception|RuntimeException|IndexOutOfBoundsException)";
        mustHold(7, !Pattern.compile(machine).matcher(source).find(), "what the machine throws is caught or named");
        mustHold(9, !Pattern.compile("(while|for) ?\\((true|;;)").matcher(source).find(), "a loop with no end told");
    }

    /** A method's head is a line that opens a brace and is indented by one or two classes. */
    private static void lengths(String source) {
        String[] lines = source.split("\n");
        Pattern head = Pattern.compile("( {4}| {8})[a-zA-Z][^=;]*\\) (throws \\w+ )?\\{");
        int found = 0;
        for (int i = 0; i < lines.length; i++) {
            Matcher m = head.matcher(lines[i]);
            if (!m.matches() || lines[i].matches(" {8}(if|for|while|switch|try|\\}).*")) {
                continue;
            }
            found++;
            int end = i;
            while (end < lines.length && !lines[end].equals(m.group(1) + "}")) {
                end++;
            }
            mustHold(11, end - i + 1 <= 60, "long: " + lines[i].trim());
        }
        mustHold(11, found > 30, "only " + found + " methods were found to measure");
    }

    public static void main(String[] args) throws IOException {
        String text = Files.readString(SOURCE, StandardCharsets.ISO_8859_1);
        mustHold(3, text.chars().allMatch(c -> c < 128), "a character that is not plain");
        String source = plain(text);
        face();
        fields();
        parameters();
        library();
        words(source);
        lengths(source);
        System.out.println(wrong == 0 ? "the class keeps to the language" : wrong + " breaches of the language");
        if (wrong != 0) {
            System.exit(1);
        }
    }
}
