import java.lang.reflect.Constructor;
import java.lang.reflect.Field;
import java.lang.reflect.Method;
import java.lang.reflect.Modifier;
import java.nio.charset.StandardCharsets;
import java.nio.file.Files;
import java.nio.file.Path;
import java.util.ArrayList;
import java.util.Arrays;
import java.util.List;
import java.util.TreeSet;
import java.util.regex.Matcher;
import java.util.regex.Pattern;

/** The public face, and what of the language's rules can be seen from the class and its source. Runs from the project's root. */
public final class LanguageTest {
    private static final String[] METHODS = {
        "stone 3", "told 2", "off 3", "as 2", "turns 2", "put 3", "box 1", "want 2", "wind 1", "deal 1", "seed 1",
        "days 1", "king 1", "at 1", "best 2", "bestFor 2", "swap 0", "knocked 1", "push 1", "behind 2", "laid 0",
        "lost 2", "seen 2", "fee 0", "fine 1", "feed 3", "trim 1", "text 0", "textTold 2", "why 1", "sheet 3",
        "mark 3", "pour 1", "reads 1", "copy 5", "lay 3", "ask 2", "item 2", "rest 2", "tell 1", "check 1",
        "keep 0", "back 0", "count 1"};
    private static final String[] CONSTANTS = {"BAD", "NO", "FULL", "NONE", "NOTHING", "KIND", "INDEX", "SIZE"};
    /** Words of rules 2, 5, 6 and 13, whole, outside of comments and texts. */
    private static final String[] WORDS = {
        "throw", "throws", "try", "catch", "finally", "synchronized", "assert", "volatile", "native", "new Object",
        "->", "::", "hashCode", "nanoTime", "currentTimeMillis", "Random", "Thread", "System.out"};

    /** What rule 4 leaves of the library, as far as the class takes from it. */
    private static final String[] LIBRARY = {
        "Math.abs", "Math.max", "Math.min", "Integer.bitCount", "Integer.compare", "System.arraycopy",
        "Arrays.copyOf", "Arrays.copyOfRange", "Arrays.fill"};

    private static int wrong = 0;

    private static void due(String what, Object got, Object want) {
        if (!got.equals(want)) {
            wrong++;
            System.out.println(what + ": " + got + ", due is " + want);
        }
    }

    private static void theFace() {
        TreeSet<String> due = new TreeSet<>(Arrays.asList(METHODS));
        TreeSet<String> got = new TreeSet<>();
        TreeSet<String> names = new TreeSet<>();
        for (Method m : DominoKing.class.getDeclaredMethods()) {
            if (Modifier.isPublic(m.getModifiers())) {
                got.add(m.getName() + " " + m.getParameterCount());
                names.add(m.getName());
                due(m + " answers", m.getReturnType(), int.class);
                due(m + " is static", Modifier.isStatic(m.getModifiers()), false);
                for (Class<?> type : m.getParameterTypes()) {
                    due(m + " takes", type, int.class);
                }
            }
        }
        due("methods", got, due);
        for (Method m : DominoKing.class.getDeclaredMethods()) {
            boolean isPublic = Modifier.isPublic(m.getModifiers());
            due(m + " is public or private", isPublic || Modifier.isPrivate(m.getModifiers()), true);
            due(m + " bears a public name", !isPublic && names.contains(m.getName()), false);
        }
        for (Class<?> inside : DominoKing.class.getDeclaredClasses()) {
            due(inside + " is static", Modifier.isStatic(inside.getModifiers()), true);
            due(inside + " is seen", Modifier.isPublic(inside.getModifiers()) || Modifier.isProtected(inside.getModifiers()), false);
            due(inside + " has many fields", inside.getDeclaredFields().length > 25, false);
            for (Method m : inside.getDeclaredMethods()) {
                due(m + " has many parameters", m.getParameterCount() > 7, false);
                due(m + " bears a public name", names.contains(m.getName()), false);
            }
        }
        due("classes", DominoKing.class.getDeclaredClasses().length < 12, true);
        due("final", Modifier.isFinal(DominoKing.class.getModifiers()), true);
    }

    private static void theFields() {
        TreeSet<String> got = new TreeSet<>();
        for (Field f : DominoKing.class.getDeclaredFields()) {
            int how = f.getModifiers();
            if (Modifier.isPublic(how)) {
                got.add(f.getName());
                due(f + " is a constant", Modifier.isStatic(how) && Modifier.isFinal(how) && f.getType() == int.class, true);
            } else {
                due(f + " is private", Modifier.isPrivate(how), true);
            }
            due(f + " is static and may change", Modifier.isStatic(how) && !Modifier.isFinal(how), false);
        }
        due("constants", got, new TreeSet<>(Arrays.asList(CONSTANTS)));
        List<String> makers = new ArrayList<>();
        for (Constructor<?> c : DominoKing.class.getDeclaredConstructors()) {
            makers.add(Modifier.toString(c.getModifiers()) + " " + c.getParameterCount());
        }
        due("constructors", makers, List.of("public 0"));
    }

    private static void theStaticFields() {
        List<Class<?>> all = new ArrayList<>(Arrays.asList(DominoKing.class.getDeclaredClasses()));
        all.add(DominoKing.class);
        List<Class<?>> types = List.of(int.class, long.class, boolean.class, char.class, String.class,
            int[].class, long[].class, char[].class, byte[].class);
        for (Class<?> owner : all) {
            int fields = 0;
            for (Field f : owner.getDeclaredFields()) {
                if (Modifier.isStatic(f.getModifiers())) {
                    due(f + " is final", Modifier.isFinal(f.getModifiers()), true);
                    due(f + " is of a type that a constant may have", types.contains(f.getType()), true);
                } else {
                    fields++;
                }
            }
            due(owner + " has many fields", fields > 20, false);
        }
    }

    private static void theLibrary(String code) {
        Matcher m = Pattern.compile("\\b(Math|Integer|Long|System|Arrays|String|List|Character|Short)\\.\\w+").matcher(code);
        while (m.find()) {
            due(m.group() + " is in the library", Arrays.asList(LIBRARY).contains(m.group()), true);
        }
        Matcher join = Pattern.compile("\"\\s*\\+|\\+\\s*\"").matcher(code);
        due("texts joined by +", join.find(), false);
    }

    private static void theWords() throws Exception {
        String source = Files.readString(Path.of("src/main/java/DominoKing.java"), StandardCharsets.ISO_8859_1);
        String code = source.replaceAll("(?s)/\\*.*?\\*/", "").replaceAll("//[^\n]*", "").replaceAll("\"[^\"\n]*\"", "\"\"");
        for (String word : WORDS) {
            boolean sign = !Character.isLetter(word.charAt(0));
            String pattern = sign ? Pattern.quote(word) : "\\b" + Pattern.quote(word) + "\\b";
            Matcher m = Pattern.compile(pattern).matcher(code);
            due("the word " + word, m.find(), false);
        }
        Matcher imports = Pattern.compile("import [^;]*;").matcher(code);
        while (imports.find()) {
            due("import", imports.group(), "import java.util.Arrays;");
        }
        due("a function whose name ends in Exact", Pattern.compile("Exact\\b").matcher(code).find(), false);
        due("a package", code.contains("package "), false);
        due("bytes above 127", source.chars().anyMatch(c -> c > 127), false);
        theLibrary(code);
        methodsAreShort(source);
    }

    private static void methodsAreShort(String source) {
        String[] lines = source.split("\n");
        int start = -1;
        String end = "";
        for (int i = 0; i < lines.length; i++) {
            if (start < 0 && lines[i].matches("( {4}| {8})[^ ].*\\) \\{") && !lines[i].contains("class ")) {
                start = i;
                end = lines[i].replaceAll("[^ ].*", "") + "}";
            } else if (start >= 0 && lines[i].equals(end)) {
                due("a long method at line " + (start + 1), i - start > 60, false);
                start = -1;
            }
        }
    }

    public static void main(String[] args) throws Exception {
        theFace();
        theFields();
        theStaticFields();
        theWords();
        System.out.println(wrong == 0 ? "the face and the language are as due" : wrong + " things are not as due");
        if (wrong != 0) {
            System.exit(1);
        }
    }
}
