import java.lang.reflect.Constructor;
import java.lang.reflect.Field;
import java.lang.reflect.Method;
import java.lang.reflect.Modifier;
import java.nio.file.Files;
import java.nio.file.Path;
import java.util.ArrayList;
import java.util.Arrays;
import java.util.List;
import java.util.TreeSet;
import java.util.regex.Matcher;
import java.util.regex.Pattern;

/** The rules of LANGUAGE.md that can be looked at from outside, and the face of DOC.md. Takes the two folders. */
public final class Language {
    private static int wrong;

    public static void main(String[] args) throws Exception {
        Path here = Path.of(args.length > 0 ? args[0] : ".");
        Path shared = Path.of(args.length > 1 ? args[1] : "../shared");
        String source = Files.readString(here.resolve("src/main/java/FoxHoles.java"));
        String document = Files.readString(shared.resolve("DOC.md"));
        face(document);
        classes();
        words(source);
        methods(source);
        System.out.println(wrong == 0 ? "the language is kept" : wrong + " rules are not kept");
        if (wrong != 0) {
            System.exit(1);
        }
    }

    private static void rule(int number, boolean kept, String what) {
        if (!kept) {
            wrong++;
            System.out.println("rule " + number + ": " + what);
        }
    }

    /** The heads of the document's face against those of the class. */
    private static void face(String document) {
        String face = document.substring(document.indexOf("```java"), document.indexOf("## Terms"));
        TreeSet<String> due = new TreeSet<>();
        Matcher heads = Pattern.compile("public (int|long) (\\w+)\\(([^)]*)\\);").matcher(face);
        while (heads.find()) {
            due.add(heads.group(1) + " " + heads.group(2) + "(" + heads.group(3).replaceAll(" \\w+(,|$)", "$1") + ")");
        }
        TreeSet<String> there = new TreeSet<>();
        TreeSet<String> names = new TreeSet<>();
        for (Method m : FoxHoles.class.getDeclaredMethods()) {
            if (!Modifier.isPrivate(m.getModifiers())) {
                there.add(m.getReturnType() + " " + m.getName() + typesOf(m.getParameterTypes()));
                names.add(m.getName());
            }
        }
        rule(1, due.size() == 40 && due.equals(there), "the face is " + there + ", due is " + due);
        TreeSet<String> constants = new TreeSet<>();
        for (Field f : FoxHoles.class.getDeclaredFields()) {
            if (!Modifier.isPrivate(f.getModifiers())) {
                constants.add(f.getName());
            }
        }
        rule(1, constants.equals(new TreeSet<>(List.of("BAD", "NOT", "FULL", "STATE", "VOID"))), "constants " + constants);
        Constructor<?>[] made = FoxHoles.class.getDeclaredConstructors();
        rule(1, made.length == 1 && Modifier.isPublic(made[0].getModifiers()) && made[0].getParameterCount() == 0, "constructor");
        rule(1, Modifier.isFinal(FoxHoles.class.getModifiers()), "not final");
        List<Class<?>> all = new ArrayList<>(Arrays.asList(FoxHoles.class.getDeclaredClasses()));
        all.add(FoxHoles.class);
        for (Class<?> c : all) {
            for (Method m : c.getDeclaredMethods()) {
                boolean ofFace = c == FoxHoles.class && !Modifier.isPrivate(m.getModifiers());
                rule(1, ofFace || !names.contains(m.getName()), c.getName() + "." + m.getName() + " bears a public name");
            }
        }
    }

    private static String typesOf(Class<?>[] types) {
        StringBuilder b = new StringBuilder("(");
        for (Class<?> t : types) {
            b.append(b.length() > 1 ? ", " : "").append(t.getName());
        }
        return b.append(")").toString();
    }

    private static void classes() {
        List<Class<?>> all = new ArrayList<>(Arrays.asList(FoxHoles.class.getDeclaredClasses()));
        all.add(FoxHoles.class);
        rule(11, all.size() <= 12, all.size() + " classes");
        for (Class<?> c : all) {
            rule(2, c == FoxHoles.class || Modifier.isStatic(c.getModifiers()), c + " is not static");
            rule(2, c == FoxHoles.class || !Modifier.isPublic(c.getModifiers()), c + " is public");
            int fields = 0;
            for (Field f : c.getDeclaredFields()) {
                boolean isStatic = Modifier.isStatic(f.getModifiers());
                fields += isStatic ? 0 : 1;
                rule(5, !isStatic || Modifier.isFinal(f.getModifiers()), f + " is static and not final");
            }
            rule(11, fields <= 20, c + " has " + fields + " fields");
            for (Method m : c.getDeclaredMethods()) {
                rule(11, m.getParameterCount() <= 7, m + " takes too many");
                rule(6, !m.isSynthetic(), m + " is synthetic");
            }
        }
    }

    private static void words(String source) {
        String code = source.replaceAll("(?s)/\\*.*?\\*/", "").replaceAll("//[^\n]*", "");
        for (String word : new String[] {"throw", "throws", "try", "catch", "finally", "synchronized", "assert", "double", "float",
            "import", "package", "native", "volatile", "transient", "Object", "Thread", "Random", "equals", "hashCode", "toString",
            "protected"}) {
            rule(6, !Pattern.compile("\\b" + word + "\\b").matcher(code).find(), word + " stands in the code");
        }
        rule(2, !code.contains("->") && !code.contains("::"), "a lambda or a method reference");
        rule(5, !Pattern.compile("static\\s*\\{").matcher(code).find(), "a static initialiser");
        rule(9, !Pattern.compile("while\\s*\\(\\s*true|for\\s*\\(\\s*;\\s*;").matcher(code).find(), "a loop without an end");
        rule(3, source.chars().allMatch(c -> c < 128), "signs above 127");
    }

    /** By the layout of the file: a method begins in column 4 or 8 and ends with a brace in the same column. */
    private static void methods(String source) {
        String[] lines = source.split("\n");
        Pattern head = Pattern.compile("^( {4}(?: {4})?)(?! )(?!if|for|switch)[\\w\\[\\] ]+\\([^;=]*\\) \\{$");
        int found = 0;
        for (int i = 0; i < lines.length; i++) {
            Matcher m = head.matcher(lines[i]);
            if (!m.find()) {
                continue;
            }
            found++;
            int end = i;
            while (end < lines.length && !lines[end].equals(m.group(1) + "}")) {
                end++;
            }
            rule(11, end - i + 1 <= 60, lines[i].trim() + " has " + (end - i + 1) + " lines");
        }
        rule(11, found > 100, "only " + found + " methods were found");
    }
}
