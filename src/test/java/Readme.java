import java.lang.reflect.Method;
import java.nio.file.Files;
import java.nio.file.Path;
import java.util.TreeSet;
import java.util.regex.Matcher;
import java.util.regex.Pattern;

/**
 * The calls that README.md shows, made as they stand there: each line's remark begins with the answer of its last call.
 * Takes the project's folder.
 */
public final class Readme {
    private static final Pattern BLOCK = Pattern.compile("(?s)```java\n(.*?)```");
    private static final Pattern CALL = Pattern.compile("x\\.(\\w+)\\(([^()]*)\\);");
    private static final Pattern REMARK = Pattern.compile("// (-?\\d+)(:|$)");

    private static final TreeSet<String> shown = new TreeSet<>();
    private static FoxHoles x;
    private static int lines;
    private static int wrong;

    public static void main(String[] args) throws Exception {
        Path here = Path.of(args.length > 0 ? args[0] : ".");
        Matcher block = BLOCK.matcher(Files.readString(here.resolve("README.md")));
        while (block.find()) {
            for (String line : block.group(1).split("\n")) {
                make(line);
            }
        }
        for (Method m : FoxHoles.class.getMethods()) {
            if (m.getDeclaringClass() == FoxHoles.class && !shown.contains(m.getName())) {
                fault("README.md does not show " + m.getName());
            }
        }
        System.out.println(wrong == 0 ? lines + " lines of README.md hold" : wrong + " faults");
        if (wrong != 0 || lines == 0) {
            System.exit(1);
        }
    }

    private static void make(String line) throws Exception {
        lines++;
        if (line.equals("FoxHoles x = new FoxHoles();")) {
            x = new FoxHoles();
            return;
        }
        Matcher remark = REMARK.matcher(line);
        Matcher call = CALL.matcher(line);
        if (!remark.find() || x == null) {
            fault("no answer is told: " + line);
            return;
        }
        long answer = Long.MIN_VALUE;
        int end = 0;
        while (call.find() && call.end() < remark.start()) {
            answer = answerOf(call.group(1), call.group(2).split(", *"));
            end = call.end();
        }
        if (end == 0 || !line.substring(end, remark.start()).isBlank()) {
            fault("not read to its end: " + line);
        }
        if (answer != Long.parseLong(remark.group(1))) {
            fault("answered " + answer + ": " + line);
        }
    }

    private static long answerOf(String name, String[] told) throws Exception {
        shown.add(name);
        for (Method m : FoxHoles.class.getMethods()) {
            if (m.getName().equals(name)) {
                Class<?>[] types = m.getParameterTypes();
                Object[] values = new Object[types.length];
                for (int i = 0; i < types.length; i++) {
                    long v = told[i].startsWith("'") ? told[i].charAt(1) : Long.parseLong(told[i]);
                    values[i] = types[i] == long.class ? (Object) v : (Object) (int) v;
                }
                return ((Number) m.invoke(x, values)).longValue();
            }
        }
        fault("no such call: " + name);
        return Long.MIN_VALUE;
    }

    private static void fault(String what) {
        wrong++;
        System.out.println(what);
    }
}
