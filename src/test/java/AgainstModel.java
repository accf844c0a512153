import java.math.BigInteger;
import java.util.ArrayDeque;
import java.util.ArrayList;
import java.util.Arrays;
import java.util.Deque;
import java.util.List;
import java.util.Random;

/**
 * Random runs of calls, on FoxHoles and on a model of the document that is written in another way: sets of winnable
 * states instead of a search, split texts instead of code, fractions instead of twelfths, real classes, real arrays.
 */
public final class AgainstModel {
    private static final int RUNS = 1500, SHOWN = 10;

    public static void main(String[] args) {
        int wrong = 0;
        for (int seed = 1; seed <= RUNS && wrong < SHOWN; seed++) {
            String fault = new Run(seed).fault();
            if (fault != null) {
                wrong++;
                System.out.println("seed " + seed + ": " + fault);
            }
        }
        System.out.println(wrong == 0 ? RUNS + " runs are as the model's" : wrong + " runs are not as the model's");
        if (wrong != 0) {
            System.exit(1);
        }
    }
}

/** One run: calls drawn by a seed, made on both. */
final class Run {
    private static final String[] LAWS = {
        "p", "p|a=b", "p&a<b", "b=(a+1)%n", "a=b?p;p|w>3", "w>2&p;1", "p&w>4?0;p|a-b=2", "-p+1", "!p&!(a=b)", "0", "1",
        "p*w%3", "a/b+b/a", "a%b", "9999*9999*9999", "(a-b)*(a-b)=4|p", "w=5?1;b=0", "0?1", "p?w;a=b", "-a--b>2", "!!w",
        "p|a=0&b=n-1|b=0&a=n-1", "b>a", "((((((p))))))", "!-!-!-p", "2<p+1", "a=1?b=3;a=3?b=1;p",
    };
    private static final String LETTERS = "abpwn0123456789+-*/%<=>|&!()?;() x";

    private final Random random;
    private final FoxHoles real = new FoxHoles();
    private final Model model = new Model();
    private final List<String> said = new ArrayList<>();
    private final int most;
    private final int calls;

    Run(int seed) {
        random = new Random(seed);
        most = seed % 10 == 0 ? 10 : 1 + random.nextInt(6);
        calls = 60 + random.nextInt(seed % 20 == 0 ? 450 : 150);
    }

    String fault() {
        int begun = random.nextInt(most + 1);
        for (int i = 0; i < begun; i++) {
            String fault = hole();
            if (fault != null) {
                return fault;
            }
        }
        for (int i = begun; i < calls; i++) {
            String fault = call();
            if (fault != null) {
                return fault;
            }
        }
        return null;
    }

    private int upTo(int n) {
        return random.nextInt(n);
    }

    private int near(int low, int high) {
        return low - (upTo(12) == 0 ? 1 : 0) + upTo(high - low + 1) + (upTo(12) == 0 ? 1 : 0);
    }

    private int shelf() {
        return upTo(25) == 0 ? near(-1, 6) : upTo(4);
    }

    private int holeNumber() {
        return upTo(15) == 0 ? upTo(12) - 1 : upTo(Math.max(model.size, 1));
    }

    private int twoHoles() {
        return holeNumber() * 10 + Math.max(holeNumber(), 0);
    }

    private int set() {
        return upTo(20) == 0 ? random.nextInt() : upTo(1 << model.size) + (upTo(20) == 0 ? 1 << model.size : 0);
    }

    private String due(String call, long want, long got) {
        said.add(call + " -> " + got);
        return want == got ? null : String.join("\n  ", said) + "   DUE " + want;
    }

    private String hole() {
        if (model.size >= most && upTo(10) != 0) {
            return null;
        }
        int w = upTo(4) == 0 ? 0 : near(0, 9);
        return due("hole(" + w + ")", model.hole(w), real.hole(w));
    }

    private String text() {
        String text = LAWS[upTo(LAWS.length)];
        if (upTo(3) == 0) {
            StringBuilder b = new StringBuilder(text);
            for (int i = upTo(4); i >= 0; i--) {
                char c = LETTERS.charAt(upTo(LETTERS.length()));
                int place = upTo(b.length() + 1);
                if (upTo(2) == 0 && place < b.length()) {
                    b.setCharAt(place, c);
                } else {
                    b.insert(place, c);
                }
            }
            text = b.toString();
        } else if (upTo(4) == 0) {
            text = Texts.some(random, 3);
        }
        for (int i = 0; i < text.length() && i < 121; i++) {
            int c = text.charAt(i);
            String fault = due("feed(" + c + ")", model.feed(c), real.feed(c));
            if (fault != null) {
                return fault;
            }
        }
        return due("law()", model.law(), real.law());
    }

    private String told() {
        int s = upTo(4);
        int sort = s == 3 ? 1 : 0;
        int n = upTo(14);
        String fault = due("row(" + s + "," + sort + "," + n + ")", model.row(s, sort, n), real.row(s, sort, n));
        for (int i = 0; i < n && fault == null; i++) {
            long v = sort == 1 ? random.nextInt(1 << 12) | random.nextInt(1 << 12) : holeNumber();
            fault = due("put(" + s + "," + i + "," + v + ")", model.put(s, i, v), real.put(s, i, v));
        }
        return fault;
    }

    /** A way that mostly keeps to the law. */
    private String way() {
        int s = upTo(3);
        int n = 1 + upTo(9);
        String fault = due("row(" + s + ",0," + n + ")", model.row(s, 0, n), real.row(s, 0, n));
        int fox = holeNumber();
        for (int i = 0; i < n && fault == null; i++) {
            fault = due("put(" + s + "," + i + "," + fox + ")", model.put(s, i, fox), real.put(s, i, fox));
            int next = model.isHole(fox) ? model.next(fox) : 0;
            fox = next != 0 && upTo(12) != 0 ? Model.bit(next, upTo(Integer.bitCount(next))) : holeNumber();
        }
        return fault;
    }

    private String call() {
        switch (upTo(10)) {
            case 0:
            case 1:
                return grow();
            case 2:
                return change();
            case 3:
            case 4:
                return toldLooks();
            case 5:
                return surely();
            case 6:
                return atRandom();
            case 7:
                return inDeed();
            default:
                return upTo(2) == 0 ? shelves() : acts();
        }
    }

    private String grow() {
        int ab = twoHoles();
        int s = shelf();
        int i = near(-1, 10);
        int n = near(1, 10);
        switch (upTo(8)) {
            case 0:
                return hole();
            case 1:
                return text();
            case 2:
                if (model.size >= most) {
                    return null;
                }
                n = upTo(4) == 0 ? n : Math.min(n, most - model.size);
                return due("holes(" + s + "," + i + "," + n + ")", model.holes(s, i, n), real.holes(s, i, n));
            default:
                return due("path(" + ab + ")", model.path(ab), real.path(ab));
        }
    }

    private String change() {
        int what = near(0, 3);
        int number = what < 2 || upTo(12) == 0 ? holeNumber() : 0;
        int v = what == 0 ? near(0, 9) : what == 1 ? near(0, 1) : what == 2 ? near(1, 2) : upTo(3) * near(0, 127);
        switch (upTo(6)) {
            case 0:
                return due("undo()", model.undo(), real.undo());
            case 1:
                return due("redo()", model.redo(), real.redo());
            case 2:
                int w = upTo(2) == 0 ? near(0, 4) : near(10, 14);
                int h = w > 4 && upTo(12) != 0 ? 0 : holeNumber();
                return due("of(" + h + "," + w + ")", model.of(h, w), real.of(h, w));
            default:
                return due("mend(" + number + "," + what + "," + v + ")", model.mend(number, what, v), real.mend(number, what, v));
        }
    }

    private String toldLooks() {
        int s = shelf();
        int both = shelf() * 10 + Math.max(upTo(2) == 0 ? 3 : shelf(), 0);
        int k = near(0, 12);
        switch (upTo(8)) {
            case 0:
                return told();
            case 1:
                return way();
            case 2:
                return due("mayBe(" + s + "," + k + ")", model.mayBe(s, k), real.mayBe(s, k));
            case 3:
                return due("caught(" + s + ")", model.caught(s), real.caught(s));
            case 4:
                return due("printed(" + both + "," + k + ")", model.printed(both, k), real.printed(both, k));
            case 5:
                return due("ahead(" + both + "," + k + ")", model.ahead(both, k), real.ahead(both, k));
            default:
                return due("judge(" + both + ")", model.judge(both), real.judge(both));
        }
    }

    private String surely() {
        int h = holeNumber();
        int set = set();
        int t = near(0, 6);
        switch (upTo(9)) {
            case 0:
                return due("ring()", model.ring(), real.ring());
            case 1:
                return due("arms()", model.arms(), real.arms());
            case 2:
                return due("dogs(" + h + ")", model.dogs(h), real.dogs(h));
            case 3:
                return due("kept(" + set + ")", model.kept(set), real.kept(set));
            case 4:
                return due("sureFrom(" + set + "," + t + ")", model.sureFrom(set, t), real.sureFrom(set, t));
            case 5:
                int m = near(1, 40);
                if (Integer.bitCount(model.open()) > 5 && m > 6) {
                    return null;
                }
                return due("toStop(" + m + ")", model.toStop(m), real.toStop(m));
            default:
                String fault = due("sure(-1)", model.sure(-1), real.sure(-1));
                int k = near(-1, upTo(3) == 0 ? 60 : 10);
                return fault != null ? fault : due("sure(" + k + ")", model.sure(k), real.sure(k));
        }
    }

    private String atRandom() {
        int s = upTo(3);
        int m = near(0, 12);
        int hm = holeNumber() * 100 + Math.max(m, 0);
        int part = near(0, 1);
        int k = near(-2, 3);
        switch (upTo(6)) {
            case 0:
                return due("likely(" + s + "," + hm + "," + part + ")", model.likely(s, hm, part), real.likely(s, hm, part));
            case 1:
                return due("luck(" + s + "," + m + "," + part + ")", model.luck(s, m, part), real.luck(s, m, part));
            case 2:
                return due("mean(" + s + "," + m + "," + part + ")", model.mean(s, m, part), real.mean(s, m, part));
            case 3:
                int l = model.size > 6 ? near(1, 2) : near(1, 4);
                return due("luckiest(" + l + "," + k + ")", model.luckiest(l, k), real.luckiest(l, k));
            default:
                int seed = random.nextInt();
                int nm = near(1, 60) * 100 + near(1, 30);
                int what = near(0, 1);
                s = shelf();
                return due("drawn(" + s + "," + seed + "," + nm + "," + what + ")", model.drawn(s, seed, nm, what),
                    real.drawn(s, seed, nm, what));
        }
    }

    private String inDeed() {
        int seed = random.nextInt();
        int ab = twoHoles();
        switch (upTo(9)) {
            case 0:
            case 1:
                return due("hide(" + seed + ")", model.hide(seed), real.hide(seed));
            case 2:
                return due("image()", model.image(), real.image());
            case 3:
                return due("back()", model.back(), real.back());
            case 4:
                return due("of(0,13)", model.of(0, 13), real.of(0, 13));
            default:
                return due("look(" + ab + ")", model.look(ab), real.look(ab));
        }
    }

    private String acts() {
        int body = near(0, Math.max(model.bodies.size() - 1, 0));
        int act = near(0, 3);
        int x = random.nextInt();
        int kind = near(0, 7);
        int what = near(0, 6);
        switch (upTo(6)) {
            case 0:
                return due("body(" + kind + ")", model.body(kind), real.body(kind));
            case 1:
            case 2:
                return due("act(" + body + "," + act + "," + x + ")", model.act(body, act, x), real.act(body, act, x));
            case 3:
                int i = near(0, 14);
                return due("trace(" + i + ")", model.trace(i), real.trace(i));
            case 4:
                int s = upTo(3) == 0 ? shelf() : 5;
                return due("keep(" + s + "," + body + ")", model.keep(s, body), real.keep(s, body));
            default:
                return due("count(" + what + ")", model.count(what), real.count(what));
        }
    }

    private String shelves() {
        int s = near(0, 5);
        int other = upTo(2) == 0 ? s : near(0, 5);
        int i = near(0, 14);
        int j = near(0, 14);
        int n = near(0, upTo(2) == 0 ? 3 : 14);
        long v = random.nextLong() >> random.nextInt(64);
        int sort = near(0, 4);
        switch (upTo(7)) {
            case 0:
                int length = upTo(8) == 0 ? near(0, 60) : near(0, 14);
                int at = upTo(4) == 0 ? s : 4;
                return due("row(" + at + "," + sort + "," + length + ")", model.row(at, sort, length), real.row(at, sort, length));
            case 1:
            case 2:
                int where = upTo(2) == 0 ? s : 4;
                return due("put(" + where + "," + i + "," + v + ")", model.put(where, i, v), real.put(where, i, v));
            case 3:
                return due("element(" + s + "," + i + ")", model.element(s, i), real.element(s, i));
            case 4:
                return due("element(4," + i + ")", model.element(4, i), real.element(4, i));
            case 5:
                return due("shift(" + s + "," + i + "," + other + "," + j + "," + n + ")", model.shift(s, i, other, j, n),
                    real.shift(s, i, other, j, n));
            default:
                int kind = near(0, 7);
                int held = upTo(3) == 0 ? s : 5;
                return due("taken(" + held + "," + kind + ")", model.taken(held, kind), real.taken(held, kind));
        }
    }
}

/** Texts of the law: some of them drawn, how they are judged, what they give. */
final class Texts {
    private Texts() {
    }

    static String some(Random random, int depth) {
        int kind = depth <= 0 ? random.nextInt(2) : random.nextInt(8);
        switch (kind) {
            case 0:
                return String.valueOf(random.nextInt(random.nextInt(4) == 0 ? 10000 : 5));
            case 1:
                return String.valueOf("abpwn".charAt(random.nextInt(5)));
            case 2:
                return (random.nextBoolean() ? "!" : "-") + "(" + some(random, depth - 1) + ")";
            case 3:
                return "(" + some(random, depth - 1) + ")";
            default:
                return some(random, depth - 1) + "|&<=>+-*/%".charAt(random.nextInt(10)) + some(random, depth - 1);
        }
    }

    /** -1: it is a text; else the place of the fault. Byte by byte, with what is open on a stack. */
    static int fault(String s) {
        Deque<Character> open = new ArrayDeque<>();
        Deque<Boolean> compared = new ArrayDeque<>();
        compared.push(false);
        boolean asked = false;
        boolean wants = true;
        int digits = 0;
        for (int i = 0; i < s.length(); i++) {
            char c = s.charAt(i);
            if (wants) {
                if (c == '!' || c == '-' || c == '(') {
                    if (open.size() == 6) {
                        return i;
                    }
                    open.push(c);
                    if (c == '(') {
                        compared.push(false);
                    }
                    continue;
                }
                if ("abpwn0123456789".indexOf(c) < 0) {
                    return i;
                }
                digits = Character.isDigit(c) ? 1 : 4;
                wants = false;
                closeSigns(open);
            } else if (c >= '0' && c <= '9' && digits < 4) {
                digits++;
            } else if (c == ')' && !open.isEmpty()) {
                open.pop();
                compared.pop();
                closeSigns(open);
                digits = 4;
            } else if ("+-*/%".indexOf(c) >= 0) {
                wants = true;
            } else if (c == '|' || c == '&') {
                replaceTop(compared, false);
                wants = true;
            } else if ("<=>".indexOf(c) >= 0 && !compared.peek()) {
                replaceTop(compared, true);
                wants = true;
            } else if (open.isEmpty() && (c == ';' || c == '?' && !asked)) {
                asked = c == '?';
                replaceTop(compared, false);
                wants = true;
            } else {
                return i;
            }
        }
        return wants || !open.isEmpty() ? s.length() : -1;
    }

    private static void closeSigns(Deque<Character> open) {
        while (!open.isEmpty() && open.peek() != '(') {
            open.pop();
        }
    }

    private static void replaceTop(Deque<Boolean> stack, boolean v) {
        stack.pop();
        stack.push(v);
    }

    /** names: what a, b, p, w, n are. */
    static int worth(String text, int[] names) {
        for (String line : text.split(";")) {
            int ask = line.indexOf('?');
            if (ask < 0) {
                return value(line, names);
            }
            if (value(line.substring(0, ask), names) != 0) {
                return value(line.substring(ask + 1), names);
            }
        }
        return 0;
    }

    /** Parted at the last of the signs that join loosest. */
    private static int value(String s, int[] names) {
        for (String signs : new String[] {"|", "&", "<=>", "+-", "*/%"}) {
            int at = lastOf(s, signs);
            if (at >= 0) {
                return joined(s.charAt(at), value(s.substring(0, at), names), value(s.substring(at + 1), names));
            }
        }
        char c = s.charAt(0);
        if (c == '!') {
            return value(s.substring(1), names) == 0 ? 1 : 0;
        }
        if (c == '-') {
            return -value(s.substring(1), names);
        }
        if (c == '(') {
            return value(s.substring(1, s.length() - 1), names);
        }
        int name = "abpwn".indexOf(c);
        return name >= 0 ? names[name] : Integer.parseInt(s);
    }

    private static int lastOf(String s, String signs) {
        int depth = 0;
        for (int i = s.length() - 1; i > 0; i--) {
            char c = s.charAt(i);
            depth += c == ')' ? 1 : c == '(' ? -1 : 0;
            if (depth == 0 && signs.indexOf(c) >= 0 && "abpwn0123456789)".indexOf(s.charAt(i - 1)) >= 0) {
                return i;
            }
        }
        return -1;
    }

    private static int joined(char sign, int x, int y) {
        switch (sign) {
            case '|':
                return x != 0 | y != 0 ? 1 : 0;
            case '&':
                return x != 0 & y != 0 ? 1 : 0;
            case '<':
                return x < y ? 1 : 0;
            case '=':
                return x == y ? 1 : 0;
            case '>':
                return x > y ? 1 : 0;
            case '+':
                return x + y;
            case '-':
                return x - y;
            case '*':
                return x * y;
            case '/':
                return y == 0 ? 0 : x / y;
            default:
                return y == 0 ? 0 : x % y;
        }
    }
}

/** A fraction in lowest terms. */
final class Part {
    static final Part NONE = new Part(BigInteger.ZERO, BigInteger.ONE);
    final BigInteger above;
    final BigInteger below;

    Part(BigInteger above, BigInteger below) {
        BigInteger shared = above.gcd(below);
        this.above = above.divide(shared);
        this.below = below.divide(shared);
    }

    static Part of(long above, long below) {
        return new Part(BigInteger.valueOf(above), BigInteger.valueOf(below));
    }

    Part plus(Part o) {
        return new Part(above.multiply(o.below).add(o.above.multiply(below)), below.multiply(o.below));
    }

    Part times(Part o) {
        return new Part(above.multiply(o.above), below.multiply(o.below));
    }

    Part by(Part o) {
        return new Part(above.multiply(o.below), below.multiply(o.above));
    }

    boolean isNone() {
        return above.signum() == 0;
    }

    boolean isMoreThan(Part o) {
        return above.multiply(o.below).compareTo(o.above.multiply(below)) > 0;
    }

    long part(int part) {
        return (part == 0 ? above : below).longValueExact();
    }
}

/** The acts as real classes; what runs is told to a list. */
interface Hides {
    int number();

    List<Integer> ran();

    default int hides(int x) {
        ran().add(1);
        return x + number();
    }
}

interface Tells {
    int looks(int x);

    int goes(int x);

    List<Integer> ran();

    default int tells(int x) {
        ran().add(2);
        return looks(x) - goes(1);
    }
}

class HoleKind implements Hides, Tells {
    private final int number;
    private final List<Integer> ran;

    HoleKind(int number, List<Integer> ran) {
        this.number = number;
        this.ran = ran;
    }

    static HoleKind of(int kind, int number, List<Integer> ran) {
        switch (kind) {
            case 0:
                return new HoleKind(number, ran);
            case 1:
                return new EmptyKind(number, ran);
            case 2:
                return new LookedKind(number, ran);
            case 3:
                return new SureKind(number, ran);
            case 4:
                return new PrintKind(number, ran);
            case 5:
                return new StoppedKind(number, ran);
            case 6:
                return new RedKind(number, ran);
            default:
                return new MissedKind(number, ran);
        }
    }

    static final Class<?>[] KINDS = {HoleKind.class, EmptyKind.class, LookedKind.class, SureKind.class, PrintKind.class,
        StoppedKind.class, RedKind.class, MissedKind.class};

    public int number() {
        return number;
    }

    public List<Integer> ran() {
        return ran;
    }

    public int looks(int x) {
        ran.add(10);
        return hides(x) * 2;
    }

    public int goes(int x) {
        ran.add(11);
        return x ^ number;
    }
}

class EmptyKind extends HoleKind {
    EmptyKind(int number, List<Integer> ran) {
        super(number, ran);
    }

    public int hides(int x) {
        ran().add(20);
        return super.hides(x) + 3;
    }
}

class LookedKind extends HoleKind {
    LookedKind(int number, List<Integer> ran) {
        super(number, ran);
    }

    public int looks(int x) {
        ran().add(30);
        return -super.looks(x);
    }
}

class SureKind extends LookedKind {
    SureKind(int number, List<Integer> ran) {
        super(number, ran);
    }

    public int goes(int x) {
        ran().add(40);
        return super.goes(x) * 3;
    }

    public int looks(int x) {
        ran().add(41);
        return super.looks(x + 1);
    }
}

class PrintKind extends EmptyKind {
    PrintKind(int number, List<Integer> ran) {
        super(number, ran);
    }

    public int goes(int x) {
        ran().add(50);
        return super.goes(x) - hides(2);
    }
}

class StoppedKind extends SureKind {
    StoppedKind(int number, List<Integer> ran) {
        super(number, ran);
    }

    public int tells(int x) {
        ran().add(60);
        return super.tells(x) ^ 5;
    }
}

class RedKind extends HoleKind {
    RedKind(int number, List<Integer> ran) {
        super(number, ran);
    }

    public int hides(int x) {
        ran().add(70);
        return super.hides(x) * 2;
    }
}

class MissedKind extends PrintKind {
    MissedKind(int number, List<Integer> ran) {
        super(number, ran);
    }

    public int looks(int x) {
        ran().add(80);
        return super.looks(x) + goes(2);
    }

    public int tells(int x) {
        ran().add(81);
        return super.tells(x) - 1;
    }
}

/** What the document says, as plainly as can be. */
final class Model {
    static final int BAD = -1, NOT = -2, FULL = -3, STATE = -5, VOID = -2000000000;
    static final long LEAST = Long.MIN_VALUE;

    int size;
    private final int[] weight = new int[10];
    private final int[] stopped = new int[10];
    private final List<Integer> paths = new ArrayList<>();
    private int lookers = 1;
    private int sleep;
    private String tape = "";
    private String law = "p";
    private final List<int[]> undone = new ArrayList<>();
    private final List<int[]> done = new ArrayList<>();
    private final Object[] shelves = new Object[6];
    final List<HoleKind> bodies = new ArrayList<>();
    private final List<Integer> ran = new ArrayList<>();
    /** hidden, fox, z, day, where, foxes, and looks in vain from 6 on. */
    private int[] deed = new int[16];
    private int[] image;

    boolean isHole(int h) {
        return h >= 0 && h < size;
    }

    private boolean isOpen(int h) {
        return isHole(h) && stopped[h] == 0;
    }

    int open() {
        int set = 0;
        for (int h = 0; h < size; h++) {
            set |= isOpen(h) ? 1 << h : 0;
        }
        return set;
    }

    private boolean isPath(int a, int b) {
        return paths.contains(a * 10 + b) || paths.contains(b * 10 + a);
    }

    /** The i-th bit that is 1. */
    static int bit(int set, int i) {
        int rest = set;
        for (int k = 0; k < i; k++) {
            rest &= rest - 1;
        }
        return Integer.numberOfTrailingZeros(rest);
    }

    int goes(int a) {
        int set = 0;
        for (int b = 0; b < size; b++) {
            int[] names = {a, b, isPath(a, b) ? 1 : 0, weight[b], size};
            if (isOpen(a) && isOpen(b) && Texts.worth(law, names) != 0) {
                set |= 1 << b;
            }
        }
        return set;
    }

    int next(int a) {
        int set = goes(a);
        return set == 0 ? 1 << a : set;
    }

    private int[] nexts() {
        int[] nexts = new int[10];
        for (int a = 0; a < size; a++) {
            nexts[a] = next(a);
        }
        return nexts;
    }

    private static int night(int[] nexts, int set) {
        int all = 0;
        for (int a = 0; a < 10; a++) {
            all |= (set >> a & 1) == 1 ? nexts[a] : 0;
        }
        return all;
    }

    int hole(int w) {
        if (w < 0 || w > 9) {
            return BAD;
        }
        if (size == 10) {
            return FULL;
        }
        weight[size] = w;
        return size++;
    }

    int holes(int shelf, int i, int n) {
        if (shelf < 0 || shelf > 5 || n < 1 || n > 10) {
            return BAD;
        }
        if (shelves[shelf] != null && !(shelves[shelf] instanceof byte[])) {
            return -12;
        }
        byte[] row = (byte[]) shelves[shelf];
        int came = 0;
        try {
            while (came < n && hole(row[i + came]) >= 0) {
                came++;
            }
        } catch (NullPointerException | ArrayIndexOutOfBoundsException e) {
            return came;
        }
        return came;
    }

    private int degree(int h) {
        int d = 0;
        for (int o = 0; o < size; o++) {
            d += isPath(h, o) ? 1 : 0;
        }
        return d;
    }

    int path(int ab) {
        int a = ab / 10;
        int b = ab % 10;
        if (ab < 0 || !isHole(a) || !isHole(b) || a == b || isPath(a, b)) {
            return BAD;
        }
        if (paths.size() == 20 || degree(a) == 4 || degree(b) == 4) {
            return FULL;
        }
        paths.add(ab);
        return paths.size();
    }

    private int told(int number, int what) {
        return what == 0 ? weight[number] : what == 1 ? stopped[number] : what == 2 ? lookers : sleep;
    }

    private void tell(int number, int what, int v) {
        if (what == 0) {
            weight[number] = v;
        } else if (what == 1) {
            stopped[number] = v;
        } else if (what == 2) {
            lookers = v;
        } else {
            sleep = v;
        }
    }

    int mend(int number, int what, int v) {
        int[] least = {0, 0, 1, 0};
        int[] most = {9, 1, 2, 127};
        if (what < 0 || what > 3 || v < least[what] || v > most[what]) {
            return BAD;
        }
        if (what < 2 ? !isHole(number) : number != 0) {
            return BAD;
        }
        int was = told(number, what);
        if (was != v) {
            done.add(new int[] {number, what, was, v});
            undone.clear();
            if (done.size() > 40) {
                done.remove(0);
            }
            tell(number, what, v);
        }
        return was;
    }

    int undo() {
        if (done.isEmpty()) {
            return STATE;
        }
        int[] c = done.remove(done.size() - 1);
        tell(c[0], c[1], c[2]);
        undone.add(c);
        return done.size();
    }

    int redo() {
        if (undone.isEmpty()) {
            return STATE;
        }
        int[] c = undone.remove(undone.size() - 1);
        tell(c[0], c[1], c[3]);
        done.add(c);
        return undone.size();
    }

    int of(int number, int what) {
        if (what >= 0 && what < 5 && isHole(number)) {
            return new int[] {weight[number], stopped[number], degree(number), goes(number), deed[6 + number]}[what];
        }
        if (number != 0 || what < 10 || what > 14) {
            return VOID;
        }
        return new int[] {lookers, sleep, deed[3], deed[0] == 1 ? deed[4] : STATE, deed[5]}[what - 10];
    }

    int feed(int letter) {
        if (letter < 0 || letter > 255) {
            return BAD;
        }
        if (tape.length() == 120) {
            return FULL;
        }
        tape += (char) letter;
        return tape.length();
    }

    int law() {
        int fault = Texts.fault(tape);
        if (fault < 0) {
            law = tape;
        }
        tape = "";
        return fault < 0 ? 1 : -100 - fault;
    }

    private int refusal(int shelf, Class<?> kind) {
        if (shelves[shelf] == null) {
            return -11;
        }
        return kind.isInstance(shelves[shelf]) ? 0 : -12;
    }

    private int mornings(byte[] row) {
        return (row.length + lookers - 1) / lookers;
    }

    private int looked(byte[] row, int day) {
        int set = 0;
        for (int i = day * lookers; i < (day + 1) * lookers; i++) {
            if (i < row.length && isHole(row[i])) {
                set |= 1 << row[i];
            }
        }
        return (sleep >> day % 7 & 1) == 1 ? 0 : set;
    }

    int mayBe(int shelf, int k) {
        if (shelf < 0 || shelf > 5 || k < 0) {
            return BAD;
        }
        int refusal = refusal(shelf, byte[].class);
        if (refusal != 0) {
            return refusal;
        }
        return behind((byte[]) shelves[shelf], new short[0], k);
    }

    private int behind(byte[] row, short[] prints, int k) {
        if (k > mornings(row)) {
            return BAD;
        }
        int[] nexts = nexts();
        int ahead = open();
        int behind = open();
        for (int day = 0; day < k; day++) {
            behind = ahead & (day < prints.length ? prints[day] : -1) & ~looked(row, day);
            ahead = night(nexts, behind);
        }
        return behind;
    }

    int caught(int shelf) {
        if (shelf < 0 || shelf > 5) {
            return BAD;
        }
        int refusal = refusal(shelf, byte[].class);
        if (refusal != 0) {
            return refusal;
        }
        byte[] row = (byte[]) shelves[shelf];
        for (int k = 0; k <= mornings(row); k++) {
            if (behind(row, new short[0], k) == 0) {
                return k;
            }
        }
        return NOT;
    }

    private boolean areShelves(int ab) {
        return ab >= 0 && ab / 10 < 6 && ab % 10 < 6;
    }

    private int refusals(int ab, Class<?> second) {
        int one = refusal(ab / 10, byte[].class);
        int other = refusal(ab % 10, second);
        return Math.max(one, other) == 0 ? Math.min(one, other) : Math.max(one, other);
    }

    int printed(int lp, int k) {
        if (!areShelves(lp) || k < 0) {
            return BAD;
        }
        int refusal = refusals(lp, short[].class);
        if (refusal != 0) {
            return refusal;
        }
        return behind((byte[]) shelves[lp / 10], (short[]) shelves[lp % 10], k);
    }

    int ahead(int lp, int k) {
        if (!areShelves(lp) || k < 1) {
            return BAD;
        }
        int refusal = refusals(lp, short[].class);
        if (refusal != 0) {
            return refusal;
        }
        byte[] row = (byte[]) shelves[lp / 10];
        short[] prints = (short[]) shelves[lp % 10];
        if (k > mornings(row)) {
            return BAD;
        }
        int[] nexts = nexts();
        int found = 0;
        for (int h = 0; h < size; h++) {
            int set = open();
            for (int day = 0; day < mornings(row); day++) {
                set = day > 0 ? night(nexts, set) : set;
                set &= (day < prints.length ? prints[day] : -1) & (day == k - 1 ? 1 << h : -1) & ~looked(row, day);
            }
            found |= set != 0 ? 1 << h : 0;
        }
        return found;
    }

    int judge(int lw) {
        if (!areShelves(lw)) {
            return BAD;
        }
        int refusal = refusals(lw, byte[].class);
        if (refusal != 0) {
            return refusal;
        }
        byte[] row = (byte[]) shelves[lw / 10];
        byte[] way = (byte[]) shelves[lw % 10];
        for (int i = 0; i < way.length; i++) {
            if (!isOpen(way[i])) {
                return i;
            }
            if (i > 0 && ((next(way[i - 1]) >> way[i] & 1) == 0 || (looked(row, i - 1) >> way[i - 1] & 1) == 1)) {
                return i;
            }
        }
        return NOT;
    }

    /** Looks of a morning by their order: each as its set, the first and the second one. */
    private List<int[]> choices(int open, int day) {
        List<int[]> all = new ArrayList<>();
        if ((sleep >> day & 1) == 1) {
            all.add(new int[] {0, NOT, NOT});
            return all;
        }
        for (int a = 0; a < 10; a++) {
            for (int b = a + 1; b < 10 && lookers == 2; b++) {
                if ((open >> a & open >> b & 1) == 1) {
                    all.add(new int[] {1 << a | 1 << b, a, b});
                }
            }
            if ((open >> a & 1) == 1 && (lookers == 1 || Integer.bitCount(open) == 1)) {
                all.add(new int[] {1 << a, a, NOT});
            }
        }
        return all;
    }

    /** Sets that are won within k mornings, for each k and day, till no more come. */
    private List<boolean[][]> wins(int open, int[] nexts, int limit) {
        int[] nights = new int[1 << size];
        for (int set = 0; set < nights.length; set++) {
            nights[set] = night(nexts, set);
        }
        List<boolean[][]> wins = new ArrayList<>();
        boolean[][] none = new boolean[7][1 << size];
        for (int day = 0; day < 7; day++) {
            none[day][0] = true;
        }
        wins.add(none);
        boolean more = true;
        while (more && wins.size() <= limit) {
            boolean[][] last = wins.get(wins.size() - 1);
            boolean[][] now = new boolean[7][1 << size];
            more = false;
            for (int day = 0; day < 7; day++) {
                List<int[]> choices = choices(open, day);
                for (int set = 0; set < 1 << size; set++) {
                    now[day][set] = last[day][set];
                    for (int i = 0; i < choices.size() && !now[day][set] && (set & ~open) == 0; i++) {
                        now[day][set] = last[(day + 1) % 7][nights[set & ~choices.get(i)[0]]];
                        more |= now[day][set];
                    }
                }
            }
            wins.add(now);
        }
        return wins;
    }

    private static int first(List<boolean[][]> wins, int day, int set) {
        for (int k = 0; k < wins.size(); k++) {
            if (wins.get(k)[day][set]) {
                return k;
            }
        }
        return NOT;
    }

    int sure(int k) {
        if (k < -1) {
            return BAD;
        }
        int open = open();
        int[] nexts = nexts();
        List<boolean[][]> wins = wins(open, nexts, 1000000);
        int mornings = first(wins, 0, open);
        if (k == -1 || mornings == NOT || k >= mornings * lookers) {
            return k == -1 ? mornings : NOT;
        }
        int set = open;
        for (int day = 0; ; day++) {
            for (int[] choice : choices(open, day % 7)) {
                int then = night(nexts, set & ~choice[0]);
                if (wins.get(mornings - day - 1)[(day + 1) % 7][then]) {
                    if (day == k / lookers) {
                        return choice[1 + k % lookers];
                    }
                    set = then;
                    break;
                }
            }
        }
    }

    int sureFrom(int set, int t) {
        if (set < 0 || set >= 1 << size || t < 0 || t > 6) {
            return BAD;
        }
        return first(wins(open(), nexts(), 1000000), t, set & open());
    }

    int ring() {
        List<Integer> holes = new ArrayList<>();
        for (int h = 0; h < 10; h++) {
            holes.add(h);
        }
        for (int p : paths) {
            int a = p / 10;
            int b = p % 10;
            if (!isOpen(a) || !isOpen(b)) {
                continue;
            }
            int from = holes.get(a);
            int to = holes.get(b);
            if (from == to) {
                return 1;
            }
            holes.replaceAll(g -> g == from ? to : g);
        }
        return 0;
    }

    int arms() {
        int centres = 0;
        for (int c = 0; c < size; c++) {
            List<Integer> arms = new ArrayList<>();
            for (int x = 0; x < size; x++) {
                for (int y = 0; y < size; y++) {
                    for (int z = 0; z < size; z++) {
                        int set = 1 << c | 1 << x | 1 << y | 1 << z;
                        if (Integer.bitCount(set) == 4 && (set & ~open()) == 0 && isPath(c, x) && isPath(x, y) && isPath(y, z)) {
                            arms.add(set & ~(1 << c));
                        }
                    }
                }
            }
            centres += hasThreeApart(arms) ? 1 : 0;
        }
        return centres;
    }

    private static boolean hasThreeApart(List<Integer> sets) {
        for (int a : sets) {
            for (int b : sets) {
                for (int c : sets) {
                    if ((a & b) == 0 && ((a | b) & c) == 0) {
                        return true;
                    }
                }
            }
        }
        return false;
    }

    int toStop(int m) {
        if (m < 1 || m > 40) {
            return BAD;
        }
        int open = open();
        int best = open;
        int[] was = stopped.clone();
        for (int set = 0; set <= open; set++) {
            if ((set & ~open) != 0 || Integer.bitCount(set) >= Integer.bitCount(best)) {
                continue;
            }
            for (int h = 0; h < size; h++) {
                stopped[h] = was[h] | set >> h & 1;
            }
            if (first(wins(open(), nexts(), m), 0, open()) >= 0) {
                best = set;
            }
            System.arraycopy(was, 0, stopped, 0, 10);
        }
        return best;
    }

    int dogs(int hole) {
        if (!isOpen(hole)) {
            return BAD;
        }
        int[] nexts = nexts();
        int greatest = 0;
        for (int h = 0; h < size; h++) {
            if (!isOpen(h)) {
                continue;
            }
            int reached = 1 << h;
            int nights = 0;
            while ((reached >> hole & 1) == 0 && nights < 20) {
                reached = night(nexts, reached);
                nights++;
            }
            if ((reached >> hole & 1) == 0) {
                return NOT;
            }
            greatest = Math.max(greatest, nights);
        }
        return greatest;
    }

    int kept(int set) {
        if (set < 0 || set >= 1 << size) {
            return BAD;
        }
        int[] nexts = nexts();
        int found = 0;
        for (int h = 0; h < size; h++) {
            int at = isOpen(h) ? 1 << h & ~set : 0;
            for (int day = 0; day < 1100; day++) {
                at = night(nexts, at) & ~set;
            }
            found |= at != 0 ? 1 << h : 0;
        }
        return found;
    }

    private int openWeight() {
        int sum = 0;
        for (int h = 0; h < size; h++) {
            sum += isOpen(h) ? weight[h] : 0;
        }
        return sum;
    }

    private Part[] atFirst() {
        Part[] now = new Part[size];
        for (int h = 0; h < size; h++) {
            now[h] = isOpen(h) ? Part.of(weight[h], openWeight()) : Part.NONE;
        }
        return now;
    }

    private Part[] spread(Part[] from) {
        Part[] to = new Part[size];
        Arrays.fill(to, Part.NONE);
        for (int a = 0; a < size; a++) {
            List<Integer> ways = new ArrayList<>();
            for (int b = 0; b < size; b++) {
                if (isOpen(b) && isPath(a, b)) {
                    ways.add(b);
                }
            }
            if (ways.isEmpty()) {
                ways.add(a);
            }
            for (int b : ways) {
                to[b] = to[b].plus(from[a].times(Part.of(1, ways.size())));
            }
        }
        return to;
    }

    private boolean mayFollow(int shelf, int m, int part) {
        return shelf >= 0 && shelf < 6 && shelves[shelf] instanceof byte[] && m >= 0 && m <= 12
            && m <= mornings((byte[]) shelves[shelf]) && (part == 0 || part == 1);
    }

    /** How likely it is caught on each morning; at last how likely it is in each hole and was not. */
    private Part[][] follow(byte[] row, int m) {
        Part[] now = atFirst();
        Part[] caught = new Part[m];
        for (int day = 0; day < m; day++) {
            now = day > 0 ? spread(now) : now;
            caught[day] = Part.NONE;
            for (int h = 0; h < size; h++) {
                if ((looked(row, day) >> h & 1) == 1) {
                    caught[day] = caught[day].plus(now[h]);
                    now[h] = Part.NONE;
                }
            }
        }
        return new Part[][] {caught, now};
    }

    private static Part sum(Part[] parts) {
        Part sum = Part.NONE;
        for (Part p : parts) {
            sum = sum.plus(p);
        }
        return sum;
    }

    long likely(int shelf, int hm, int part) {
        if (hm < 0 || !isHole(hm / 100) || !mayFollow(shelf, hm % 100, part)) {
            return LEAST;
        }
        if (openWeight() == 0) {
            return NOT;
        }
        Part[] now = follow((byte[]) shelves[shelf], hm % 100)[1];
        return sum(now).isNone() ? NOT : now[hm / 100].by(sum(now)).part(part);
    }

    long luck(int shelf, int m, int part) {
        if (!mayFollow(shelf, m, part)) {
            return LEAST;
        }
        return openWeight() == 0 ? NOT : sum(follow((byte[]) shelves[shelf], m)[0]).part(part);
    }

    long mean(int shelf, int m, int part) {
        if (!mayFollow(shelf, m, part)) {
            return LEAST;
        }
        if (openWeight() == 0) {
            return NOT;
        }
        Part[] caught = follow((byte[]) shelves[shelf], m)[0];
        Part all = Part.NONE;
        for (int day = 0; day < m; day++) {
            all = all.plus(caught[day].times(Part.of(day + 1, 1)));
        }
        return sum(caught).isNone() ? NOT : all.by(sum(caught)).part(part);
    }

    long luckiest(int m, int k) {
        if (m < 1 || m > 4 || k < -2 || k >= m) {
            return LEAST;
        }
        if (openWeight() == 0) {
            return NOT;
        }
        int wasLookers = lookers;
        int wasSleep = sleep;
        lookers = 1;
        sleep = 0;
        byte[] row = new byte[m];
        byte[] best = null;
        Part most = Part.NONE;
        int rows = (int) Math.pow(size, m);
        for (int i = 0; i < rows; i++) {
            int rest = i;
            for (int day = m - 1; day >= 0; day--) {
                row[day] = (byte) (rest % size);
                rest /= size;
            }
            Part now = sum(follow(row, m)[0]);
            if (best == null || now.isMoreThan(most)) {
                best = row.clone();
                most = now;
            }
        }
        lookers = wasLookers;
        sleep = wasSleep;
        return k < 0 ? most.part(-1 - k) : best[k];
    }

    private static int draw(int[] z, int n) {
        z[0] = z[0] * 1103515245 + 12345;
        return (z[0] >>> 8) % n;
    }

    private int drawHole(int[] z) {
        List<Integer> all = new ArrayList<>();
        for (int h = 0; h < size; h++) {
            for (int i = 0; i < weight[h] && isOpen(h); i++) {
                all.add(h);
            }
        }
        return all.get(draw(z, all.size()));
    }

    private int drawNight(int[] z, int fox) {
        int set = goes(fox);
        return set == 0 ? fox : bit(set, draw(z, Integer.bitCount(set)));
    }

    int drawn(int shelf, int seed, int nm, int what) {
        int n = nm / 100;
        int m = nm % 100;
        if (shelf < 0 || shelf > 5 || nm < 0 || n < 1 || n > 60 || m < 1 || m > 30 || what < 0 || what > 1) {
            return BAD;
        }
        int refusal = refusal(shelf, byte[].class);
        if (refusal != 0 || openWeight() == 0) {
            return refusal != 0 ? refusal : STATE;
        }
        int[] z = {seed};
        int[] sums = {0, 0};
        for (int i = 0; i < n; i++) {
            int fox = drawHole(z);
            int day = 0;
            while (day < m && (looked((byte[]) shelves[shelf], day) >> fox & 1) == 0) {
                day++;
                fox = day < m ? drawNight(z, fox) : fox;
            }
            sums[0] += day < m ? 1 : 0;
            sums[1] += day < m ? day + 1 : 0;
        }
        return sums[what];
    }

    int hide(int seed) {
        if (openWeight() == 0) {
            return STATE;
        }
        int[] z = {seed};
        deed[0] = 1;
        deed[1] = drawHole(z);
        deed[2] = z[0];
        deed[3] = 0;
        deed[4] = open();
        return open();
    }

    int look(int ab) {
        if (ab < 0 || !isHole(ab / 10) || !isHole(ab % 10)) {
            return BAD;
        }
        if (deed[0] == 0) {
            return STATE;
        }
        int set = 1 << ab / 10 | (lookers == 2 ? 1 << ab % 10 : 0);
        set = (sleep >> deed[3] % 7 & 1) == 1 ? 0 : set;
        if ((set >> deed[1] & 1) == 1) {
            deed[0] = 0;
            deed[5]++;
            return 1;
        }
        for (int h = 0; h < 10; h++) {
            deed[6 + h] += set >> h & 1;
        }
        deed[4] = night(nexts(), deed[4] & ~set);
        int[] z = {deed[2]};
        deed[1] = drawNight(z, deed[1]);
        deed[2] = z[0];
        deed[3]++;
        return 0;
    }

    int image() {
        image = deed.clone();
        return deed[0] == 1 ? deed[3] : NOT;
    }

    int back() {
        if (image == null) {
            return STATE;
        }
        deed = image.clone();
        return deed[0] == 1 ? deed[3] : NOT;
    }

    int body(int kind) {
        if (kind < 0 || kind > 7) {
            return BAD;
        }
        if (bodies.size() == 50) {
            return FULL;
        }
        bodies.add(HoleKind.of(kind, bodies.size(), ran));
        return bodies.size() - 1;
    }

    int act(int body, int act, int x) {
        ran.clear();
        if (body < 0 || body >= bodies.size() || act < 0 || act > 3) {
            return 0;
        }
        HoleKind hole = bodies.get(body);
        return act == 0 ? hole.hides(x) : act == 1 ? hole.looks(x) : act == 2 ? hole.goes(x) : hole.tells(x);
    }

    int trace(int i) {
        return i < 0 || i >= ran.size() || i >= 24 ? BAD : ran.get(i);
    }

    int keep(int shelf, int body) {
        if (shelf < 0 || shelf > 5 || body < -1 || body >= bodies.size()) {
            return BAD;
        }
        shelves[shelf] = body < 0 ? null : bodies.get(body);
        return 1;
    }

    int row(int shelf, int sort, int n) {
        if (shelf < 0 || shelf > 5 || sort < 0 || sort > 4 || n > 60) {
            return BAD;
        }
        if (n < 0) {
            return -14;
        }
        shelves[shelf] = sort == 0 ? new byte[n] : sort == 1 ? new short[n] : sort == 2 ? new int[n] : sort == 3 ? new long[n]
            : (Object) new boolean[n];
        return 1;
    }

    int put(int shelf, int i, long v) {
        if (shelf < 0 || shelf > 5) {
            return BAD;
        }
        Object row = shelves[shelf];
        if (row == null || row instanceof HoleKind) {
            return row == null ? -11 : -12;
        }
        try {
            if (row instanceof byte[]) {
                ((byte[]) row)[i] = (byte) v;
            } else if (row instanceof short[]) {
                ((short[]) row)[i] = (short) v;
            } else if (row instanceof int[]) {
                ((int[]) row)[i] = (int) v;
            } else if (row instanceof long[]) {
                ((long[]) row)[i] = v;
            } else {
                ((boolean[]) row)[i] = v != 0;
            }
        } catch (ArrayIndexOutOfBoundsException e) {
            return -13;
        }
        return 1;
    }

    long element(int shelf, int i) {
        if (shelf < 0 || shelf > 5) {
            return LEAST;
        }
        Object row = shelves[shelf];
        if (row == null || row instanceof HoleKind || i < 0 || i >= java.lang.reflect.Array.getLength(row)) {
            return LEAST;
        }
        if (row instanceof boolean[]) {
            return ((boolean[]) row)[i] ? 1 : 0;
        }
        return java.lang.reflect.Array.getLong(row, i);
    }

    int shift(int shelf, int i, int other, int j, int n) {
        if (shelf < 0 || shelf > 5 || other < 0 || other > 5) {
            return BAD;
        }
        try {
            System.arraycopy(shelves[shelf], i, shelves[other], j, n);
            return n;
        } catch (NullPointerException e) {
            return -11;
        } catch (ArrayStoreException e) {
            return -12;
        } catch (IndexOutOfBoundsException e) {
            return -13;
        }
    }

    int taken(int shelf, int k) {
        if (shelf < 0 || shelf > 5 || k < 0 || k > 7) {
            return BAD;
        }
        if (shelves[shelf] == null) {
            return -11;
        }
        if (!HoleKind.KINDS[k].isInstance(shelves[shelf])) {
            return -12;
        }
        return Arrays.asList(HoleKind.KINDS).indexOf(shelves[shelf].getClass());
    }

    int count(int what) {
        if (what < 0 || what > 6) {
            return BAD;
        }
        return new int[] {size, paths.size(), Integer.bitCount(open()), tape.length(), done.size(), bodies.size(), ran.size()}[what];
    }
}
