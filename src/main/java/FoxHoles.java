/**
 * A fox in one of at most ten holes that goes on each night by a law, and those who look for it each morning.
 *
 * <p>Every row that a call needs is made with the object and used again, so that calls make nothing.
 */
public final class FoxHoles {
    public static final int BAD = -1, NOT = -2, FULL = -3, STATE = -5, VOID = -2000000000;

    private static final int NOTHING_THERE = -11, OTHER_KIND = -12, NO_PLACE = -13, SIZE_BELOW_0 = -14;
    private static final int HOLES = 10, PATHS = 20, PATHS_OF_A_HOLE = 4, WEEK = 7;
    private static final int SHELVES = 6, ELEMENTS = 60, BYTES = 0, SHORTS = 1, SORTS = 5;
    private static final int WEIGHT = 0, STOPPED = 1, LOOKERS = 2, SLEEP = 3;
    private static final int MOST_FOXES = 60, MOST_DRAWN_MORNINGS = 30;
    private static final int MOST_CHANCE_MORNINGS = 12, MOST_LUCKIEST = 4, MOST_TO_STOP = 40;

    private final Law text = new Law();
    private final Warren warren = new Warren(text);
    private final Changes changes = new Changes(warren);
    private final Looks looks = new Looks(warren);
    private final Hunt hunt = new Hunt(warren);
    private final Ground ground = new Ground(warren);
    private final Chance chance = new Chance(warren, looks);
    private final Dice dice = new Dice(warren);
    private final Deed deed = new Deed(warren);
    private final Deed picture = new Deed(warren);
    private boolean pictured;
    private final Bodies bodies = new Bodies();
    private final Shelf[] shelves = new Shelf[SHELVES];

    public FoxHoles() {
        for (int i = 0; i < SHELVES; i++) {
            shelves[i] = new Shelf();
        }
    }

    // ---- holes, paths

    public int hole(int weight) {
        if (!warren.isWeight(weight)) {
            return BAD;
        }
        int number = warren.addHole(weight);
        warren.settle();
        return number;
    }

    public int holes(int shelf, int i, int n) {
        Shelf from = shelfAt(shelf);
        if (from == null || n < 1 || n > HOLES) {
            return BAD;
        }
        if (from.isEmpty()) {
            return 0;
        }
        if (!from.isRowOf(BYTES)) {
            return OTHER_KIND;
        }
        int came = warren.addHoles(from, i, n);
        warren.settle();
        return came;
    }

    public int path(int ab) {
        if (!areTwoHoles(ab) || ab / 10 == ab % 10) {
            return BAD;
        }
        int answer = warren.addPath(ab / 10, ab % 10);
        warren.settle();
        return answer;
    }

    public int mend(int number, int what, int v) {
        if (!warren.mayBecome(number, what, v)) {
            return BAD;
        }
        int was = warren.told(number, what);
        if (was != v) {
            changes.note(number, what, was, v);
            warren.become(number, what, v);
            warren.settle();
        }
        return was;
    }

    public int of(int number, int what) {
        if (what >= 0 && what <= 4) {
            return warren.isHole(number) ? ofHole(number, what) : VOID;
        }
        return number == 0 ? ofAll(what) : VOID;
    }

    private int ofHole(int number, int what) {
        switch (what) {
            case 2:
                return warren.pathsOf(number);
            case 3:
                return warren.mayGo(number);
            case 4:
                return deed.vainIn(number);
            default:
                return warren.told(number, what);
        }
    }

    private int ofAll(int what) {
        switch (what) {
            case 10:
                return warren.lookers;
            case 11:
                return warren.sleep;
            case 12:
                return deed.day;
            case 13:
                return deed.hidden ? deed.where : STATE;
            case 14:
                return deed.foxes;
            default:
                return VOID;
        }
    }

    public int feed(int letter) {
        if (letter < 0 || letter > 255) {
            return BAD;
        }
        return text.write(letter);
    }

    public int law() {
        int answer = text.read();
        if (answer == 1) {
            warren.changed();
            warren.settle();
        }
        return answer;
    }

    // ---- looks told

    public int mayBe(int shelf, int k) {
        Shelf told = shelfAt(shelf);
        if (told == null || k < 0) {
            return BAD;
        }
        int refusal = refusalOf(told);
        if (refusal != 0) {
            return refusal;
        }
        return k > looks.mornings(told) ? BAD : looks.behind(told, null, k);
    }

    public int caught(int shelf) {
        Shelf told = shelfAt(shelf);
        if (told == null) {
            return BAD;
        }
        int refusal = refusalOf(told);
        return refusal != 0 ? refusal : looks.emptied(told);
    }

    public int printed(int lp, int k) {
        int refusal = refusalOfPrints(lp, k, 0);
        return refusal != 0 ? refusal : looks.behind(shelves[lp / 10], shelves[lp % 10], k);
    }

    public int ahead(int lp, int k) {
        int refusal = refusalOfPrints(lp, k, 1);
        return refusal != 0 ? refusal : looks.before(shelves[lp / 10], shelves[lp % 10], k);
    }

    /** 0: both shelves are as they must be, and k is a morning of the looks, least or later. */
    private int refusalOfPrints(int lp, int k, int least) {
        if (!areTwoShelves(lp) || k < least) {
            return BAD;
        }
        Shelf told = shelves[lp / 10];
        int refusal = refusalOfBoth(told, shelves[lp % 10], SHORTS);
        if (refusal != 0) {
            return refusal;
        }
        return k > looks.mornings(told) ? BAD : 0;
    }

    public int judge(int lw) {
        if (!areTwoShelves(lw)) {
            return BAD;
        }
        Shelf told = shelves[lw / 10];
        Shelf way = shelves[lw % 10];
        int refusal = refusalOfBoth(told, way, BYTES);
        return refusal != 0 ? refusal : looks.firstWrong(told, way);
    }

    // ---- surely

    public int sure(int k) {
        if (k < -1) {
            return BAD;
        }
        int mornings = hunt.mornings();
        return k == -1 ? mornings : hunt.lookAt(k);
    }

    public int sureFrom(int set, int t) {
        if (!warren.areHoles(set) || t < 0 || t >= WEEK) {
            return BAD;
        }
        return hunt.morningsFrom(set, t);
    }

    public int ring() {
        return ground.hasRing() ? 1 : 0;
    }

    public int arms() {
        return ground.centres();
    }

    public int toStop(int m) {
        if (m < 1 || m > MOST_TO_STOP) {
            return BAD;
        }
        return hunt.fewestStops(m);
    }

    public int dogs(int hole) {
        return warren.isOpen(hole) ? ground.nightsTo(hole) : BAD;
    }

    public int kept(int set) {
        return warren.areHoles(set) ? ground.everWithout(set) : BAD;
    }

    // ---- at random

    public long likely(int shelf, int hm, int part) {
        if (hm < 0 || !warren.isHole(hm / 100) || !mayFollow(shelf, hm % 100, part)) {
            return Long.MIN_VALUE;
        }
        chance.follow(shelves[shelf], hm % 100);
        return chance.likelyIn(hm / 100, part);
    }

    public long luck(int shelf, int m, int part) {
        if (!mayFollow(shelf, m, part)) {
            return Long.MIN_VALUE;
        }
        chance.follow(shelves[shelf], m);
        return chance.share(part);
    }

    public long mean(int shelf, int m, int part) {
        if (!mayFollow(shelf, m, part)) {
            return Long.MIN_VALUE;
        }
        chance.follow(shelves[shelf], m);
        return chance.meanMorning(part);
    }

    public long luckiest(int m, int k) {
        if (m < 1 || m > MOST_LUCKIEST || k < -2 || k >= m) {
            return Long.MIN_VALUE;
        }
        return chance.ofBestRow(m, k);
    }

    public int drawn(int shelf, int seed, int nm, int what) {
        Shelf told = shelfAt(shelf);
        if (told == null || !isDrawing(nm) || what < 0 || what > 1) {
            return BAD;
        }
        int refusal = refusalOf(told);
        if (refusal != 0) {
            return refusal;
        }
        if (warren.openWeight() == 0) {
            return STATE;
        }
        dice.seed(seed);
        return drawFoxes(told, nm / 100, nm % 100, what);
    }

    private boolean isDrawing(int nm) {
        if (nm < 0) {
            return false;
        }
        int foxes = nm / 100;
        int mornings = nm % 100;
        return foxes >= 1 && foxes <= MOST_FOXES && mornings >= 1 && mornings <= MOST_DRAWN_MORNINGS;
    }

    private int drawFoxes(Shelf told, int foxes, int mornings, int what) {
        int sum = 0;
        for (int i = 0; i < foxes; i++) {
            int morning = drawFox(told, mornings);
            if (morning > 0) {
                sum += what == 0 ? 1 : morning;
            }
        }
        return sum;
    }

    /** The morning (from 1) on which a drawn fox is caught; 0: on none. */
    private int drawFox(Shelf told, int mornings) {
        int fox = dice.begin();
        for (int day = 0; day < mornings; day++) {
            if (day > 0) {
                fox = dice.night(fox);
            }
            if ((looks.lookedInto(told, day) >> fox & 1) == 1) {
                return day + 1;
            }
        }
        return 0;
    }

    // ---- in deed

    public int hide(int seed) {
        if (warren.openWeight() == 0) {
            return STATE;
        }
        deed.begin(seed);
        return deed.where;
    }

    public int look(int ab) {
        if (!areTwoHoles(ab)) {
            return BAD;
        }
        if (!deed.hidden) {
            return STATE;
        }
        int set = 1 << ab / 10;
        if (warren.lookers == 2) {
            set |= 1 << ab % 10;
        }
        return deed.morning(set) ? 1 : 0;
    }

    public int image() {
        picture.copy(deed);
        pictured = true;
        return deed.dayIfHidden();
    }

    public int back() {
        if (!pictured) {
            return STATE;
        }
        deed.copy(picture);
        return deed.dayIfHidden();
    }

    public int undo() {
        int answer = changes.takeBack();
        warren.settle();
        return answer;
    }

    public int redo() {
        int answer = changes.doAgain();
        warren.settle();
        return answer;
    }

    // ---- acts, shelves

    public int body(int kind) {
        return bodies.isKind(kind) ? bodies.add(kind) : BAD;
    }

    public int act(int body, int act, int x) {
        return bodies.perform(body, act, x);
    }

    public int trace(int i) {
        return bodies.ranAt(i);
    }

    public int keep(int shelf, int body) {
        Shelf holder = shelfAt(shelf);
        if (holder == null || (body != -1 && !bodies.isBody(body))) {
            return BAD;
        }
        if (body == -1) {
            holder.clear();
        } else {
            holder.holdBody(body);
        }
        return 1;
    }

    public int row(int shelf, int sort, int n) {
        Shelf holder = shelfAt(shelf);
        if (holder == null || sort < 0 || sort >= SORTS || n > ELEMENTS) {
            return BAD;
        }
        if (n < 0) {
            return SIZE_BELOW_0;
        }
        holder.holdRow(sort, n);
        return 1;
    }

    public int put(int shelf, int i, long v) {
        Shelf holder = shelfAt(shelf);
        if (holder == null) {
            return BAD;
        }
        int refusal = refusalOfPlace(holder, i);
        if (refusal != 0) {
            return refusal;
        }
        holder.write(i, v);
        return 1;
    }

    public long element(int shelf, int i) {
        Shelf holder = shelfAt(shelf);
        if (holder == null || refusalOfPlace(holder, i) != 0) {
            return Long.MIN_VALUE;
        }
        return holder.at(i);
    }

    public int shift(int shelf, int i, int other, int j, int n) {
        Shelf from = shelfAt(shelf);
        Shelf to = shelfAt(other);
        if (from == null || to == null) {
            return BAD;
        }
        if (from.isEmpty() || to.isEmpty()) {
            return NOTHING_THERE;
        }
        if (!from.isRow() || !to.isRowOf(from.sort)) {
            return OTHER_KIND;
        }
        if (!from.hasPlaces(i, n) || !to.hasPlaces(j, n)) {
            return NO_PLACE;
        }
        System.arraycopy(from.cells, i, to.cells, j, n);
        return n;
    }

    public int taken(int shelf, int k) {
        Shelf holder = shelfAt(shelf);
        if (holder == null || !bodies.isKind(k)) {
            return BAD;
        }
        if (holder.isEmpty()) {
            return NOTHING_THERE;
        }
        if (holder.isRow() || !bodies.isOfKind(holder.bodyHeld, k)) {
            return OTHER_KIND;
        }
        return bodies.kindOf(holder.bodyHeld);
    }

    public int count(int what) {
        switch (what) {
            case 0:
                return warren.size;
            case 1:
                return warren.paths;
            case 2:
                return Integer.bitCount(warren.openOnes());
            case 3:
                return text.tapeSize;
            case 4:
                return changes.done;
            case 5:
                return bodies.size;
            case 6:
                return bodies.ranSize;
            default:
                return BAD;
        }
    }

    // ---- what several calls ask

    /** The shelf of that number; null: there is none. */
    private Shelf shelfAt(int number) {
        return number >= 0 && number < SHELVES ? shelves[number] : null;
    }

    private static boolean areTwoShelves(int ab) {
        return ab >= 0 && ab / 10 < SHELVES && ab % 10 < SHELVES;
    }

    private boolean areTwoHoles(int ab) {
        return ab >= 0 && warren.isHole(ab / 10) && warren.isHole(ab % 10);
    }

    private static int refusalOf(Shelf told) {
        if (told.isEmpty()) {
            return NOTHING_THERE;
        }
        return told.isRowOf(BYTES) ? 0 : OTHER_KIND;
    }

    private static int refusalOfBoth(Shelf told, Shelf other, int sort) {
        if (told.isEmpty() || other.isEmpty()) {
            return NOTHING_THERE;
        }
        return told.isRowOf(BYTES) && other.isRowOf(sort) ? 0 : OTHER_KIND;
    }

    private static int refusalOfPlace(Shelf holder, int i) {
        if (holder.isEmpty()) {
            return NOTHING_THERE;
        }
        if (!holder.isRow()) {
            return OTHER_KIND;
        }
        return holder.hasPlaces(i, 1) ? 0 : NO_PLACE;
    }

    private boolean mayFollow(int shelf, int m, int part) {
        Shelf told = shelfAt(shelf);
        if (told == null || !told.isRowOf(BYTES) || part < 0 || part > 1) {
            return false;
        }
        return m >= 0 && m <= MOST_CHANCE_MORNINGS && m <= looks.mornings(told);
    }

    /** What a shelf holds; its cells are used again for each row. */
    private static final class Shelf {
        private static final int NOTHING = 0, BODY = 1, ROW = 2;

        final long[] cells = new long[ELEMENTS];
        int holds;
        int bodyHeld;
        int sort;
        int length;

        Shelf() {
        }

        void clear() {
            holds = NOTHING;
        }

        void holdBody(int number) {
            holds = BODY;
            bodyHeld = number;
        }

        void holdRow(int newSort, int n) {
            holds = ROW;
            sort = newSort;
            length = n;
            for (int i = 0; i < ELEMENTS; i++) {
                cells[i] = 0;
            }
        }

        boolean isEmpty() {
            return holds == NOTHING;
        }

        boolean isRow() {
            return holds == ROW;
        }

        boolean isRowOf(int wanted) {
            return holds == ROW && sort == wanted;
        }

        boolean hasPlaces(int i, int n) {
            return i >= 0 && n >= 0 && i <= length && n <= length - i;
        }

        void write(int i, long v) {
            if (hasPlaces(i, 1)) {
                cells[i] = cut(v);
            }
        }

        long at(int i) {
            return hasPlaces(i, 1) ? cells[i] : 0;
        }

        private long cut(long v) {
            switch (sort) {
                case 0:
                    return (byte) v;
                case 1:
                    return (short) v;
                case 2:
                    return (int) v;
                case 3:
                    return v;
                default:
                    return v != 0 ? 1 : 0;
            }
        }
    }

    /** The text on the tape, and the law that was read from one. */
    private static final class Law {
        private static final int TAPE = 120, CODE = 256, STACK = 128;
        private static final int MOST_OPEN = 6, MOST_DIGITS = 4;
        private static final int COMPARING = 2, TIGHTEST = 4;
        private static final int MINUS = -'~', IF = -'?', LINE_END = -';';

        final int[] tape = new int[TAPE];
        int tapeSize;
        private final int[] draft = new int[CODE];
        private int draftSize;
        private int place;
        private boolean faulty;
        /** Postfix: a number stands for itself, all else is a sign's number below 0. */
        private final int[] code = new int[CODE];
        private int codeSize;
        private final int[] stack = new int[STACK];
        private int top;

        Law() {
        }

        int write(int letter) {
            if (tapeSize >= TAPE) {
                return FULL;
            }
            tape[tapeSize++] = letter;
            return tapeSize;
        }

        /** 1, or -100 less the fault; a faulty text leaves the law as it was. */
        int read() {
            place = 0;
            draftSize = 0;
            faulty = false;
            readLines();
            tapeSize = 0;
            if (faulty) {
                return -100 - place;
            }
            System.arraycopy(draft, 0, code, 0, draftSize);
            codeSize = draftSize;
            return 1;
        }

        private void readLines() {
            for (int lines = 0; lines <= TAPE && !faulty; lines++) {
                readLine();
                if (faulty || place == tapeSize) {
                    return;
                }
                expect(';');
            }
        }

        private void readLine() {
            readChain(0, 0);
            int jump = -1;
            if (!faulty && here() == '?') {
                place++;
                emit(IF);
                jump = draftSize;
                emit(0);
                readChain(0, 0);
            }
            emit(LINE_END);
            if (jump >= 0 && jump < CODE) {
                draft[jump] = draftSize;
            }
        }

        /** Operands joined by the signs of one level; level 0 joins loosest, open counts signs not yet closed. */
        private void readChain(int level, int open) {
            if (level > TIGHTEST) {
                readOperand(open);
                return;
            }
            readChain(level + 1, open);
            for (int i = 0; i < TAPE && !faulty && joins(level, here()); i++) {
                int sign = here();
                place++;
                readChain(level + 1, open);
                emit(-sign);
                if (level == COMPARING) {
                    return;
                }
            }
        }

        private void readOperand(int open) {
            int sign = here();
            if (isDigit(sign)) {
                readNumber();
            } else if (isName(sign)) {
                place++;
                emit(-sign);
            } else if (open < MOST_OPEN && (sign == '!' || sign == '-')) {
                place++;
                readOperand(open + 1);
                emit(sign == '!' ? -'!' : MINUS);
            } else if (open < MOST_OPEN && sign == '(') {
                place++;
                readChain(0, open + 1);
                expect(')');
            } else {
                faulty = true;
            }
        }

        private void readNumber() {
            int value = 0;
            for (int i = 0; i < MOST_DIGITS && isDigit(here()); i++) {
                value = value * 10 + here() - '0';
                place++;
            }
            emit(value);
        }

        private void expect(int sign) {
            if (faulty) {
                return;
            }
            if (here() == sign) {
                place++;
            } else {
                faulty = true;
            }
        }

        /** The byte at the place that is read; -1 behind the end. */
        private int here() {
            return place >= 0 && place < tapeSize ? tape[place] : -1;
        }

        private void emit(int sign) {
            if (draftSize < CODE) {
                draft[draftSize++] = sign;
            }
        }

        private static boolean isDigit(int sign) {
            return sign >= '0' && sign <= '9';
        }

        private static boolean isName(int sign) {
            return sign == 'a' || sign == 'b' || sign == 'p' || sign == 'w' || sign == 'n';
        }

        private static boolean joins(int level, int sign) {
            switch (sign) {
                case '|':
                    return level == 0;
                case '&':
                    return level == 1;
                case '<':
                case '=':
                case '>':
                    return level == COMPARING;
                case '+':
                case '-':
                    return level == 3;
                case '*':
                case '/':
                case '%':
                    return level == TIGHTEST;
                default:
                    return false;
            }
        }

        /** What the law gives for a way from a to b. */
        int worth(int a, int b, int joined, int weight, int size) {
            if (codeSize == 0) {
                return joined;
            }
            top = 0;
            for (int i = 0, steps = 0; i < codeSize && steps < CODE; i++, steps++) {
                int sign = code[i];
                if (sign == LINE_END) {
                    return pop();
                }
                if (sign == IF) {
                    i = pop() != 0 ? i + 1 : behindLine(i);
                } else if (sign >= 0) {
                    push(sign);
                } else if (isName(-sign)) {
                    push(named(-sign, a, b, joined, weight, size));
                } else {
                    apply(sign);
                }
            }
            return 0;
        }

        /** The last cell of the line whose condition ends at i. */
        private int behindLine(int i) {
            return i + 1 < codeSize ? Math.max(i + 1, code[i + 1] - 1) : i + 1;
        }

        private static int named(int sign, int a, int b, int joined, int weight, int size) {
            switch (sign) {
                case 'a':
                    return a;
                case 'b':
                    return b;
                case 'p':
                    return joined;
                case 'w':
                    return weight;
                default:
                    return size;
            }
        }

        private void apply(int sign) {
            int y = pop();
            if (sign == -'!') {
                push(y == 0 ? 1 : 0);
            } else if (sign == MINUS) {
                push(-y);
            } else {
                push(joinedBy(-sign, pop(), y));
            }
        }

        private static int joinedBy(int sign, int x, int y) {
            switch (sign) {
                case '+':
                    return x + y;
                case '-':
                    return x - y;
                case '*':
                    return x * y;
                case '/':
                    return y == 0 ? 0 : x / y;
                case '%':
                    return y == 0 ? 0 : x % y;
                default:
                    return holds(sign, x, y) ? 1 : 0;
            }
        }

        private static boolean holds(int sign, int x, int y) {
            switch (sign) {
                case '|':
                    return x != 0 || y != 0;
                case '&':
                    return x != 0 && y != 0;
                case '<':
                    return x < y;
                case '=':
                    return x == y;
                default:
                    return x > y;
            }
        }

        private void push(int v) {
            if (top < STACK) {
                stack[top++] = v;
            }
        }

        private int pop() {
            if (top <= 0) {
                return 0;
            }
            top--;
            return stack[top];
        }
    }

    /** Holes, paths, who looks and when; and where the law leads. */
    private static final class Warren {
        private final Law text;
        private final int[] weights = new int[HOLES];
        private final int[] joined = new int[HOLES];
        /** By the law alone, whatever is stopped: kept, for a text is dear to work out. */
        private final int[] lawful = new int[HOLES];
        private boolean lawfulIsOld;
        private int stopped;
        int size;
        int paths;
        int lookers = 1;
        int sleep;
        /** Grows with each change, so that what was worked out before can be told to be old. */
        int version;

        Warren(Law text) {
            this.text = text;
        }

        void changed() {
            lawfulIsOld = true;
            version++;
        }

        boolean isHole(int number) {
            return number >= 0 && number < size;
        }

        boolean isOpen(int number) {
            return isHole(number) && (stopped >> number & 1) == 0;
        }

        boolean areHoles(int set) {
            return set >= 0 && set >> size == 0;
        }

        boolean isWeight(int v) {
            return v >= 0 && v <= 9;
        }

        int openOnes() {
            return (1 << size) - 1 & ~stopped;
        }

        int addHole(int weight) {
            if (size >= HOLES) {
                return FULL;
            }
            weights[size++] = weight;
            changed();
            return size - 1;
        }

        int addHoles(Shelf from, int i, int n) {
            int came = 0;
            for (int k = 0; k < n; k++) {
                if (!from.hasPlaces(i, k + 1) || size >= HOLES) {
                    return came;
                }
                int weight = (int) from.at(i + k);
                if (!isWeight(weight)) {
                    return came;
                }
                addHole(weight);
                came++;
            }
            return came;
        }

        int addPath(int a, int b) {
            if (!isHole(a) || !isHole(b) || (joined[a] >> b & 1) == 1) {
                return BAD;
            }
            if (paths >= PATHS || pathsOf(a) >= PATHS_OF_A_HOLE || pathsOf(b) >= PATHS_OF_A_HOLE) {
                return FULL;
            }
            joined[a] |= 1 << b;
            joined[b] |= 1 << a;
            paths++;
            changed();
            return paths;
        }

        int pathsOf(int number) {
            return isHole(number) ? Integer.bitCount(joined[number]) : 0;
        }

        boolean mayBecome(int number, int what, int v) {
            switch (what) {
                case WEIGHT:
                    return isHole(number) && isWeight(v);
                case STOPPED:
                    return isHole(number) && (v == 0 || v == 1);
                case LOOKERS:
                    return number == 0 && (v == 1 || v == 2);
                case SLEEP:
                    return number == 0 && v >= 0 && v < 1 << WEEK;
                default:
                    return false;
            }
        }

        int told(int number, int what) {
            switch (what) {
                case WEIGHT:
                    return isHole(number) ? weights[number] : 0;
                case STOPPED:
                    return isHole(number) ? stopped >> number & 1 : 0;
                case LOOKERS:
                    return lookers;
                default:
                    return sleep;
            }
        }

        void become(int number, int what, int v) {
            if (!mayBecome(number, what, v)) {
                return;
            }
            switch (what) {
                case WEIGHT:
                    weights[number] = v;
                    break;
                case STOPPED:
                    stopped = stopped & ~(1 << number) | v << number;
                    break;
                case LOOKERS:
                    lookers = v;
                    break;
                default:
                    sleep = v;
                    break;
            }
            lawfulIsOld |= what == WEIGHT;
            version++;
        }

        boolean sleepsOn(int day) {
            return day >= 0 && (sleep >> day % WEEK & 1) == 1;
        }

        int weightIfOpen(int number) {
            return isOpen(number) ? weights[number] : 0;
        }

        int openWeight() {
            int open = openOnes();
            int sum = 0;
            for (int h = 0; h < size; h++) {
                sum += (open >> h & 1) == 1 ? weights[h] : 0;
            }
            return sum;
        }

        /** Open holes at the other ends of a hole's paths. */
        int openNear(int number) {
            return isOpen(number) ? joined[number] & openOnes() : 0;
        }

        /** Open holes to which the law lets it go; 0: nowhere. */
        int mayGo(int number) {
            return isOpen(number) ? lawfulFrom(number) & openOnes() : 0;
        }

        /** Where it is behind a night: with nowhere to go it stays. */
        int next(int number) {
            int set = mayGo(number);
            return set != 0 ? set : 1 << number;
        }

        int night(int set) {
            int reached = 0;
            for (int h = 0; h < size; h++) {
                if ((set >> h & 1) == 1) {
                    reached |= next(h);
                }
            }
            return reached;
        }

        /** Those of a set from which the night may lead into another set. */
        int leadingInto(int set, int goal) {
            int leading = 0;
            for (int h = 0; h < size; h++) {
                if ((set >> h & 1) == 1 && (next(h) & goal) != 0) {
                    leading |= 1 << h;
                }
            }
            return leading;
        }

        int lawfulFrom(int number) {
            return isHole(number) ? lawful[number] : 0;
        }

        /** Works the law out anew; due at the end of each call that changed what the law may ask for. */
        void settle() {
            if (!lawfulIsOld) {
                return;
            }
            for (int a = 0; a < size; a++) {
                int set = 0;
                for (int b = 0; b < size; b++) {
                    if (text.worth(a, b, joined[a] >> b & 1, weights[b], size) != 0) {
                        set |= 1 << b;
                    }
                }
                lawful[a] = set;
            }
            lawfulIsOld = false;
        }
    }

    /** The latest changes: those ahead of done may be undone, those behind it done again. */
    private static final class Changes {
        private static final int MOST = 40;

        private final Warren warren;
        private final int[] numbers = new int[MOST];
        private final int[] whats = new int[MOST];
        private final int[] befores = new int[MOST];
        private final int[] afters = new int[MOST];
        private int known;
        int done;

        Changes(Warren warren) {
            this.warren = warren;
        }

        void note(int number, int what, int was, int becomes) {
            if (done >= MOST) {
                dropOldest();
            }
            numbers[done] = number;
            whats[done] = what;
            befores[done] = was;
            afters[done] = becomes;
            done++;
            known = done;
        }

        private void dropOldest() {
            for (int i = 1; i < MOST; i++) {
                numbers[i - 1] = numbers[i];
                whats[i - 1] = whats[i];
                befores[i - 1] = befores[i];
                afters[i - 1] = afters[i];
            }
            done = MOST - 1;
        }

        int takeBack() {
            if (done <= 0) {
                return STATE;
            }
            done--;
            warren.become(numbers[done], whats[done], befores[done]);
            return done;
        }

        int doAgain() {
            if (done >= known || done >= MOST) {
                return STATE;
            }
            warren.become(numbers[done], whats[done], afters[done]);
            done++;
            return known - done;
        }
    }

    /** Looks told on a shelf, and what follows from them. */
    private static final class Looks {
        private final Warren warren;
        private final int[] left = new int[ELEMENTS];

        Looks(Warren warren) {
            this.warren = warren;
        }

        int mornings(Shelf told) {
            return warren.lookers == 2 ? (told.length + 1) / 2 : told.length;
        }

        int lookedInto(Shelf told, int day) {
            if (warren.sleepsOn(day)) {
                return 0;
            }
            int set = 0;
            for (int i = 0; i < warren.lookers; i++) {
                set |= holeAt(told, day * warren.lookers + i);
            }
            return set;
        }

        /** As a bit; 0: there is no hole told. */
        private int holeAt(Shelf told, int i) {
            if (!told.hasPlaces(i, 1)) {
                return 0;
            }
            int number = (int) told.at(i);
            return warren.isHole(number) ? 1 << number : 0;
        }

        private static int printAt(Shelf prints, int day) {
            return prints != null && prints.hasPlaces(day, 1) ? (int) prints.at(day) : -1;
        }

        /** Where it may be behind k mornings; without prints, if they are null. */
        int behind(Shelf told, Shelf prints, int k) {
            int set = warren.openOnes();
            for (int day = 0; day < k; day++) {
                if (day > 0) {
                    set = warren.night(set);
                }
                set &= printAt(prints, day) & ~lookedInto(told, day);
            }
            return set;
        }

        int emptied(Shelf told) {
            int set = warren.openOnes();
            int mornings = mornings(told);
            for (int day = 0; day < mornings && set != 0; day++) {
                set &= ~lookedInto(told, day);
                if (set == 0) {
                    return day + 1;
                }
                set = warren.night(set);
            }
            return set == 0 ? 0 : NOT;
        }

        /** Where it can have been ahead of morning k (from 1), if no look of all found it. */
        int before(Shelf told, Shelf prints, int k) {
            int mornings = Math.min(mornings(told), ELEMENTS);
            int set = warren.openOnes();
            for (int day = 0; day < mornings; day++) {
                set &= printAt(prints, day) & ~lookedInto(told, day);
                left[day] = set;
                set = warren.night(set);
            }
            if (k < 1 || k > mornings) {
                return 0;
            }
            set = left[mornings - 1];
            for (int day = mornings - 2; day >= k - 1; day--) {
                set = warren.leadingInto(left[day], set);
            }
            return set;
        }

        int firstWrong(Shelf told, Shelf way) {
            int can = warren.openOnes();
            for (int i = 0; i < way.length; i++) {
                int fox = holeAt(way, i);
                if ((can & fox) == 0) {
                    return i;
                }
                can = warren.night(fox & ~lookedInto(told, i));
            }
            return NOT;
        }
    }

    /** The fewest mornings by which it is surely caught: all sets in which it can be, gone through day by day. */
    private static final class Hunt {
        private static final int SETS = 1 << HOLES, STATES = SETS * WEEK;
        private static final int ACTIONS = 128, NO_LOOK = HOLES, LOOKS = HOLES + 1;
        private static final int HALF = 5, HALF_SETS = 1 << HALF;

        private final Warren warren;
        /** How each state was reached first: 1 more than the state ahead with the looks; 0: not reached. */
        private final int[] trail = new int[STATES];
        private final int[] queue = new int[STATES];
        private int queued;
        /** Where a night leads from a set, by its lower and by its upper half. */
        private final int[] lowNights = new int[HALF_SETS];
        private final int[] highNights = new int[HALF_SETS];
        private int open;
        /** Looks where it cannot be never make a hunt shorter: only the first row may have them. */
        private boolean rowWanted;
        private int end;
        private int found;
        private int foundVersion = -1;

        Hunt(Warren warren) {
            this.warren = warren;
        }

        int mornings() {
            if (foundVersion != warren.version) {
                layOut(warren.openOnes());
                rowWanted = true;
                found = search(open, 0, STATES);
                rowWanted = false;
                foundVersion = warren.version;
            }
            return found;
        }

        int morningsFrom(int set, int day) {
            foundVersion = -1;
            layOut(warren.openOnes());
            return search(set & open, day, STATES);
        }

        /** The k-th look of the first row, once mornings() has found it. */
        int lookAt(int k) {
            boolean two = warren.lookers == 2;
            int morning = two ? k / 2 : k;
            if (k < 0 || morning >= found) {
                return NOT;
            }
            int step = end;
            for (int i = found - 1; i > morning; i--) {
                step = stepInto(step / ACTIONS);
            }
            int action = step % ACTIONS;
            int look = two && k % 2 == 1 ? action % LOOKS : action / LOOKS;
            return look == NO_LOOK ? NOT : look;
        }

        private int stepInto(int state) {
            return state >= 0 && state < STATES ? Math.max(trail[state] - 1, 0) : 0;
        }

        /** Fewer holes are tried first, then those of the least bits. */
        int fewestStops(int m) {
            foundVersion = -1;
            int looks = looksWithin(m);
            int all = warren.openOnes();
            int most = Integer.bitCount(all);
            for (int size = 0; size < most; size++) {
                for (int set = 0; set <= all; set++) {
                    if ((set & ~all) != 0 || Integer.bitCount(set) != size) {
                        continue;
                    }
                    open = all & ~set;
                    if (foxesApart() > looks) {
                        continue;
                    }
                    layOut(open);
                    if (search(open, 0, m) >= 0) {
                        return set;
                    }
                }
            }
            return all;
        }

        private int looksWithin(int mornings) {
            int looks = 0;
            for (int day = 0; day < mornings; day++) {
                looks += warren.sleepsOn(day) ? 0 : warren.lookers;
            }
            return looks;
        }

        /** Foxes that can stay, or change places by twos, for ever: each takes a look of its own to be caught. */
        private int foxesApart() {
            int free = open;
            for (int a = 0; a < HOLES; a++) {
                if ((free >> a & 1) == 0) {
                    continue;
                }
                int next = nextOf(a) & free;
                for (int b = a; b < HOLES; b++) {
                    if ((next >> b & 1) == 1 && (nextOf(b) >> a & 1) == 1) {
                        free &= ~(1 << a | 1 << b);
                        break;
                    }
                }
            }
            return Integer.bitCount(open & ~free);
        }

        /** Makes the nights ready for a warren of which only these holes are open. */
        private void layOut(int openOnes) {
            open = openOnes;
            for (int set = 1; set < HALF_SETS; set++) {
                int lowest = lowestOf(set);
                lowNights[set] = lowNights[set & set - 1] | nextOf(lowest);
                highNights[set] = highNights[set & set - 1] | nextOf(lowest + HALF);
            }
        }

        private static int lowestOf(int set) {
            return Integer.bitCount((set & -set) - 1);
        }

        private int nextOf(int hole) {
            int set = (open >> hole & 1) == 1 ? warren.lawfulFrom(hole) & open : 0;
            return set != 0 ? set : 1 << hole;
        }

        /**
         * Sets come into the queue by the order of the rows of looks that lead to them, so that the way
         * by which a set is reached first is the first of the shortest ones.
         */
        private int search(int from, int day, int limit) {
            if (from == 0) {
                return 0;
            }
            for (int i = 0; i < queued; i++) {
                trail[queue[i]] = 0;
            }
            queued = 0;
            reach(weekday(day) * SETS + from, 0);
            int head = 0;
            for (int morning = 1; morning <= limit && head < queued; morning++) {
                int layer = queued;
                for (; head < layer; head++) {
                    if (goOnFrom(queue[head])) {
                        return morning;
                    }
                }
            }
            return NOT;
        }

        /** Without sleep all days are alike, and one stands for all of them. */
        private int weekday(int day) {
            return warren.sleep == 0 ? 0 : day % WEEK;
        }

        /** Tries all looks of a morning; true: one leaves nowhere to be. */
        private boolean goOnFrom(int state) {
            int day = state / SETS;
            int base = weekday(day + 1) * SETS;
            int set = state % SETS;
            int step = state * ACTIONS;
            if (warren.sleepsOn(day)) {
                return tryLooks(set, base, step + NO_LOOK * LOOKS + NO_LOOK);
            }
            int choice = rowWanted ? open : set;
            boolean two = warren.lookers == 2 && Integer.bitCount(choice) > 1;
            for (int a = 0; a < HOLES; a++) {
                if ((choice >> a & 1) == 0) {
                    continue;
                }
                int rest = set & ~(1 << a);
                int by = step + a * LOOKS;
                if (two ? trySecond(choice >> a + 1 << a + 1, rest, base, by) : tryLooks(rest, base, by + NO_LOOK)) {
                    return true;
                }
            }
            return false;
        }

        private boolean trySecond(int choice, int rest, int base, int step) {
            for (int b = 0; b < HOLES; b++) {
                if ((choice >> b & 1) == 1 && tryLooks(rest & ~(1 << b), base, step + b)) {
                    return true;
                }
            }
            return false;
        }

        private boolean tryLooks(int rest, int base, int step) {
            if (rest == 0) {
                end = step;
                return true;
            }
            reach(base + (lowNights[rest & HALF_SETS - 1] | highNights[rest >> HALF & HALF_SETS - 1]), step);
            return false;
        }

        private void reach(int state, int step) {
            if (state >= 0 && state < STATES && trail[state] == 0 && queued < STATES) {
                trail[state] = step + 1;
                queue[queued++] = state;
            }
        }
    }

    /** How holes hang together. */
    private static final class Ground {
        private final Warren warren;

        Ground(Warren warren) {
            this.warren = warren;
        }

        /** Holes with fewer than two ways on are in no ring: what is left without them is rings. */
        boolean hasRing() {
            int left = warren.openOnes();
            for (int round = 0; round < HOLES; round++) {
                for (int h = 0; h < HOLES; h++) {
                    if (Integer.bitCount(warren.openNear(h) & left) < 2) {
                        left &= ~(1 << h);
                    }
                }
            }
            return left != 0;
        }

        int centres() {
            int centres = 0;
            for (int h = 0; h < warren.size; h++) {
                if (warren.isOpen(h) && hasArms(h, 3, 0, 1 << h)) {
                    centres++;
                }
            }
            return centres;
        }

        /** Has it so many arms more, whose first holes are least or greater, beside the used holes? */
        private boolean hasArms(int centre, int arms, int least, int used) {
            if (arms <= 0) {
                return true;
            }
            int near = warren.openNear(centre) & ~used;
            for (int first = least; first < HOLES; first++) {
                if ((near >> first & 1) == 1 && hasArmBy(centre, first, arms, used | 1 << first)) {
                    return true;
                }
            }
            return false;
        }

        private boolean hasArmBy(int centre, int first, int arms, int used) {
            int middles = warren.openNear(first) & ~used;
            for (int second = 0; second < HOLES; second++) {
                if ((middles >> second & 1) == 0) {
                    continue;
                }
                int ends = warren.openNear(second) & ~used;
                for (int third = 0; third < HOLES; third++) {
                    int taking = used | 1 << second | 1 << third;
                    if ((ends >> third & 1) == 1 && hasArms(centre, arms - 1, first + 1, taking)) {
                        return true;
                    }
                }
            }
            return false;
        }

        int nightsTo(int hole) {
            int all = warren.openOnes();
            int reached = 1 << hole;
            for (int nights = 0; nights < HOLES; nights++) {
                if ((all & ~reached) == 0) {
                    return nights;
                }
                reached |= warren.leadingInto(all, reached);
            }
            return NOT;
        }

        int everWithout(int looked) {
            int left = warren.openOnes() & ~looked;
            for (int round = 0; round < HOLES; round++) {
                left = warren.leadingInto(left, left);
            }
            return left;
        }
    }

    /** A fox at random: likelihoods as whole numbers, all to be divided by one number. */
    private static final class Chance {
        /** Each night's shares are twelfths, for one of 1 to 4 paths is taken. */
        private static final int TWELFTHS = 12;
        private static final int MOST_STEPS = 200;

        private final Warren warren;
        private final Looks looks;
        /** Where a night leads from each hole, all alike likely; made ready at the beginning. */
        private final int[] ways = new int[HOLES];
        private final long[][] layers = new long[MOST_LUCKIEST][HOLES];
        private long[] now = new long[HOLES];
        private long[] later = new long[HOLES];
        private long whole;
        private long caughtSoFar;
        private long caughtTimesMorning;
        private final int[] tried = new int[MOST_LUCKIEST];
        private final int[] bestRow = new int[MOST_LUCKIEST];
        private long bestCaught;
        private int bestLength;
        private int bestVersion = -1;

        Chance(Warren warren, Looks looks) {
            this.warren = warren;
            this.looks = looks;
        }

        void follow(Shelf told, int mornings) {
            whole = begin(now);
            caughtSoFar = 0;
            caughtTimesMorning = 0;
            for (int day = 0; day < mornings; day++) {
                if (day > 0) {
                    goOn();
                }
                take(looks.lookedInto(told, day), day + 1);
            }
        }

        private long begin(long[] likelihoods) {
            long sum = 0;
            for (int h = 0; h < HOLES; h++) {
                likelihoods[h] = warren.weightIfOpen(h);
                sum += likelihoods[h];
                int near = warren.openNear(h);
                ways[h] = near != 0 ? near : 1 << h;
            }
            return sum;
        }

        private void take(int looked, int morning) {
            for (int h = 0; h < HOLES; h++) {
                if ((looked >> h & 1) == 1) {
                    caughtSoFar += now[h];
                    caughtTimesMorning += now[h] * morning;
                    now[h] = 0;
                }
            }
        }

        private void goOn() {
            spread(now, later);
            long[] old = now;
            now = later;
            later = old;
            whole *= TWELFTHS;
            caughtSoFar *= TWELFTHS;
            caughtTimesMorning *= TWELFTHS;
        }

        /** A night: all of it becomes twelvefold. */
        private void spread(long[] from, long[] to) {
            for (int h = 0; h < HOLES; h++) {
                to[h] = 0;
            }
            for (int h = 0; h < HOLES; h++) {
                int many = Integer.bitCount(ways[h]);
                if (from[h] == 0 || many == 0) {
                    continue;
                }
                long share = from[h] * (TWELFTHS / many);
                for (int b = 0; b < HOLES; b++) {
                    if ((ways[h] >> b & 1) == 1) {
                        to[b] += share;
                    }
                }
            }
        }

        long likelyIn(int hole, int part) {
            if (hole < 0 || hole >= HOLES) {
                return NOT;
            }
            return partOf(now[hole], whole - caughtSoFar, part);
        }

        long share(int part) {
            return partOf(caughtSoFar, whole, part);
        }

        long meanMorning(int part) {
            return partOf(caughtTimesMorning, caughtSoFar, part);
        }

        /** A part of a fraction in lowest terms; NOT: of nothing. */
        private static long partOf(long above, long below, int part) {
            if (below == 0) {
                return NOT;
            }
            long shared = commonDivisor(above, below);
            if (shared == 0) {
                return NOT;
            }
            return part == 0 ? above / shared : below / shared;
        }

        private static long commonDivisor(long x, long y) {
            long a = x;
            long b = y;
            for (int i = 0; i < MOST_STEPS && b != 0; i++) {
                long rest = a % b;
                a = b;
                b = rest;
            }
            return a;
        }

        /** k -1, -2: how likely the best looks of m mornings catch it; from 0 on: the k-th of them. */
        long ofBestRow(int m, int k) {
            long all = warren.openWeight();
            if (all == 0) {
                return NOT;
            }
            if (bestVersion != warren.version || bestLength != m) {
                bestCaught = -1;
                begin(layers[0]);
                seek(0, m - 1, 0);
                bestVersion = warren.version;
                bestLength = m;
            }
            if (k >= 0) {
                return k < MOST_LUCKIEST ? bestRow[k] : NOT;
            }
            for (int night = 1; night < m; night++) {
                all *= TWELFTHS;
            }
            return partOf(bestCaught, all, -1 - k);
        }

        private void seek(int day, int last, long caughtAhead) {
            if (day < 0 || day >= MOST_LUCKIEST || last >= MOST_LUCKIEST) {
                return;
            }
            long[] layer = layers[day];
            if (day >= last) {
                tried[day] = likeliest(layer);
                offer(caughtAhead + layer[tried[day]]);
                return;
            }
            for (int h = 0; h < warren.size; h++) {
                long there = layer[h];
                tried[day] = h;
                layer[h] = 0;
                spread(layer, layers[day + 1]);
                layer[h] = there;
                seek(day + 1, last, (caughtAhead + there) * TWELFTHS);
            }
        }

        private static int likeliest(long[] layer) {
            int likeliest = 0;
            for (int h = 1; h < HOLES; h++) {
                if (layer[h] > layer[likeliest]) {
                    likeliest = h;
                }
            }
            return likeliest;
        }

        private void offer(long caught) {
            if (caught > bestCaught) {
                bestCaught = caught;
                System.arraycopy(tried, 0, bestRow, 0, MOST_LUCKIEST);
            }
        }
    }

    /** Draws by a seed. */
    private static final class Dice {
        private final Warren warren;
        int z;

        Dice(Warren warren) {
            this.warren = warren;
        }

        void seed(int seed) {
            z = seed;
        }

        private int below(int n) {
            if (n <= 0) {
                return 0;
            }
            z = z * 1103515245 + 12345;
            return (z >>> 8) % n;
        }

        /** By weights of open holes, one of which is not 0. */
        int begin() {
            int rest = below(warren.openWeight());
            for (int h = 0; h < HOLES; h++) {
                rest -= warren.weightIfOpen(h);
                if (rest < 0) {
                    return h;
                }
            }
            return 0;
        }

        /** Where it is behind a night. */
        int night(int fox) {
            int ways = warren.mayGo(fox);
            if (ways == 0) {
                return fox;
            }
            int rest = below(Integer.bitCount(ways));
            for (int h = 0; h < HOLES; h++) {
                rest -= ways >> h & 1;
                if (rest < 0) {
                    return h;
                }
            }
            return fox;
        }
    }

    /** A fox hidden in deed, and what is led of all hunts. */
    private static final class Deed {
        private final Warren warren;
        private final Dice dice;
        private final int[] vain = new int[HOLES];
        private int fox;
        boolean hidden;
        int day;
        int where;
        int foxes;

        Deed(Warren warren) {
            this.warren = warren;
            dice = new Dice(warren);
        }

        void begin(int seed) {
            dice.seed(seed);
            fox = dice.begin();
            hidden = true;
            day = 0;
            where = warren.openOnes();
        }

        /** A morning and, if it was not caught, the night behind it. */
        boolean morning(int looked) {
            if (!warren.sleepsOn(day)) {
                if ((looked >> fox & 1) == 1) {
                    hidden = false;
                    foxes++;
                    return true;
                }
                countVain(looked);
                where &= ~looked;
            }
            where = warren.night(where);
            fox = dice.night(fox);
            day++;
            return false;
        }

        private void countVain(int looked) {
            for (int h = 0; h < HOLES; h++) {
                vain[h] += looked >> h & 1;
            }
        }

        int vainIn(int hole) {
            return hole >= 0 && hole < HOLES ? vain[hole] : 0;
        }

        int dayIfHidden() {
            return hidden ? day : NOT;
        }

        void copy(Deed other) {
            System.arraycopy(other.vain, 0, vain, 0, HOLES);
            dice.seed(other.dice.z);
            fox = other.fox;
            hidden = other.hidden;
            day = other.day;
            where = other.where;
            foxes = other.foxes;
        }
    }

    /** Holes whose acts come from the kinds above theirs. */
    private static final class Bodies {
        private static final int MOST = 50, KINDS = 8, ACTS = 4, TRACE = 24, DEEPEST = 40;
        private static final int HIDES = 0, LOOKS = 1, GOES = 2, TELLS = 3;
        private static final int[] ABOVE = {-1, 0, 0, 2, 1, 3, 0, 4};
        /** By kind and act, the body that the kind has of its own; 0: none. */
        private static final int[] OWN = {
            1, 10, 11, 2,
            20, 0, 0, 0,
            0, 30, 0, 0,
            0, 41, 40, 0,
            0, 0, 50, 0,
            0, 0, 0, 60,
            70, 0, 0, 0,
            0, 80, 0, 81,
        };

        private final int[] kinds = new int[MOST];
        int size;
        private final int[] ran = new int[TRACE];
        int ranSize;

        Bodies() {
        }

        boolean isKind(int kind) {
            return kind >= 0 && kind < KINDS;
        }

        boolean isBody(int number) {
            return number >= 0 && number < size;
        }

        int kindOf(int number) {
            return isBody(number) ? kinds[number] : BAD;
        }

        int add(int kind) {
            if (size >= MOST) {
                return FULL;
            }
            kinds[size++] = kind;
            return size - 1;
        }

        /** Of the kind, or of one under it. */
        boolean isOfKind(int number, int kind) {
            int above = kindOf(number);
            for (int i = 0; i < KINDS && isKind(above); i++) {
                if (above == kind) {
                    return true;
                }
                above = ABOVE[above];
            }
            return false;
        }

        int perform(int number, int act, int x) {
            ranSize = 0;
            if (!isBody(number) || act < 0 || act >= ACTS) {
                return 0;
            }
            return run(kinds[number], act, x, number, 0);
        }

        int ranAt(int i) {
            return i >= 0 && i < ranSize && i < TRACE ? ran[i] : BAD;
        }

        private void note(int body) {
            if (ranSize < TRACE) {
                ran[ranSize] = body;
            }
            ranSize++;
        }

        /** The kind whose body of the act counts for a kind. */
        private int ownerOf(int kind, int act) {
            int owner = isKind(kind) ? kind : 0;
            for (int i = 0; i < KINDS && OWN[owner * ACTS + act] == 0; i++) {
                owner = Math.max(ABOVE[owner], 0);
            }
            return owner;
        }

        /** Runs the act's body of a kind, or of the next one above that has one, for the hole of a number. */
        private int run(int kind, int act, int x, int number, int depth) {
            if (depth > DEEPEST || !isBody(number) || act < 0 || act >= ACTS) {
                return 0;
            }
            int own = kinds[number];
            int owner = ownerOf(kind, act);
            int above = ABOVE[owner];
            int deeper = depth + 1;
            int body = OWN[owner * ACTS + act];
            note(body);
            switch (body) {
                case 1:
                    return x + number;
                case 2:
                    return run(own, LOOKS, x, number, deeper) - run(own, GOES, 1, number, deeper);
                case 10:
                    return run(own, HIDES, x, number, deeper) * 2;
                case 11:
                    return x ^ number;
                case 20:
                    return run(above, HIDES, x, number, deeper) + 3;
                case 30:
                    return -run(above, LOOKS, x, number, deeper);
                case 40:
                    return run(above, GOES, x, number, deeper) * 3;
                case 41:
                    return run(above, LOOKS, x + 1, number, deeper);
                case 50:
                    return run(above, GOES, x, number, deeper) - run(own, HIDES, 2, number, deeper);
                case 60:
                    return run(above, TELLS, x, number, deeper) ^ 5;
                case 70:
                    return run(above, HIDES, x, number, deeper) * 2;
                case 80:
                    return run(above, LOOKS, x, number, deeper) + run(own, GOES, 2, number, deeper);
                case 81:
                    return run(above, TELLS, x, number, deeper) - 1;
                default:
                    return 0;
            }
        }
    }
}
