/** Each sentence of the promises 1 to 41, with a test of its own of the boundary cases that it names. */
public final class PromiseEdges extends Sentences {
    public static void main(String[] args) {
        readDocument(args);
        newObject();
        hole();
        holes();
        path();
        mend();
        of();
        ofAll();
        feed();
        law();
        mayBe();
        caught();
        printed();
        ahead();
        judge();
        sure();
        sureFrom();
        ring();
        arms();
        toStop();
        dogs();
        kept();
        likely();
        luck();
        mean();
        luckiest();
        drawn();
        hide();
        look();
        image();
        back();
        undo();
        redo();
        body();
        act();
        trace();
        keep();
        row();
        put();
        element();
        shift();
        taken();
        count();
        allNamed(1, PROMISES);
        end();
    }

    private static final int[] NO_SHELVES = {-1, 6, 7, LEAST_INT, MOST_INT};

    /** Shelf 3 a row of each sort but bytes in turn, then a body: each must be refused. */
    private interface OnShelf3 {
        long call();
    }

    private static void otherThanBytes(FoxHoles x, String call, long want, OnShelf3 on) {
        for (int sort = 1; sort < 5; sort++) {
            due("row", 1, x.row(3, sort, 60));
            due(call + " of sort " + sort, want, on.call());
        }
        x.body(0);
        x.keep(3, 0);
        due(call + " of a body", want, on.call());
        x.keep(3, -1);
    }

    // ---- holes, paths

    private static void newObject() {
        says(1, "No holes.");
        FoxHoles x = new FoxHoles();
        due("count(0)", 0, x.count(0));
        due("of", VOID, x.of(0, 0));
        due("path", BAD, x.path(1));
        due("mend", BAD, x.mend(0, 0, 1));
        due("sure", 0, x.sure(-1));
        due("sureFrom", 0, x.sureFrom(0, 0));
        due("toStop", 0, x.toStop(1));
        due("ring", 0, x.ring());
        due("arms", 0, x.arms());
        due("dogs", BAD, x.dogs(0));
        due("kept", 0, x.kept(0));
        due("luckiest", NOT, x.luckiest(4, 3));
        due("hide", STATE, x.hide(0));
        due("look", BAD, x.look(0));
        due("a first one", 0, x.hole(5));
    }

    private static void hole() {
        says(2, "A HOLE of a WEIGHT: its number.");
        FoxHoles x = new FoxHoles();
        for (int i = 0; i < 10; i++) {
            due("hole(" + i + ")", i, x.hole(i));
            due("how many", i + 1, x.count(0));
        }
        for (int i = 0; i < 10; i++) {
            due("its weight", i, x.of(i, 0));
        }
        says(2, "BAD, FULL: 10.");
        due("an 11th", FULL, x.hole(1));
        due("10 still", 10, x.count(0));
        for (int weight : new int[] {-1, 10, LEAST_INT, MOST_INT}) {
            due("full, hole(" + weight + ")", BAD, x.hole(weight));
            due("new, hole(" + weight + ")", BAD, new FoxHoles().hole(weight));
        }
    }

    private static void holes() {
        says(3, "HOLES FROM A ROW on a SHELF, from place i on, n (1 .. 10) of them: how many came.");
        FoxHoles x = new FoxHoles();
        looks(x, 0, 1, 2, 3, 4, 5, 6, 7, 8, 9, 0, 1);
        due("n 0", BAD, x.holes(0, 0, 0));
        due("n 11", BAD, x.holes(0, 0, 11));
        due("n least", BAD, x.holes(0, 0, LEAST_INT));
        due("n most", BAD, x.holes(0, 0, MOST_INT));
        due("n 1, the last place", 1, x.holes(0, 10, 1));
        due("behind the last place", 0, x.holes(0, 11, 1));
        due("far behind", 0, x.holes(0, MOST_INT, 10));
        due("ahead of the first", 0, x.holes(0, -1, 10));
        due("far ahead", 0, x.holes(0, LEAST_INT, 10));
        due("one came", 1, x.count(0));
        FoxHoles y = new FoxHoles();
        looks(y, 5, 1, 2, 3, 4, 5, 6, 7, 8, 9, 0, 1);
        due("n 10", 10, y.holes(5, 0, 10));
        for (int i = 0; i < 10; i++) {
            due("weight", (i + 1) % 10, y.of(i, 0));
        }
        due("full", 0, y.holes(5, 0, 1));
        says(3, "BAD, -12 (no ROW of bytes; a SHELF that holds nothing is missing).");
        for (int shelf : NO_SHELVES) {
            due("shelf " + shelf, BAD, x.holes(shelf, 0, 1));
        }
        otherThanBytes(x, "holes", OTHER, () -> x.holes(3, 0, 1));
        x.row(3, 1, 1);
        due("BAD ahead of -12", BAD, x.holes(3, 0, 0));
        due("nothing is missing", 0, x.holes(4, 0, 1));
        due("an empty row ends", 1, x.row(4, 0, 0));
        due("so none came", 0, x.holes(4, 0, 1));
        due("one, still", 1, x.count(0));
    }

    private static void path() {
        says(4, "A PATH (ab: 10 times the one HOLE and the other, unlike): how many.");
        FoxHoles x = warren(10);
        due("the first", 1, x.path(1));
        due("the second", 2, x.path(98));
        due("paths of 0", 1, x.of(0, 2));
        due("paths of 8", 1, x.of(8, 2));
        for (int h = 0; h < 10; h++) {
            due("both are " + h, BAD, x.path(11 * h));
        }
        says(4, "BAD (a PATH already, too), FULL: 20, or 4 of a HOLE.");
        due("already", BAD, x.path(1));
        due("already, the other way", BAD, x.path(10));
        due("below 0", BAD, x.path(-1));
        due("above", BAD, x.path(100));
        due("least", BAD, x.path(LEAST_INT));
        due("most", BAD, x.path(MOST_INT));
        FoxHoles few = warren(3);
        due("no such other", BAD, few.path(3));
        due("no such one", BAD, few.path(30));
        due("-10", BAD, few.path(-10));
        FoxHoles full = fullWarren();
        due("a 21st", FULL, full.path(5));
        due("20 still", 20, full.count(1));
        due("BAD ahead of FULL", BAD, full.path(1));
        due("like, ahead of FULL", BAD, full.path(55));
        FoxHoles four = warren(7, 1, 2, 3, 4);
        due("4 of the one", FULL, four.path(5));
        due("4 of the other", FULL, four.path(50));
        due("5 and 6", 5, four.path(56));
        due("a path already of a full one", BAD, four.path(40));
    }

    private static void mend() {
        says(5, "WEIGHT (what 0), STOPPED (1) of a HOLE, LOOKERS (2), SLEEP (3; number 0 for both) becomes v: what it was.");
        FoxHoles x = line(2);
        due("weight 0", 1, x.mend(1, 0, 0));
        due("weight 9", 0, x.mend(1, 0, 9));
        due("weight", 9, x.of(1, 0));
        due("stopped 1", 0, x.mend(1, 1, 1));
        due("stopped 0", 1, x.mend(1, 1, 0));
        due("lookers 2", 1, x.mend(0, 2, 2));
        due("lookers 1", 2, x.mend(0, 2, 1));
        due("sleep 127", 0, x.mend(0, 3, 127));
        due("sleep 0", 127, x.mend(0, 3, 0));
        due("the same", 0, x.mend(0, 3, 0));
        says(5, "BAD.");
        int[][] no = {
            {0, 0, -1}, {0, 0, 10}, {0, 0, LEAST_INT}, {0, 0, MOST_INT}, {-1, 0, 1}, {2, 0, 1}, {LEAST_INT, 0, 1}, {MOST_INT, 0, 1},
            {0, 1, -1}, {0, 1, 2}, {-1, 1, 1}, {2, 1, 1}, {LEAST_INT, 1, 0}, {MOST_INT, 1, 0},
            {0, 2, 0}, {0, 2, 3}, {0, 2, -1}, {1, 2, 1}, {1, 2, 2}, {-1, 2, 1}, {0, 2, LEAST_INT}, {0, 2, MOST_INT},
            {0, 3, -1}, {0, 3, 128}, {1, 3, 1}, {-1, 3, 1}, {0, 3, LEAST_INT}, {0, 3, MOST_INT},
            {0, 4, 1}, {0, -1, 1}, {0, LEAST_INT, 1}, {0, MOST_INT, 1},
        };
        for (int[] m : no) {
            due("mend(" + m[0] + "," + m[1] + "," + m[2] + ")", BAD, x.mend(m[0], m[1], m[2]));
        }
        due("weight as it was", 1, x.of(0, 0));
        due("lookers as they were", 1, x.of(0, 10));
        due("sleep as it was", 0, x.of(0, 11));
    }

    private static void of() {
        says(6, "Of a HOLE: 0 WEIGHT, 1 STOPPED, 2 how many PATHS, 3 HOLES (bits) to which it may go (0: STOPPED, or nowhere),");
        FoxHoles x = warren(6, 1, 2, 3, 4);
        due("no path", 0, x.of(5, 2));
        due("nowhere", 0, x.of(5, 3));
        due("four paths", 4, x.of(0, 2));
        due("to four", 30, x.of(0, 3));
        x.mend(4, 1, 1);
        due("four paths, one to a stopped one", 4, x.of(0, 2));
        due("to three", 14, x.of(0, 3));
        due("a path of a stopped one", 1, x.of(4, 2));
        due("stopped: nowhere", 0, x.of(4, 3));
        due("stopped", 1, x.of(4, 1));
        due("weight of a stopped one", 1, x.of(4, 0));
        x.mend(0, 1, 1);
        due("to a stopped one alone: nowhere", 0, x.of(1, 3));
        says(6, "4 LOOKS in vain in deed;");
        x.mend(0, 0, 0);
        x.mend(5, 0, 9);
        for (int h = 1; h <= 4; h++) {
            x.mend(h, 0, 0);
        }
        due("none", 0, x.of(0, 4));
        x.hide(1);
        x.look(0);
        x.look(0);
        x.look(44);
        due("two", 2, x.of(0, 4));
        due("one, of a stopped one", 1, x.of(4, 4));
        x.look(55);
        due("caught is not in vain", 0, x.of(5, 4));
        says(6, "VOID: BAD.");
        for (int number : new int[] {-1, 6, 10, LEAST_INT, MOST_INT}) {
            for (int what = 0; what <= 4; what++) {
                due("of(" + number + "," + what + ")", VOID, x.of(number, what));
            }
        }
        for (int what : new int[] {-1, 5, 6, 7, 8, 9, 15, LEAST_INT, MOST_INT}) {
            due("of(0," + what + ")", VOID, x.of(0, what));
            due("of(1," + what + ")", VOID, x.of(1, what));
        }
    }

    private static void ofAll() {
        says(6, "number 0: 10 LOOKERS, 11 SLEEP, 12 DAY, 13 WHERE NOW (STATE: nothing is hidden), 14 foxes caught.");
        FoxHoles x = new FoxHoles();
        int[] atFirst = {1, 0, 0, STATE, 0};
        for (int what = 10; what <= 14; what++) {
            due("of(0," + what + ")", atFirst[what - 10], x.of(0, what));
            for (int number : new int[] {-1, 1, 9, LEAST_INT, MOST_INT}) {
                due("of(" + number + "," + what + ")", VOID, x.of(number, what));
            }
        }
        x.hole(1);
        x.hole(0);
        due("of(1,13) of a hole", VOID, x.of(1, 13));
        x.mend(0, 2, 2);
        x.mend(0, 3, 64);
        x.hide(1);
        due("where now", 3, x.of(0, 13));
        x.look(11);
        due("lookers", 2, x.of(0, 10));
        due("sleep", 64, x.of(0, 11));
        due("day", 1, x.of(0, 12));
        due("where now, without the one looked into", 1, x.of(0, 13));
        due("none caught", 0, x.of(0, 14));
        x.look(0);
        due("day stays", 1, x.of(0, 12));
        due("nothing is hidden", STATE, x.of(0, 13));
        due("one caught", 1, x.of(0, 14));
    }

    private static void feed() {
        says(7, "A byte (0 .. 255) comes to THE TAPE: how many it has.");
        FoxHoles x = new FoxHoles();
        due("0", 1, x.feed(0));
        due("255", 2, x.feed(255));
        due("how many", 2, x.count(3));
        says(7, "BAD, FULL (120).");
        for (int letter : new int[] {-1, 256, LEAST_INT, MOST_INT}) {
            due("feed(" + letter + ")", BAD, x.feed(letter));
        }
        for (int i = 3; i <= 120; i++) {
            due("feed", i, x.feed('1'));
        }
        due("a 121st", FULL, x.feed('1'));
        due("120 still", 120, x.count(3));
        due("BAD ahead of FULL", BAD, x.feed(256));
        due("BAD ahead of FULL", BAD, x.feed(-1));
    }

    private static void law() {
        says(8, "THE TAPE becomes THE LAW: 1; -100 less its FAULT;");
        FoxHoles x = line(3);
        due("an empty tape", -100, x.law());
        due("by paths yet", 5, x.of(1, 3));
        due("a text", 1, law(x, "a=b"));
        due("stays", 2, x.of(1, 3));
        due("a fault at 0", -100, law(x, "+"));
        due("a fault at 1", -101, law(x, "a+".substring(0, 1) + "a"));
        due("the law as it was", 2, x.of(1, 3));
        StringBuilder most = new StringBuilder("1");
        for (int i = 0; i < 59; i++) {
            most.append("+1");
        }
        due("a fault at 119", -219, law(x, most + ")"));
        due("a fault at 120", -220, law(x, most + "+"));
        due("119 bytes", 1, law(x, most.toString()));
        due("anywhere", 7, x.of(1, 3));
        says(8, "THE TAPE is empty then.");
        due("behind a text", 0, x.count(3));
        x.feed('x');
        due("one", 1, x.count(3));
        due("a fault", -100, x.law());
        due("behind a fault", 0, x.count(3));
        due("again from 1", 1, x.feed('p'));
        due("a text of one byte", 1, x.law());
        due("by paths", 5, x.of(1, 3));
    }

    // ---- looks told

    private static void mayBe() {
        says(9, "MAY BE behind k mornings of LOOKS (0 .. how many there are): bits.");
        FoxHoles x = line(2);
        onlyLook(x, 0, 60, 59, 0);
        due("0", 3, x.mayBe(0, 0));
        due("59", 3, x.mayBe(0, 59));
        due("60", 2, x.mayBe(0, 60));
        due("61", BAD, x.mayBe(0, 61));
        due("-1", BAD, x.mayBe(0, -1));
        due("least", BAD, x.mayBe(0, LEAST_INT));
        due("most", BAD, x.mayBe(0, MOST_INT));
        x.mend(0, 2, 2);
        due("30 by two", 2, x.mayBe(0, 30));
        due("31 by two", BAD, x.mayBe(0, 31));
        onlyLook(x, 0, 59, 58, 1);
        due("30, the last by one alone", 1, x.mayBe(0, 30));
        due("31", BAD, x.mayBe(0, 31));
        looks(x, 0);
        due("0 of none", 3, x.mayBe(0, 0));
        due("1 of none", BAD, x.mayBe(0, 1));
        says(9, "BAD, -11, -12 (no ROW of bytes).");
        for (int shelf : NO_SHELVES) {
            due("shelf " + shelf, BAD, x.mayBe(shelf, 0));
        }
        due("nothing", NOTHING, x.mayBe(3, 0));
        due("BAD ahead of -11", BAD, x.mayBe(3, -1));
        otherThanBytes(x, "mayBe", OTHER, () -> x.mayBe(3, 0));
        x.row(3, 1, 1);
        due("BAD ahead of -12", BAD, x.mayBe(3, -1));
    }

    private static void caught() {
        says(10, "CAUGHT: the morning (1 on; 0).");
        FoxHoles x = line(1);
        looks(x, 0, 0);
        due("the first", 1, x.caught(0));
        onlyLook(x, 0, 60, 59, 0);
        due("the 60th", 60, x.caught(0));
        x.mend(0, 2, 2);
        due("the 30th of two", 30, x.caught(0));
        onlyLook(x, 0, 59, 58, 0);
        due("the 30th of two, one byte", 30, x.caught(0));
        x.mend(0, 1, 1);
        due("none is open", 0, x.caught(0));
        x.mend(0, 3, 127);
        due("none is open, whoever sleeps", 0, x.caught(0));
        x.mend(0, 1, 0);
        says(10, "BAD, -11, -12; NOT.");
        due("not", NOT, x.caught(0));
        x.mend(0, 3, 0);
        looks(x, 0);
        due("no looks: not", NOT, x.caught(0));
        for (int shelf : NO_SHELVES) {
            due("shelf " + shelf, BAD, x.caught(shelf));
        }
        due("nothing", NOTHING, x.caught(3));
        otherThanBytes(x, "caught", OTHER, () -> x.caught(3));
        x.mend(0, 1, 1);
        due("nothing, with none open", NOTHING, x.caught(3));
    }

    /** Refusals that printed and ahead share; shelf 0 has looks, shelf 1 prints, shelf 3 nothing. */
    private static void notLooksAndPrints(FoxHoles x, boolean ahead) {
        for (int lp : new int[] {-1, 6, 7, 8, 9, 60, 61, 100, LEAST_INT, MOST_INT}) {
            due("lp " + lp, BAD, ahead ? x.ahead(lp, 1) : x.printed(lp, 1));
        }
        due("nothing of looks", NOTHING, ahead ? x.ahead(31, 1) : x.printed(31, 1));
        due("nothing of prints", NOTHING, ahead ? x.ahead(3, 1) : x.printed(3, 1));
        due("BAD ahead of -11", BAD, ahead ? x.ahead(31, -1) : x.printed(31, -1));
        due("prints of bytes", OTHER, ahead ? x.ahead(0, 1) : x.printed(0, 1));
        due("looks of shorts", OTHER, ahead ? x.ahead(11, 1) : x.printed(11, 1));
        due("-11 ahead of -12", NOTHING, ahead ? x.ahead(13, 1) : x.printed(13, 1));
        due("-11 ahead of -12", NOTHING, ahead ? x.ahead(30, 1) : x.printed(30, 1));
        due("BAD ahead of -12", BAD, ahead ? x.ahead(11, -1) : x.printed(11, -1));
        otherThanBytes(x, "looks", OTHER, () -> ahead ? x.ahead(31, 1) : x.printed(31, 1));
        for (int sort = 2; sort < 5; sort++) {
            x.row(3, sort, 1);
            due("prints of sort " + sort, OTHER, ahead ? x.ahead(3, 1) : x.printed(3, 1));
        }
        x.keep(3, 0);
        due("prints of a body", OTHER, ahead ? x.ahead(3, 1) : x.printed(3, 1));
    }

    private static void printed() {
        says(11, "MAY BE by LOOKS and PRINTS (lp: 10 times the SHELF of LOOKS and that of PRINTS), behind k mornings.");
        FoxHoles x = line(3);
        onlyLook(x, 5, 60, 59, 1);
        prints(x, 4, 1);
        due("0", 7, x.printed(54, 0));
        due("1", 1, x.printed(54, 1));
        due("59", 5, x.printed(54, 59));
        due("60", 0, x.printed(54, 60));
        due("61", BAD, x.printed(54, 61));
        due("-1", BAD, x.printed(54, -1));
        due("least", BAD, x.printed(54, LEAST_INT));
        due("most", BAD, x.printed(54, MOST_INT));
        looks(x, 0, -1);
        prints(x, 1, 2, 7);
        due("the other shelves", 2, x.printed(1, 1));
        due("only the looks' mornings", BAD, x.printed(1, 2));
        looks(x, 0);
        due("0 of none", 7, x.printed(1, 0));
        due("1 of none", BAD, x.printed(1, 1));
        says(11, "BAD, -11, -12 (no ROW of bytes, of shorts).");
        looks(x, 0, -1);
        notLooksAndPrints(x, false);
    }

    private static void ahead() {
        says(12, "AHEAD of morning k (1 to how many there are) by both.");
        FoxHoles x = line(3);
        onlyLook(x, 5, 60, 59, 1);
        prints(x, 4);
        due("the first", 2, x.ahead(54, 1));
        due("the 59th", 2, x.ahead(54, 59));
        due("the 60th", 5, x.ahead(54, 60));
        due("the 61st", BAD, x.ahead(54, 61));
        due("0", BAD, x.ahead(54, 0));
        due("-1", BAD, x.ahead(54, -1));
        due("least", BAD, x.ahead(54, LEAST_INT));
        due("most", BAD, x.ahead(54, MOST_INT));
        prints(x, 4, 5);
        due("the first, by a print", 0, x.ahead(54, 1));
        looks(x, 0);
        prints(x, 1, 7);
        due("1 of none", BAD, x.ahead(1, 1));
        looks(x, 0, -1);
        due("1 of one", 7, x.ahead(1, 1));
        due("2 of one", BAD, x.ahead(1, 2));
        says(12, "BAD, -11, -12 likewise.");
        notLooksAndPrints(x, true);
    }

    private static void judge() {
        says(13, "JUDGED: a FOX'S WAY (lw: 10 times the SHELF of LOOKS and that of the WAY).");
        FoxHoles x = line(2);
        looks(x, 5, -1, 1);
        long[] way = new long[60];
        for (int i = 0; i < 60; i++) {
            way[i] = i % 2;
        }
        looks(x, 4, way);
        due("caught on the second", 2, x.judge(54));
        looks(x, 5, 1, 0);
        due("60 holes, two looks", NOT, x.judge(54));
        x.put(4, 59, 0);
        due("the last", 59, x.judge(54));
        x.put(4, 0, 2);
        due("the first", 0, x.judge(54));
        due("the looks as a way", NOT, x.judge(45));
        says(13, "BAD, -11, -12 (no ROWS of bytes); NOT.");
        looks(x, 0);
        for (int lw : new int[] {-1, 6, 9, 60, 66, 100, LEAST_INT, MOST_INT}) {
            due("lw " + lw, BAD, x.judge(lw));
        }
        due("nothing of looks", NOTHING, x.judge(30));
        due("nothing of a way", NOTHING, x.judge(3));
        otherThanBytes(x, "judge by looks", OTHER, () -> x.judge(30));
        otherThanBytes(x, "judge of a way", OTHER, () -> x.judge(3));
        x.row(2, 1, 1);
        due("-11 ahead of -12", NOTHING, x.judge(23));
        due("-11 ahead of -12", NOTHING, x.judge(32));
        due("an empty way", NOT, x.judge(50));
    }

    // ---- surely

    private static void sure() {
        says(14, "SURE: mornings (k -1), the k-th LOOK (0 on; NOT: no look, or there are not as many).");
        FoxHoles x = warren(10);
        due("mornings", 10, x.sure(-1));
        due("the first look", 0, x.sure(0));
        due("the last look", 9, x.sure(9));
        due("there are not as many", NOT, x.sure(10));
        due("most", NOT, x.sure(MOST_INT));
        x.mend(0, 2, 2);
        due("mornings of two", 5, x.sure(-1));
        due("the last look of two", 9, x.sure(9));
        due("there are not as many of two", NOT, x.sure(10));
        due("most of two", NOT, x.sure(MOST_INT));
        x.mend(0, 3, 1);
        due("with one of sleep", 6, x.sure(-1));
        due("no look", NOT, x.sure(0));
        due("no look", NOT, x.sure(1));
        due("the first look", 0, x.sure(2));
        due("the last look", 9, x.sure(11));
        FoxHoles grown = warren(2);
        due("of two holes", 2, grown.sure(-1));
        grown.mend(0, 0, 5);
        grown.hole(1);
        due("of three, behind a change and a hole", 3, grown.sure(-1));
        grown.path(1);
        grown.undo();
        due("behind a path and an undo", 3, grown.sure(-1));
        due("its first look", 0, grown.sure(0));
        grown.mend(2, 1, 1);
        due("behind one stopped", 2, grown.sure(-1));
        says(14, "BAD; NOT: never.");
        due("-2", BAD, x.sure(-2));
        due("least", BAD, x.sure(LEAST_INT));
        x.mend(0, 3, 127);
        due("never", NOT, x.sure(-1));
        due("never, its first look", NOT, x.sure(0));
        due("BAD ahead of never", BAD, x.sure(-2));
    }

    private static void sureFrom() {
        says(15, "FROM told HOLES, from DAY t by 7 (0 .. 6) on: mornings.");
        FoxHoles x = line(3);
        x.mend(0, 3, 65);
        due("none", 0, x.sureFrom(0, 0));
        due("all", 2, x.sureFrom(7, 1));
        due("day 0", 2, x.sureFrom(1, 0));
        due("day 6, asleep on the next, too", 4, x.sureFrom(1, 6));
        due("day 5", 1, x.sureFrom(1, 5));
        says(15, "BAD (bits of HOLES; STOPPED ones do not matter); NOT.");
        due("day -1", BAD, x.sureFrom(1, -1));
        due("day 7", BAD, x.sureFrom(1, 7));
        due("day least", BAD, x.sureFrom(1, LEAST_INT));
        due("day most", BAD, x.sureFrom(1, MOST_INT));
        due("bits above", BAD, x.sureFrom(8, 0));
        due("bits below 0", BAD, x.sureFrom(-1, 0));
        due("bits least", BAD, x.sureFrom(LEAST_INT, 0));
        due("bits most", BAD, x.sureFrom(MOST_INT, 0));
        x.mend(2, 1, 1);
        due("a stopped one alone", 0, x.sureFrom(4, 1));
        due("a stopped one and another", 1, x.sureFrom(5, 1));
        x.mend(0, 3, 127);
        due("never", NOT, x.sureFrom(1, 0));
        due("a stopped one alone, whoever sleeps", 0, x.sureFrom(4, 0));
        FoxHoles ten = warren(10);
        due("all of ten", 10, ten.sureFrom(1023, 6));
        due("an 11th bit", BAD, ten.sureFrom(1024, 6));
    }

    private static void ring() {
        says(16, "RING.");
        due("none", 0, new FoxHoles().ring());
        due("one", 0, line(1).ring());
        FoxHoles ten = warren(10, 1, 12, 23, 34, 45, 56, 67, 78, 89);
        due("not closed", 0, ten.ring());
        ten.path(90);
        due("closed by the tenth", 1, ten.ring());
        ten.mend(5, 1, 1);
        due("one stopped", 0, ten.ring());
    }

    private static void arms() {
        says(17, "ARMS.");
        due("none", 0, new FoxHoles().arms());
        due("nine holes are too few", 0, warren(9, 1, 12, 23, 4, 45, 56, 7, 78).arms());
        due("ten", 1, warren(10, 1, 12, 23, 4, 45, 56, 7, 78, 89).arms());
        due("of all ten", 10, fullWarren().arms());
        FoxHoles x = fullWarren();
        x.mend(4, 1, 1);
        due("nine of ten", 0, x.arms());
        due("hole 0 begins an arm", 1, warren(10, 90, 1, 12, 93, 34, 45, 96, 67, 78).arms());
        due("hole 0 within an arm", 1, warren(10, 91, 10, 2, 93, 34, 45, 96, 67, 78).arms());
        due("hole 0 ends an arm", 1, warren(10, 91, 12, 20, 93, 34, 45, 96, 67, 78).arms());
    }

    private static void toStop() {
        says(18, "TO STOP, within m mornings: as bits.");
        FoxHoles x = warren(3);
        due("1", 3, x.toStop(1));
        due("2", 1, x.toStop(2));
        due("3", 0, x.toStop(3));
        due("40", 0, x.toStop(40));
        law(x, "1");
        due("none but one can be left", 3, x.toStop(40));
        x.mend(0, 2, 2);
        due("two can be left", 1, x.toStop(1));
        due("no more within 40", 1, x.toStop(40));
        due("open as they were", 3, x.count(2));
        due("no change", 1, x.count(4));
        FoxHoles five = line(5);
        due("six mornings", 0, five.toStop(6));
        due("one less", 1, five.toStop(5));
        five.mend(0, 3, 1);
        due("seven with one of sleep", 0, five.toStop(7));
        due("one less with one of sleep", 1, five.toStop(6));
        says(18, "BAD.");
        for (int m : new int[] {0, -1, 41, LEAST_INT, MOST_INT}) {
            due("toStop(" + m + ")", BAD, x.toStop(m));
        }
    }

    private static void dogs() {
        says(19, "DOGS at a HOLE.");
        FoxHoles x = line(3);
        due("the first", 2, x.dogs(0));
        due("within", 1, x.dogs(1));
        due("the last", 2, x.dogs(2));
        says(19, "BAD (STOPPED, too); NOT.");
        for (int hole : new int[] {-1, 3, 10, LEAST_INT, MOST_INT}) {
            due("dogs(" + hole + ")", BAD, x.dogs(hole));
        }
        x.mend(1, 1, 1);
        due("stopped", BAD, x.dogs(1));
        due("not from all", NOT, x.dogs(0));
        x.mend(2, 1, 1);
        due("alone", 0, x.dogs(0));
    }

    private static void kept() {
        says(20, "KEPT: bits.");
        FoxHoles x = line(3);
        due("none", 7, x.kept(0));
        due("all", 0, x.kept(7));
        due("an end", 6, x.kept(1));
        due("the middle", 0, x.kept(2));
        x.mend(1, 1, 1);
        due("two that stay, with a stopped one told", 5, x.kept(2));
        due("no hole", 0, new FoxHoles().kept(0));
        due("all of ten", 0, fullWarren().kept(1023));
        due("all but two of ten", 3, fullWarren().kept(1020));
        due("all but one of ten", 0, fullWarren().kept(1022));
        says(20, "BAD.");
        for (int set : new int[] {-1, 8, LEAST_INT, MOST_INT}) {
            due("kept(" + set + ")", BAD, x.kept(set));
        }
        due("1024 of ten", BAD, fullWarren().kept(1024));
    }

    // ---- at random

    private static void likely() {
        says(21, "LIKELY in a HOLE behind m mornings (0 .. 12, no more than there are; hm: 100 times the HOLE, and m): part 0 above,");
        FoxHoles x = warren(10);
        onlyLook(x, 0, 13, 11, 9);
        due("hole 0, m 0, above", 1, x.likely(0, 0, 0));
        due("hole 0, m 0, below", 10, x.likely(0, 0, 1));
        due("hole 9, m 11, below", 10, x.likely(0, 911, 1));
        due("hole 9, m 12, above", 0, x.likely(0, 912, 0));
        due("hole 9, m 12, below", 1, x.likely(0, 912, 1));
        due("hole 8, m 12, below", 9, x.likely(0, 812, 1));
        says(21, "Long.MIN_VALUE: BAD, or no ROW of bytes; NOT.");
        for (int hm : new int[] {13, 913, 99, 999, 1000, 1012, -1, -100, LEAST_INT, MOST_INT}) {
            due("hm " + hm, LEAST, x.likely(0, hm, 0));
        }
        looks(x, 1, -1, -1);
        due("two of two", 1, x.likely(1, 2, 0));
        due("three of two", LEAST, x.likely(1, 3, 0));
        x.mend(0, 2, 2);
        due("one of two bytes", 1, x.likely(1, 1, 0));
        due("two of two bytes", LEAST, x.likely(1, 2, 0));
        for (int part : new int[] {-1, 2, LEAST_INT, MOST_INT}) {
            due("part " + part, LEAST, x.likely(0, 0, part));
        }
        for (int shelf : NO_SHELVES) {
            due("shelf " + shelf, LEAST, x.likely(shelf, 0, 0));
        }
        due("nothing", LEAST, x.likely(3, 0, 0));
        otherThanBytes(x, "likely", LEAST, () -> x.likely(3, 0, 0));
        FoxHoles one = line(1);
        looks(one, 0, 0);
        due("surely caught: not", NOT, one.likely(0, 1, 0));
        due("surely caught: not", NOT, one.likely(0, 1, 1));
        one.mend(0, 0, 0);
        due("no weight: not", NOT, one.likely(0, 0, 0));
        due("a stopped one's", 0, stopped().likely(0, 0, 0));
    }

    private static FoxHoles stopped() {
        FoxHoles x = line(2);
        x.mend(0, 1, 1);
        looks(x, 0, 0);
        return x;
    }

    private static void luck() {
        says(22, "LUCK within m mornings: part likewise.");
        FoxHoles x = warren(3);
        looks(x, 0, -1, -1, -1, -1, -1, -1, -1, -1, -1, -1, 0, 1, 2);
        due("0, above", 0, x.luck(0, 0, 0));
        due("0, below", 1, x.luck(0, 0, 1));
        due("11, above", 1, x.luck(0, 11, 0));
        due("11, below", 3, x.luck(0, 11, 1));
        due("12, above", 2, x.luck(0, 12, 0));
        due("12, below", 3, x.luck(0, 12, 1));
        says(22, "Long.MIN_VALUE: BAD (more than there are, too), or no ROW of bytes;");
        for (int m : new int[] {-1, 13, LEAST_INT, MOST_INT}) {
            due("m " + m, LEAST, x.luck(0, m, 0));
        }
        for (int part : new int[] {-1, 2, LEAST_INT, MOST_INT}) {
            due("part " + part, LEAST, x.luck(0, 0, part));
        }
        for (int shelf : NO_SHELVES) {
            due("shelf " + shelf, LEAST, x.luck(shelf, 0, 0));
        }
        looks(x, 1, 0, 1, 2);
        due("three of three", 1, x.luck(1, 3, 0));
        due("four of three", LEAST, x.luck(1, 4, 0));
        x.mend(0, 2, 2);
        due("two of three bytes", 1, x.luck(1, 2, 0));
        due("three of three bytes", LEAST, x.luck(1, 3, 0));
        due("nothing", LEAST, x.luck(3, 0, 0));
        otherThanBytes(x, "luck", LEAST, () -> x.luck(3, 0, 0));
        says(22, "NOT: all WEIGHTS of OPEN ones are 0.");
        x.mend(0, 0, 0);
        x.mend(1, 0, 0);
        due("one is not", 0, x.luck(0, 0, 0));
        x.mend(2, 1, 1);
        due("all of open ones are", NOT, x.luck(0, 0, 0));
        due("below, too", NOT, x.luck(0, 0, 1));
        due("BAD ahead of NOT", LEAST, x.luck(0, 13, 0));
        due("no row ahead of NOT", LEAST, x.luck(3, 0, 0));
    }

    private static void mean() {
        says(23, "MEAN: part likewise.");
        FoxHoles x = holesOf(1, 2, 3);
        looks(x, 0, -1, -1, -1, -1, -1, -1, -1, -1, -1, -1, 0, 1, 2);
        due("11, above", 11, x.mean(0, 11, 0));
        due("11, below", 1, x.mean(0, 11, 1));
        due("12, above", 35, x.mean(0, 12, 0));
        due("12, below", 3, x.mean(0, 12, 1));
        says(23, "Long.MIN_VALUE likewise; NOT.");
        due("0: not", NOT, x.mean(0, 0, 0));
        due("10: not", NOT, x.mean(0, 10, 1));
        for (int m : new int[] {-1, 13, LEAST_INT, MOST_INT}) {
            due("m " + m, LEAST, x.mean(0, m, 0));
        }
        for (int part : new int[] {-1, 2, LEAST_INT, MOST_INT}) {
            due("part " + part, LEAST, x.mean(0, 12, part));
        }
        for (int shelf : NO_SHELVES) {
            due("shelf " + shelf, LEAST, x.mean(shelf, 0, 0));
        }
        looks(x, 1, 0);
        due("one of one", 1, x.mean(1, 1, 0));
        due("two of one", LEAST, x.mean(1, 2, 0));
        due("nothing", LEAST, x.mean(3, 0, 0));
        otherThanBytes(x, "mean", LEAST, () -> x.mean(3, 0, 0));
        for (int h = 0; h < 3; h++) {
            x.mend(h, 0, 0);
        }
        due("no weight: not", NOT, x.mean(0, 12, 0));
        due("BAD ahead of NOT", LEAST, x.mean(0, 13, 0));
    }

    private static void luckiest() {
        says(24, "LUCKIEST: how likely (k -1, -2: above, below the line), the k-th LOOK (0 .. m less 1).");
        FoxHoles x = holesOf(1, 2, 3, 4, 5);
        long[] above = {1, 3, 4, 14};
        long[] below = {3, 5, 5, 15};
        int[][] looks = {{4}, {3, 4}, {2, 3, 4}, {1, 2, 3, 4}};
        for (int m = 1; m <= 4; m++) {
            due(m + ", above", above[m - 1], x.luckiest(m, -1));
            due(m + ", below", below[m - 1], x.luckiest(m, -2));
            for (int k = 0; k < m; k++) {
                due(m + ", look " + k, looks[m - 1][k], x.luckiest(m, k));
            }
        }
        x.mend(0, 0, 9);
        due("1, above, with another weight", 9, x.luckiest(1, -1));
        due("1, look 0, with another weight", 0, x.luckiest(1, 0));
        x.mend(0, 0, 0);
        x.mend(1, 0, 9);
        due("1, look 0, with others", 1, x.luckiest(1, 0));
        x.mend(1, 0, 0);
        x.hole(9);
        due("1, look 0, behind a change and a hole", 5, x.luckiest(1, 0));
        x.mend(5, 0, 0);
        says(24, "Long.MIN_VALUE: BAD;");
        for (int m = 1; m <= 4; m++) {
            due(m + ", look " + m, LEAST, x.luckiest(m, m));
            due(m + ", look -3", LEAST, x.luckiest(m, -3));
            due(m + ", look least", LEAST, x.luckiest(m, LEAST_INT));
            due(m + ", look most", LEAST, x.luckiest(m, MOST_INT));
        }
        for (int m : new int[] {0, -1, 5, LEAST_INT, MOST_INT}) {
            due("m " + m, LEAST, x.luckiest(m, -1));
            due("m " + m, LEAST, x.luckiest(m, 0));
        }
        says(24, "NOT: all WEIGHTS of OPEN ones are 0.");
        for (int h = 0; h < 4; h++) {
            x.mend(h, 0, 0);
        }
        due("one is not", 1, x.luckiest(1, -1));
        x.mend(4, 1, 1);
        due("all of open ones are", NOT, x.luckiest(1, -1));
        due("below, too", NOT, x.luckiest(4, -2));
        due("looks, too", NOT, x.luckiest(4, 3));
        due("BAD ahead of NOT", LEAST, x.luckiest(4, 4));
    }

    private static void drawn() {
        says(25, "DRAWN (nm: 100 n and m; LOOKS of a SHELF): caught (what 0), mornings (1).");
        FoxHoles x = line(1);
        onlyLook(x, 5, 31, 1, 0);
        due("one, of one morning", 0, x.drawn(5, 1, 101, 0));
        due("one, of two mornings", 1, x.drawn(5, 1, 102, 0));
        due("its mornings", 2, x.drawn(5, 1, 102, 1));
        due("60, of 30 mornings", 60, x.drawn(5, LEAST_INT, 6030, 0));
        due("their mornings", 120, x.drawn(5, MOST_INT, 6030, 1));
        says(25, "BAD, -11, -12 (no ROW of bytes); STATE.");
        for (int nm : new int[] {0, 1, 30, 100, 131, 199, 6000, 6031, 6101, 6130, -1, -101, -6030, LEAST_INT, MOST_INT}) {
            due("nm " + nm, BAD, x.drawn(5, 1, nm, 0));
        }
        for (int what : new int[] {-1, 2, LEAST_INT, MOST_INT}) {
            due("what " + what, BAD, x.drawn(5, 1, 101, what));
        }
        for (int shelf : NO_SHELVES) {
            due("shelf " + shelf, BAD, x.drawn(shelf, 1, 101, 0));
        }
        due("nothing", NOTHING, x.drawn(3, 1, 101, 0));
        due("BAD ahead of -11", BAD, x.drawn(3, 1, 100, 0));
        otherThanBytes(x, "drawn", OTHER, () -> x.drawn(3, 1, 101, 0));
        x.mend(0, 0, 0);
        due("no weight", STATE, x.drawn(5, 1, 101, 0));
        due("BAD ahead of STATE", BAD, x.drawn(5, 1, 100, 0));
        due("-11 ahead of STATE", NOTHING, x.drawn(3, 1, 101, 0));
        otherThanBytes(x, "drawn, ahead of STATE", OTHER, () -> x.drawn(3, 1, 101, 0));
    }

    // ---- in deed

    private static void hide() {
        says(26, "HIDE: HOLES (bits) in which it can be.");
        FoxHoles x = holesOf(0, 1, 0);
        due("all open ones", 7, x.hide(LEAST_INT));
        x.mend(2, 1, 1);
        due("without a stopped one", 3, x.hide(MOST_INT));
        due("ten", 1023, fullWarren().hide(0));
        says(26, "STATE: all WEIGHTS of OPEN ones are 0.");
        due("not there", 0, x.look(0));
        x.mend(2, 0, 9);
        x.mend(1, 0, 0);
        due("all are", STATE, x.hide(1));
        due("the hidden one is there yet", 1, x.of(0, 12));
        due("and is found", 1, x.look(11));
        due("no hole", STATE, new FoxHoles().hide(1));
    }

    private static void look() {
        says(27, "LOOK (ab: 10 times a HOLE and another one; with 1 LOOKER, or if both are one, that one alone):");
        FoxHoles x = holesOf(0, 0, 9);
        x.hide(1);
        due("one looker: into 0 alone", 0, x.look(2));
        due("in vain in 0", 1, x.of(0, 4));
        due("none in 2", 0, x.of(2, 4));
        x.mend(0, 2, 2);
        due("two lookers, both are one", 0, x.look(0));
        due("in vain once", 2, x.of(0, 4));
        due("two lookers", 0, x.look(10));
        due("in vain in both", 3, x.of(0, 4));
        due("in vain in both", 1, x.of(1, 4));
        says(27, "1 caught (nothing is hidden then), 0.");
        due("caught by the other", 1, x.look(2));
        due("nothing is hidden", STATE, x.of(0, 13));
        x.hide(1);
        due("caught by the one", 1, x.look(20));
        x.hide(1);
        due("caught by both as one", 1, x.look(22));
        due("three caught", 3, x.of(0, 14));
        says(27, "BAD; STATE: nothing is hidden.");
        due("nothing is hidden", STATE, x.look(0));
        for (int hidden = 0; hidden < 2; hidden++) {
            for (int ab : new int[] {-1, -11, 3, 30, 33, 99, 100, LEAST_INT, MOST_INT}) {
                due("look(" + ab + ")", BAD, x.look(ab));
            }
            x.hide(1);
        }
        due("day", 0, x.of(0, 12));
        FoxHoles ten = fullWarren();
        ten.hide(1);
        ten.mend(0, 3, 127);
        due("the last of ten", 0, ten.look(99));
        due("100 of ten", BAD, ten.look(100));
        due("BAD on a day of sleep", BAD, ten.look(-1));
        FoxHoles last = holesOf(0, 0, 0, 0, 0, 0, 0, 0, 0, 9);
        last.hide(1);
        due("the last is not looked into", 0, last.look(89));
        due("the last is looked into", 1, last.look(99));
        last.hide(1);
        due("the last and the first", 1, last.look(90));
    }

    private static void image() {
        says(28, "AN IMAGE is kept: DAY (NOT: nothing is hidden).");
        FoxHoles x = holesOf(9, 0);
        due("nothing is hidden", NOT, x.image());
        x.hide(1);
        due("day 0", 0, x.image());
        x.look(11);
        due("day 1", 1, x.image());
        x.look(11);
        due("the latest is kept", 1, x.back());
        x.look(0);
        due("caught: nothing is hidden", NOT, x.image());
        x.hide(1);
        due("the latest is kept", NOT, x.back());
    }

    private static void back() {
        says(29, "It is laid back: likewise.");
        FoxHoles x = holesOf(9, 0);
        x.hide(1);
        x.image();
        due("caught", 1, x.look(0));
        due("day 0", 0, x.back());
        due("hidden again", 3, x.of(0, 13));
        due("none is caught", 0, x.of(0, 14));
        due("not there", 0, x.look(11));
        due("again", 0, x.back());
        due("none in vain", 0, x.of(1, 4));
        x.look(0);
        x.image();
        x.hide(1);
        due("nothing is hidden", NOT, x.back());
        due("where now", STATE, x.of(0, 13));
        due("one is caught", 1, x.of(0, 14));
        says(29, "STATE: there is none.");
        FoxHoles y = holesOf(9);
        due("of a new one", STATE, y.back());
        y.hide(1);
        due("of a hidden one", STATE, y.back());
        due("day", 0, y.of(0, 12));
        due("it is hidden yet", 1, y.look(0));
    }

    private static void undo() {
        says(30, "UNDONE: how many may still be.");
        FoxHoles x = line(1);
        x.mend(0, 0, 5);
        x.mend(0, 0, 6);
        due("one may still be", 1, x.undo());
        due("weight", 5, x.of(0, 0));
        due("none may still be", 0, x.undo());
        due("weight", 1, x.of(0, 0));
        says(30, "STATE: none.");
        due("none", STATE, x.undo());
        due("weight", 1, x.of(0, 0));
        due("of a new one", STATE, new FoxHoles().undo());
        FoxHoles y = line(1);
        y.hide(1);
        y.body(0);
        y.row(0, 0, 1);
        due("all else is no change", STATE, y.undo());
    }

    private static void redo() {
        says(31, "DONE AGAIN: how many may still be.");
        FoxHoles x = line(1);
        x.mend(0, 0, 5);
        x.mend(0, 0, 6);
        x.undo();
        x.undo();
        due("one may still be", 1, x.redo());
        due("weight", 5, x.of(0, 0));
        due("none may still be", 0, x.redo());
        due("weight", 6, x.of(0, 0));
        says(31, "STATE: none.");
        due("none", STATE, x.redo());
        due("weight", 6, x.of(0, 0));
        x.undo();
        x.mend(0, 1, 1);
        due("another came behind", STATE, x.redo());
        due("of a new one", STATE, new FoxHoles().redo());
    }

    // ---- acts, shelves

    private static void body() {
        says(32, "A HOLE of a KIND (0 .. 7) is kept: its number.");
        FoxHoles x = new FoxHoles();
        due("kind 0", 0, x.body(0));
        due("kind 7", 1, x.body(7));
        says(32, "BAD, FULL.");
        for (int kind : new int[] {-1, 8, LEAST_INT, MOST_INT}) {
            due("kind " + kind, BAD, x.body(kind));
        }
        for (int i = 2; i < 50; i++) {
            due("body", i, x.body(7));
        }
        due("a 51st", FULL, x.body(0));
        due("50 still", 50, x.count(5));
        due("BAD ahead of FULL", BAD, x.body(8));
    }

    private static void act() {
        says(33, "An ACT (0 .. 3) of a HOLE with x.");
        FoxHoles x = new FoxHoles();
        x.body(0);
        x.body(0);
        due("0", 8, x.act(1, 0, 7));
        due("1", 16, x.act(1, 1, 7));
        due("2", 6, x.act(1, 2, 7));
        due("3", 16, x.act(1, 3, 7));
        due("wraps", LEAST_INT, x.act(1, 0, MOST_INT));
        due("wraps", 2, x.act(1, 1, LEAST_INT));
        due("least", LEAST_INT + 1, x.act(1, 2, LEAST_INT));
        says(33, "0, and no TRACE then: no such HOLE, ACT.");
        int[][] no = {{2, 0}, {-1, 0}, {LEAST_INT, 0}, {MOST_INT, 0}, {0, 4}, {0, -1}, {0, LEAST_INT}, {0, MOST_INT}};
        for (int[] bodyAct : no) {
            x.act(1, 3, 7);
            due("four ran", 4, x.count(6));
            due("act(" + bodyAct[0] + "," + bodyAct[1] + ")", 0, x.act(bodyAct[0], bodyAct[1], 7));
            due("no trace", 0, x.count(6));
            due("no trace", BAD, x.trace(0));
        }
        due("of a new one", 0, new FoxHoles().act(0, 0, 7));
    }

    private static void trace() {
        says(34, "THE TRACE's i-th body.");
        FoxHoles x = new FoxHoles();
        x.body(7);
        x.act(0, 3, 0);
        due("the first", 81, x.trace(0));
        due("the 14th", 1, x.trace(13));
        says(34, "BAD.");
        for (int i : new int[] {-1, 14, 23, 24, LEAST_INT, MOST_INT}) {
            due("trace(" + i + ")", BAD, x.trace(i));
        }
        due("of a new one", BAD, new FoxHoles().trace(0));
    }

    private static void keep() {
        says(35, "A SHELF holds nothing (body -1), or a HOLE: 1.");
        FoxHoles x = new FoxHoles();
        x.body(2);
        due("a body", 1, x.keep(5, 0));
        due("taken", 2, x.taken(5, 2));
        due("nothing", 1, x.keep(5, -1));
        due("nothing there", NOTHING, x.taken(5, 2));
        due("nothing again", 1, x.keep(5, -1));
        x.row(0, 0, 1);
        due("over a row", 1, x.keep(0, 0));
        due("taken", 2, x.taken(0, 0));
        says(35, "BAD.");
        for (int shelf : NO_SHELVES) {
            due("shelf " + shelf, BAD, x.keep(shelf, 0));
            due("shelf " + shelf + ", nothing", BAD, x.keep(shelf, -1));
        }
        for (int body : new int[] {-2, 1, 49, 50, LEAST_INT, MOST_INT}) {
            due("body " + body, BAD, x.keep(0, body));
        }
        due("it is there yet", 2, x.taken(0, 0));
    }

    private static void row() {
        says(36, "A SHELF holds a ROW: 1.");
        FoxHoles x = new FoxHoles();
        for (int sort = 0; sort < 5; sort++) {
            due("none", 1, x.row(5, sort, 0));
            due("60", 1, x.row(5, sort, 60));
            due("its last", 0, x.element(5, 59));
        }
        says(36, "BAD (sort, n above 60); -14.");
        for (int sort : new int[] {-1, 5, LEAST_INT, MOST_INT}) {
            due("sort " + sort, BAD, x.row(0, sort, 1));
            due("sort " + sort + ", BAD ahead of -14", BAD, x.row(0, sort, -1));
        }
        for (int shelf : NO_SHELVES) {
            due("shelf " + shelf, BAD, x.row(shelf, 0, 1));
            due("shelf " + shelf + ", BAD ahead of -14", BAD, x.row(shelf, 0, -1));
        }
        due("61", BAD, x.row(0, 0, 61));
        due("most", BAD, x.row(0, 0, MOST_INT));
        due("-1", SIZE, x.row(0, 0, -1));
        due("least", SIZE, x.row(0, 0, LEAST_INT));
        due("nothing there", NOTHING, x.put(0, 0, 1));
    }

    private static void put() {
        says(37, "Element i of a ROW becomes v: 1.");
        FoxHoles x = new FoxHoles();
        x.row(5, 3, 60);
        due("the first", 1, x.put(5, 0, LEAST + 1));
        due("the last", 1, x.put(5, 59, Long.MAX_VALUE));
        due("the first", LEAST + 1, x.element(5, 0));
        due("the last", Long.MAX_VALUE, x.element(5, 59));
        says(37, "BAD, -11, -12, -13.");
        for (int shelf : NO_SHELVES) {
            due("shelf " + shelf, BAD, x.put(shelf, 0, 1));
        }
        x.body(0);
        x.keep(1, 0);
        for (int i : new int[] {-1, 60, LEAST_INT, MOST_INT}) {
            due("place " + i, PLACE, x.put(5, i, 1));
            due("-11 ahead of -13", NOTHING, x.put(0, i, 1));
            due("-12 ahead of -13", OTHER, x.put(1, i, 1));
            due("BAD ahead of -13", BAD, x.put(6, i, 1));
        }
        x.row(5, 3, 0);
        due("the first of none", PLACE, x.put(5, 0, 1));
    }

    private static void element() {
        says(38, "Element i of a ROW; Long.MIN_VALUE: BAD, -11 to -13.");
        FoxHoles x = new FoxHoles();
        row(x, 5, 3, 7, LEAST, -8);
        due("the first", 7, x.element(5, 0));
        due("the least number itself", LEAST, x.element(5, 1));
        due("the last", -8, x.element(5, 2));
        for (int i : new int[] {-1, 3, 60, LEAST_INT, MOST_INT}) {
            due("place " + i, LEAST, x.element(5, i));
        }
        for (int shelf : NO_SHELVES) {
            due("shelf " + shelf, LEAST, x.element(shelf, 0));
        }
        due("nothing", LEAST, x.element(0, 0));
        x.body(0);
        x.keep(0, 0);
        due("a body", LEAST, x.element(0, 0));
        x.row(0, 0, 0);
        due("the first of none", LEAST, x.element(0, 0));
    }

    private static void rowIs(FoxHoles x, int shelf, long... elements) {
        for (int i = 0; i < elements.length; i++) {
            due("element " + i, elements[i], x.element(shelf, i));
        }
        due("behind the last", LEAST, x.element(shelf, elements.length));
    }

    private static void shift() {
        says(39, "n elements of a ROW from i on come to another one (or the same) from j on, as they all were before: n.");
        FoxHoles x = new FoxHoles();
        row(x, 0, 3, 1, 2, 3, 4);
        row(x, 1, 3, 9, 9, 9, 9);
        due("all", 4, x.shift(0, 0, 1, 0, 4));
        rowIs(x, 1, 1, 2, 3, 4);
        due("up, over itself", 3, x.shift(0, 0, 0, 1, 3));
        rowIs(x, 0, 1, 1, 2, 3);
        due("down, over itself", 3, x.shift(1, 1, 1, 0, 3));
        rowIs(x, 1, 2, 3, 4, 4);
        due("onto itself", 4, x.shift(1, 0, 1, 0, 4));
        rowIs(x, 1, 2, 3, 4, 4);
        due("none, from the end to the end", 0, x.shift(0, 4, 1, 4, 0));
        due("none of none", 1, x.row(2, 3, 0));
        due("none of none", 0, x.shift(2, 0, 0, 0, 0));
        says(39, "BAD, -11 (either), -12 (no ROWS, or of unlike sorts), -13.");
        for (int shelf : NO_SHELVES) {
            due("shelf " + shelf, BAD, x.shift(shelf, 0, 0, 0, 1));
            due("to shelf " + shelf, BAD, x.shift(0, 0, shelf, 0, 1));
            due("BAD ahead of -11", BAD, x.shift(5, 0, shelf, 0, 1));
        }
        due("nothing of the one", NOTHING, x.shift(5, 0, 0, 0, 1));
        due("nothing of the other", NOTHING, x.shift(0, 0, 5, 0, 1));
        x.body(0);
        x.keep(4, 0);
        due("a body", OTHER, x.shift(4, 0, 0, 0, 1));
        due("to a body", OTHER, x.shift(0, 0, 4, 0, 1));
        due("a body to itself", OTHER, x.shift(4, 0, 4, 0, 1));
        due("-11 ahead of -12", NOTHING, x.shift(4, 0, 5, 0, 1));
        for (int sort = 0; sort < 5; sort++) {
            x.row(3, sort, 4);
            due("to sort " + sort, sort == 3 ? 1 : OTHER, x.shift(0, 0, 3, 0, 1));
            due("of sort " + sort, sort == 3 ? 1 : OTHER, x.shift(3, 0, 0, 0, 1));
        }
        due("-12 ahead of -13", OTHER, x.shift(0, 9, 3, 9, 9));
        int[][] no = {
            {-1, 0, 1}, {0, -1, 1}, {4, 0, 1}, {0, 4, 1}, {1, 0, 4}, {0, 1, 4}, {0, 0, 5}, {5, 0, 0}, {0, 5, 0}, {0, 0, -1}, {1, 1, -1},
            {LEAST_INT, 0, 0}, {0, LEAST_INT, 0}, {MOST_INT, 0, MOST_INT}, {0, MOST_INT, 1}, {0, 0, MOST_INT}, {0, 0, LEAST_INT},
        };
        for (int[] ijn : no) {
            due("from " + ijn[0] + " to " + ijn[1] + ", " + ijn[2], PLACE, x.shift(0, ijn[0], 1, ijn[1], ijn[2]));
        }
        rowIs(x, 1, 2, 3, 4, 4);
    }

    private static void taken() {
        says(40, "What a SHELF holds, taken for a HOLE of KIND k (0 .. 7), or under it: its KIND.");
        FoxHoles x = new FoxHoles();
        x.body(0);
        x.body(7);
        x.keep(0, 0);
        x.keep(5, 1);
        due("0 for 0", 0, x.taken(0, 0));
        due("7 for 0", 7, x.taken(5, 0));
        due("7 for 1", 7, x.taken(5, 1));
        due("7 for 4", 7, x.taken(5, 4));
        due("7 for 7", 7, x.taken(5, 7));
        says(40, "BAD, -11, -12.");
        due("0 for 7", OTHER, x.taken(0, 7));
        due("7 for 2", OTHER, x.taken(5, 2));
        for (int k : new int[] {-1, 8, LEAST_INT, MOST_INT}) {
            due("kind " + k, BAD, x.taken(0, k));
            due("BAD ahead of -11", BAD, x.taken(1, k));
        }
        for (int shelf : NO_SHELVES) {
            due("shelf " + shelf, BAD, x.taken(shelf, 0));
        }
        due("nothing", NOTHING, x.taken(1, 0));
        for (int sort = 0; sort < 5; sort++) {
            x.row(1, sort, 1);
            due("a row", OTHER, x.taken(1, 0));
        }
    }

    private static void count() {
        says(41, "How many: 0 HOLES, 1 PATHS, 2 that are OPEN, 3 bytes on THE TAPE, 4 changes that may be UNDONE, 5 BODIES,");
        FoxHoles x = new FoxHoles();
        for (int what = 0; what <= 6; what++) {
            due("of a new one", 0, x.count(what));
        }
        FoxHoles full = fullWarren();
        for (int i = 0; i < 120; i++) {
            full.feed('a');
        }
        for (int i = 0; i < 50; i++) {
            full.body(7);
        }
        for (int i = 1; i <= 41; i++) {
            full.mend(0, 3, i);
        }
        int[] most = {10, 20, 10, 120, 40, 50};
        for (int what = 0; what <= 5; what++) {
            due("of a full one, " + what, most[what], full.count(what));
        }
        full.mend(3, 1, 1);
        due("open", 9, full.count(2));
        due("holes", 10, full.count(0));
        full.undo();
        due("open again", 10, full.count(2));
        due("changes", 39, full.count(4));
        says(41, "6 bodies that ran in the latest act().");
        full.act(49, 3, 1);
        due("14", 14, full.count(6));
        full.act(49, 0, 1);
        due("2", 2, full.count(6));
        full.act(50, 0, 1);
        due("0", 0, full.count(6));
        says(41, "BAD.");
        for (int what : new int[] {-1, 7, LEAST_INT, MOST_INT}) {
            due("count(" + what + ")", BAD, full.count(what));
        }
    }
}
