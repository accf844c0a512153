import java.util.Arrays;

/** Each sentence of the document's Terms, with a test of its own of the boundary cases that it names. */
public final class TermsEdges extends Sentences {
    public static void main(String[] args) {
        readDocument(args);
        holesPathsLookers();
        tape();
        grammar();
        operands();
        arithmetic();
        lines();
        faults();
        whereTheLawLeads();
        days();
        where();
        prints();
        sureRows();
        from();
        ringArmsStops();
        likely();
        luck();
        dogsAndKept();
        drawn();
        ways();
        inDeed();
        led();
        changes();
        image();
        bodies();
        bodiesOfActs();
        shelves();
        holesFromARow();
        answers();
        allNamed(TERMS, TERMS, "Ahead of the calls");
        end();
    }

    // ---- 1

    private static void holesPathsLookers() {
        says(TERMS, "9, as they come: WEIGHT (0 .. 9; 1 at first: how likely it begins there)");
        FoxHoles x = new FoxHoles();
        due("a weight too small", BAD, x.hole(-1));
        due("a weight too large", BAD, x.hole(10));
        for (int i = 0; i < 10; i++) {
            due("as they come", i, x.hole(i % 2 == 0 ? 0 : 9));
        }
        due("one too many", FULL, x.hole(1));
        looks(x, 0, 0);
        due("of weight 0 it never begins", 0, x.drawn(0, 1, 6001, 0));
        x = holesOf(0, 9);
        looks(x, 0, 1);
        due("it always begins in the one of 9", 60, x.drawn(0, 1, 6001, 0));
        says(TERMS, "STOPPED (0, 1; 0 at first)");
        due("at first", 0, x.of(1, 1));
        due("1", 0, x.mend(1, 1, 1));
        due("2", BAD, x.mend(1, 1, 2));
        due("-1", BAD, x.mend(1, 1, -1));
        due("0", 1, x.mend(1, 1, 0));
        says(TERMS, "PATHS: pairs of HOLES, 20 at most, 4 at most of each HOLE.");
        x = fullWarren();
        due("20", 20, x.count(1));
        due("4 of each", 4, x.of(0, 2));
        due("a 21st", FULL, x.path(5));
        x = warren(6, 1, 2, 3, 4);
        due("a fifth of one hole", FULL, x.path(5));
        due("of another", 5, x.path(15));
        says(TERMS, "LOOKERS (1, 2; 1 at first).");
        due("at first", 1, x.of(0, 10));
        due("0", BAD, x.mend(0, 2, 0));
        due("3", BAD, x.mend(0, 2, 3));
        due("2", 1, x.mend(0, 2, 2));
        due("1", 2, x.mend(0, 2, 1));
        says(TERMS, "SLEEP (bits 0 .. 127 of a week's DAYS; 0 at first)");
        due("at first", 0, x.of(0, 11));
        due("-1", BAD, x.mend(0, 3, -1));
        due("128", BAD, x.mend(0, 3, 128));
        due("127", 0, x.mend(0, 3, 127));
        due("0", 127, x.mend(0, 3, 0));
        says(TERMS, "in the morning of DAY t nobody looks, if bit t by 7 is 1.");
        x = line(1);
        for (int day = 0; day < 15; day++) {
            onlyLook(x, 0, 15, day, 0);
            for (int bit = 0; bit < 7; bit++) {
                x.mend(0, 3, 1 << bit);
                due("day " + day + ", bit " + bit, day % 7 == bit ? NOT : day + 1, x.caught(0));
            }
        }
        says(TERMS, "OPEN: not STOPPED.");
        x = line(2);
        due("both", 2, x.count(2));
        x.mend(0, 1, 1);
        due("one", 1, x.count(2));
        x.mend(1, 1, 1);
        due("none", 0, x.count(2));
    }

    // ---- the law

    private static void good(String text) {
        due("law " + text, 1, law(line(2), text));
    }

    private static void fault(String text, int place) {
        due("law " + text, -100 - place, law(line(2), text));
    }

    /** By the only hole, from which one may go to itself if the text has that worth. */
    private static void worth(String text, int value) {
        FoxHoles x = line(1);
        due("law (" + text + ")=" + value, 1, law(x, "(" + text + ")=" + value));
        due("(" + text + ")=" + value, 1, x.of(0, 3));
    }

    private static String times(int n, String text) {
        StringBuilder b = new StringBuilder();
        for (int i = 0; i < n; i++) {
            b.append(text);
        }
        return b.toString();
    }

    private static void tape() {
        says(TERMS, "THE LAW is a TEXT by THE TAPE (at most 120 bytes)");
        FoxHoles x = line(2);
        String whole = "11" + times(59, "+1");
        for (int i = 0; i < 120; i++) {
            due("feed", i + 1, x.feed(whole.charAt(i)));
        }
        due("a 121st", FULL, x.feed('1'));
        due("all 120 are read", 1, x.law());
        due("goes", 3, x.of(0, 3));
        says(TERMS, "LINES, one or more, parted by ;");
        fault("", 0);
        good("a");
        good("11" + times(59, ";1"));
        fault(";", 0);
        fault("a;", 2);
        fault("a;;b", 2);
    }

    private static void grammar() {
        says(TERMS, "LINE: E, or E ? E (what counts if the first is not 0).");
        good("a");
        good("a?b");
        fault("?b", 0);
        fault("a?", 2);
        fault("a??b", 2);
        fault("a?b?n", 3);
        fault("(a?b)", 2);
        says(TERMS, "E = A { | A }.");
        worth("0|0", 0);
        worth("0|0|2", 1);
        fault("|a", 0);
        fault("a||b", 2);
        fault("a|", 2);
        says(TERMS, "A = B { & B }.");
        worth("1&2&3", 1);
        worth("1&2&0", 0);
        worth("1|1&0", 1);
        fault("&a", 0);
        fault("a&&b", 2);
        fault("a&", 2);
        says(TERMS, "B = S, or S < S, S = S, S > S.");
        worth("2<3", 1);
        worth("3<3", 0);
        worth("3=3", 1);
        worth("3>3", 0);
        worth("4>3", 1);
        worth("1&2=1", 0);
        worth("2+1=3", 1);
        fault("1<2<3", 3);
        fault("1=2>3", 3);
        fault("1<=2", 2);
        fault("<1", 0);
        fault("1>", 2);
        says(TERMS, "S = P { + P, - P }.");
        worth("9-3-2", 4);
        worth("9-3+2", 8);
        worth("9-2*3", 3);
        fault("+1", 0);
        fault("1++1", 2);
        fault("1-", 2);
        says(TERMS, "P = O { * O, / O, % O }.");
        worth("12/2*3", 18);
        worth("12/2/3", 2);
        worth("17%10%4", 3);
        worth("2*7%4", 2);
        fault("*1", 0);
        fault("1*/1", 2);
        fault("1%", 2);
        says(TERMS, "No blanks.");
        fault(" a", 0);
        fault("a ", 1);
        fault("a +b", 1);
        fault("a\t", 1);
        fault("a\n", 1);
    }

    private static void operands() {
        says(TERMS, "O = a number (1 to 4 digits), a NAME, ! O, - O, ( E ).");
        worth("7", 7);
        worth("0007", 7);
        worth("9999", 9999);
        fault("99999", 4);
        fault("a+00000", 6);
        worth("!7", 0);
        worth("!0", 1);
        worth("-7+8", 1);
        worth("--7", 7);
        worth("!!7", 1);
        worth("-!0", -1);
        worth("!-7", 0);
        worth("8--7", 15);
        worth("(1|0)+1", 2);
        fault("()", 1);
        fault("(1", 2);
        fault("1)", 1);
        fault("1(", 1);
        fault("1!", 1);
        fault("!", 1);
        fault("-", 1);
        fault("1a", 1);
        fault("a1", 1);
        says(TERMS, "NAMES: a the HOLE it is in, b one it may go to, p 1 if there is a PATH, w WEIGHT of b, n how many HOLES.");
        FoxHoles x = holesOf(3, 0, 9, 3);
        x.path(1);
        x.path(32);
        String[] texts = {"a=3", "b=3", "p", "w=9", "w=0", "n=4", "n=3", "p=1", "p=0"};
        int[] from3 = {15, 8, 4, 4, 2, 15, 0, 4, 11};
        int[] from0 = {0, 8, 2, 4, 2, 15, 0, 2, 13};
        for (int i = 0; i < texts.length; i++) {
            due("law " + texts[i], 1, law(x, texts[i]));
            due(texts[i] + " from 3", from3[i], x.of(3, 3));
            due(texts[i] + " from 0", from0[i], x.of(0, 3));
        }
        law(x, "w=5");
        due("no weight is 5", 0, x.of(0, 3));
        x.mend(2, 0, 5);
        due("a weight is mended", 4, x.of(0, 3));
        x.undo();
        due("and undone", 0, x.of(0, 3));
        x.redo();
        due("and done again", 4, x.of(0, 3));
        law(x, "n=5");
        due("four holes", 0, x.of(0, 3));
        x.hole(1);
        due("five holes", 31, x.of(0, 3));
        for (char c = 0; c < 256; c++) {
            boolean begins = "abpwn0123456789!-(".indexOf(c) >= 0;
            boolean alone = "abpwn0123456789".indexOf(c) >= 0;
            due("law of byte " + (int) c, alone ? 1 : begins ? -101 : -100, law(line(1), String.valueOf(c)));
        }
        says(TERMS, "At most 6 of ( ! - ahead of an O are open at once.");
        for (String sign : new String[] {"(", "!", "-"}) {
            String end = sign.equals("(") ? ")" : "";
            good(times(6, sign) + "a" + times(6, end));
            fault(times(7, sign) + "a" + times(7, end), 6);
        }
        good("(!-(!-a))");
        fault("(!-(!-(a)))", 6);
        fault("a+(!-(!-!a))", 8);
        good("!!!!!!a-!!!!!!a");
        good("((((((a))))))*((((((a))))))");
        good("((((((a)))))-(1)-!1)");
        good("((((((a-1-1))))))");
        fault("((((((a--1))))))", 8);
        good("!!!!!!a?!!!!!!b;!!!!!!p");
    }

    private static void arithmetic() {
        String least = "2048*1024*1024";
        says(TERMS, "Ints that wrap");
        worth(least + "<0", 1);
        worth(least + "-1>0", 1);
        worth(least + "*2", 0);
        worth("-(" + least + ")<0", 1);
        worth("4096*4096*256+7", 7);
        worth(least + "/-1=" + least, 1);
        worth(least + "%-1", 0);
        says(TERMS, "/ and % toward 0, by 0 they give 0");
        worth("7/2", 3);
        worth("-7/2", -3);
        worth("7/-2", -3);
        worth("-7/-2", 3);
        worth("7%3", 1);
        worth("-7%3", -1);
        worth("7%-3", 1);
        worth("-7%-3", -1);
        worth("7/0", 0);
        worth("7%0", 0);
        worth("0/0", 0);
        worth("0%0", 0);
        worth(least + "/0", 0);
        says(TERMS, "| & < = > ! give 1, 0; all is worked out.");
        worth("5|0", 1);
        worth("0|-5", 1);
        worth("5&-7", 1);
        worth("5&0", 0);
        worth("(2<5)+(5>2)+(5=5)", 3);
        worth("(5<2)+(2>5)+(2=5)", 0);
        worth("!5+!-5", 0);
        worth("!0", 1);
        worth("1|1/0", 1);
        worth("0&1%0", 0);
    }

    private static void lines() {
        says(TERMS, "The first LINE without a first E, or whose first E is not 0, counts; none: 0.");
        FoxHoles x = line(3);
        String[] texts = {"b=0;b=1", "0?1;b=1", "-1?b=1;1", "0?1", "0?1;0?1", "a=1?b=2;a=2?b=0", "a=1?0;1", "0;1", "1?0;1"};
        int[][] from = {{1, 1, 1}, {2, 2, 2}, {2, 2, 2}, {0, 0, 0}, {0, 0, 0}, {0, 4, 1}, {7, 0, 7}, {0, 0, 0}, {0, 0, 0}};
        for (int i = 0; i < texts.length; i++) {
            due("law " + texts[i], 1, law(x, texts[i]));
            for (int h = 0; h < 3; h++) {
                due(texts[i] + " from " + h, from[i][h], x.of(h, 3));
            }
        }
    }

    private static void faults() {
        says(TERMS, "FAULT: the place (from 0) of the first byte with which no TEXT goes on");
        fault("x", 0);
        fault("ax", 1);
        fault("a;b?p|w&n<1+2*3x", 15);
        fault("a)b(", 1);
        fault("((a)", 4);
        fault("((a)))", 5);
        fault("a" + (char) 0, 1);
        fault("a" + (char) 255, 1);
        fault(times(59, "a+") + "a)", 119);
        says(TERMS, "the length, if it ends too early.");
        fault("", 0);
        fault("(", 1);
        fault("a+", 2);
        fault("a?b;", 4);
        fault("(a", 2);
        fault(times(60, "a+"), 120);
    }

    private static void whereTheLawLeads() {
        says(TERMS, "Not 0: it may go from a to b in a night (b may be a); only between OPEN ones.");
        FoxHoles x = line(3);
        law(x, "a-b");
        due("below 0 is not 0", 6, x.of(0, 3));
        law(x, "a=b");
        due("to where it is", 2, x.of(1, 3));
        law(x, "1");
        x.mend(1, 1, 1);
        due("not to a stopped one", 5, x.of(0, 3));
        due("not from a stopped one", 0, x.of(1, 3));
        says(TERMS, "Without a text: p.");
        x = line(3);
        due("by a path", 5, x.of(1, 3));
        due("it never stays", 2, x.of(0, 3));
        law(x, "(");
        due("a faulty one is no text", 5, x.of(1, 3));
        says(TERMS, "(One that may go nowhere stays.)");
        looks(x, 0, -1, -1);
        x.mend(1, 1, 1);
        due("alone", 5, x.mayBe(0, 2));
        law(x, "0");
        x.mend(1, 1, 0);
        due("all of them", 7, x.mayBe(0, 2));
        looks(x, 0, 0, 1, 2);
        due("so three looks are enough", 3, x.caught(0));
    }

    private static void days() {
        says(TERMS, "A DAY t (from 0 on): in the morning one looks into HOLES (as many as LOOKERS at most; none on a DAY of SLEEP)");
        FoxHoles x = warren(3);
        x.hide(1);
        due("from 0 on", 0, x.of(0, 12));
        looks(x, 0, 0, 1);
        due("one of them", 6, x.mayBe(0, 1));
        x.mend(0, 2, 2);
        due("two of them", 4, x.mayBe(0, 1));
        x.mend(0, 3, 1);
        due("none", 7, x.mayBe(0, 1));
        says(TERMS, "is it there, it is caught.");
        x = holesOf(0, 1);
        x.hide(1);
        due("not there", 0, x.look(0));
        due("there", 1, x.look(11));
        due("caught", 1, x.of(0, 14));
        says(TERMS, "In the night it goes on.");
        x.path(1);
        x.hide(1);
        due("in 1 at first", 0, x.look(0));
        due("in 0 behind a night", 1, x.look(0));
    }

    // ---- 2

    private static void where() {
        says(TERMS, "all OPEN ones at first; a morning takes those looked into, a night goes on by THE LAW.");
        FoxHoles x = line(4);
        x.mend(3, 1, 1);
        looks(x, 0, 0, -1);
        due("at first", 7, x.mayBe(0, 0));
        due("a morning", 6, x.mayBe(0, 1));
        due("a night", 7, x.mayBe(0, 2));
        law(x, "b=2");
        due("no night ahead of the first morning", 6, x.mayBe(0, 1));
        due("a night by a text", 4, x.mayBe(0, 2));
        says(TERMS, "Told LOOKS: a ROW of bytes on a SHELF, by LOOKERS each morning (with 2: two bytes; a byte that is no HOLE: no look;");
        x = warren(4);
        looks(x, 0, 0, 1, 2);
        due("one byte", 14, x.mayBe(0, 1));
        due("three mornings", 8, x.mayBe(0, 3));
        x.mend(0, 2, 2);
        due("two bytes", 12, x.mayBe(0, 1));
        due("one byte is left", 8, x.mayBe(0, 2));
        due("no third morning", BAD, x.mayBe(0, 3));
        looks(x, 0, 3, 3);
        due("both alike", 7, x.mayBe(0, 1));
        for (int no : new int[] {4, 9, 10, 127, -1, -128, 255}) {
            looks(x, 0, no, 0);
            due("byte " + no, 14, x.mayBe(0, 1));
        }
        x.mend(0, 1, 1);
        looks(x, 0, 0, 1);
        due("a stopped one", 12, x.mayBe(0, 1));
        says(TERMS, "on a DAY of SLEEP they are there, but nobody looks).");
        x = warren(4);
        x.mend(0, 3, 2);
        looks(x, 0, 0, 1, 2);
        due("day 1 is there", 14, x.mayBe(0, 2));
        due("day 2", 10, x.mayBe(0, 3));
        x.mend(0, 2, 2);
        looks(x, 0, 0, 1, 2, 3, 3, 3);
        due("two of day 1 are there", 12, x.mayBe(0, 2));
        due("two of day 2", 4, x.mayBe(0, 3));
        says(TERMS, "MAY BE behind k mornings of it (ahead of that night; 0: at first): as bits.");
        x = line(2);
        looks(x, 0, 0, 0);
        due("at first", 3, x.mayBe(0, 0));
        due("ahead of that night", 2, x.mayBe(0, 1));
        due("behind all", 0, x.mayBe(0, 2));
        says(TERMS, "CAUGHT: the morning behind which it can be nowhere (0: no HOLE is OPEN); NOT.");
        due("the second", 2, x.caught(0));
        looks(x, 0, 0, 1);
        due("not", NOT, x.caught(0));
        x.mend(0, 1, 1);
        due("one is open", 2, x.caught(0));
        x.mend(1, 1, 1);
        due("none is open", 0, x.caught(0));
        x = new FoxHoles();
        looks(x, 0);
        due("no hole", 0, x.caught(0));
    }

    private static void prints() {
        says(TERMS, "PRINTS: a ROW of shorts: bits of HOLES in which it must have been ahead of each morning, with told LOOKS:");
        FoxHoles x = line(4);
        looks(x, 0, 1, -1, -1);
        prints(x, 1, 3, 14, 12);
        due("a print and a look", 1, x.printed(1, 1));
        due("the next print", 2, x.printed(1, 2));
        due("the third print", 4, x.printed(1, 3));
        says(TERMS, "MAY BE likewise (what lacks does not matter)");
        prints(x, 1);
        due("all lack", 13, x.printed(1, 1));
        due("all lack, as by looks alone", x.mayBe(0, 3), x.printed(1, 3));
        prints(x, 1, 1);
        due("two lack", 5, x.printed(1, 3));
        prints(x, 1, 1, 15, 15, 0);
        due("more than mornings", 5, x.printed(1, 3));
        due("at first none counts", 15, x.printed(1, 0));
        prints(x, 1, -1);
        due("all bits", 13, x.printed(1, 1));
        prints(x, 1, 0);
        due("no bits", 0, x.printed(1, 1));
        says(TERMS, "AHEAD: HOLES in which it can have been ahead of morning k, by all LOOKS and PRINTS, later ones, too.");
        looks(x, 0, -1, -1, -1);
        prints(x, 1, 15, 15, 1);
        due("by a later print", 5, x.ahead(1, 1));
        due("of the next", 2, x.ahead(1, 2));
        due("of the last", 1, x.ahead(1, 3));
        looks(x, 0, -1, -1, 0);
        due("by a later look", 0, x.ahead(1, 1));
        looks(x, 0, 2, -1, -1);
        due("by its own look", 1, x.ahead(1, 1));
    }

    private static void sureRows() {
        says(TERMS, "SURE: the fewest mornings (those of SLEEP count) by which it is surely caught, by the best LOOKS;");
        sureRow(new FoxHoles(), 0);
        sureRow(line(1), 1, 0);
        sureRow(line(3), 2, 1, 1);
        FoxHoles x = line(1);
        x.mend(0, 3, 63);
        sureRow(x, 7, NOT, NOT, NOT, NOT, NOT, NOT, 0);
        says(TERMS, "with 2 LOOKERS the lesser, then the other one, unlike;");
        x = warren(4);
        x.mend(0, 2, 2);
        sureRow(x, 2, 0, 1, 2, 3);
        x = line(3);
        x.mend(0, 2, 2);
        sureRow(x, 2, 0, 1, 0, 1);
        FoxHoles apart = warren(5);
        apart.mend(0, 2, 2);
        apart.mend(1, 1, 1);
        apart.mend(3, 1, 1);
        sureRow(apart, 2, 0, 2, 0, 4);
        says(TERMS, "with one OPEN HOLE that and NOT;");
        x.mend(0, 1, 1);
        x.mend(1, 1, 1);
        sureRow(x, 1, 2, NOT);
        says(TERMS, "OPEN ones alone; the least numbers first;");
        x = warren(4);
        law(x, "b=3");
        sureRow(x, 2, 0, 3);
        x.mend(0, 1, 1);
        sureRow(x, 2, 1, 3);
        x.mend(0, 2, 2);
        sureRow(x, 2, 1, 2, 1, 3);
        says(TERMS, "a morning of SLEEP has as many, each NOT);");
        x.mend(0, 3, 1);
        sureRow(x, 2, NOT, NOT, 1, 3);
        x.mend(0, 2, 1);
        sureRow(x, 2, NOT, 3);
        says(TERMS, "NOT: never. FROM");
        x.mend(0, 3, 127);
        sureRow(x, NOT);
        x.mend(0, 3, 0);
        law(x, "1");
        sureRow(x, NOT);
    }

    private static void from() {
        says(TERMS, "FROM: likewise from told HOLES (bits) on, from DAY t by 7 on.");
        FoxHoles x = line(2);
        x.mend(0, 3, 64);
        due("of none", 0, x.sureFrom(0, 6));
        due("of one, on day 5", 1, x.sureFrom(1, 5));
        due("of one, on day 6", 2, x.sureFrom(1, 6));
        due("of both, on day 4", 2, x.sureFrom(3, 4));
        due("of both, over the week's end", 3, x.sureFrom(3, 5));
        due("of both, on day 6", 3, x.sureFrom(3, 6));
        x.mend(0, 3, 127);
        due("never", NOT, x.sureFrom(3, 0));
    }

    private static void ringArmsStops() {
        says(TERMS, "RING: is there a row of PATHS of OPEN HOLES that comes back without one twice (1, 0);");
        due("two holes", 0, line(2).ring());
        due("a line of ten", 0, line(10).ring());
        FoxHoles x = warren(3, 1, 12, 20);
        due("three", 1, x.ring());
        x.mend(2, 1, 1);
        due("one stopped", 0, x.ring());
        due("all ten", 1, fullWarren().ring());
        says(TERMS, "ARMS: of how many OPEN HOLES go three arms of three PATHS each (rows of OPEN HOLES, no HOLE twice in all three).");
        x = warren(10, 1, 12, 23, 4, 45, 56, 7, 78, 89);
        due("one", 1, x.arms());
        x.mend(6, 1, 1);
        due("an end stopped", 0, x.arms());
        x.mend(6, 1, 0);
        x.mend(0, 1, 1);
        due("the middle stopped", 0, x.arms());
        due("arms of two", 0, warren(7, 1, 12, 3, 34, 5, 56).arms());
        due("arms that share their ends", 0, warren(8, 1, 12, 27, 3, 34, 47, 5, 56, 67).arms());
        says(TERMS, "TO STOP: the fewest more HOLES to be STOPPED (bits; of like ones the least) so that it is SURE within m mornings");
        x = warren(3, 1, 12, 20);
        due("one of three, the least", 1, x.toStop(2));
        x.mend(0, 1, 1);
        due("more", 0, x.toStop(2));
        due("two of three", 2, x.toStop(1));
        says(TERMS, "(1 .. 40; of the others; all STOPPED: 0 mornings).");
        due("0", BAD, x.toStop(0));
        due("41", BAD, x.toStop(41));
        x = warren(6);
        x.mend(0, 3, 127 & ~16);
        due("mornings", 40, x.sure(-1));
        due("within 40", 0, x.toStop(40));
        due("within 39", 1, x.toStop(39));
        x.mend(0, 3, 127 & ~32);
        due("mornings", 41, x.sure(-1));
        due("41 within 40", 1, x.toStop(40));
        x.mend(0, 3, 127);
        due("all", 63, x.toStop(40));
    }

    // ---- 3

    private static void part(String call, long above, long below, long gotAbove, long gotBelow) {
        due(call + ", above", above, gotAbove);
        due(call + ", below", below, gotBelow);
    }

    private static void likelyIs(FoxHoles x, int hm, long above, long below) {
        part("likely " + hm, above, below, x.likely(0, hm, 0), x.likely(0, hm, 1));
    }

    private static void likely() {
        says(TERMS, "3 AT RANDOM (by PATHS to OPEN ones alone, all alike; without one it stays):");
        FoxHoles x = warren(4, 1, 2, 3);
        looks(x, 0, -1, -1);
        law(x, "b=3");
        likelyIs(x, 2, 3, 4);
        likelyIs(x, 302, 1, 12);
        x.mend(3, 1, 1);
        likelyIs(x, 102, 1, 6);
        likelyIs(x, 302, 0, 1);
        x.mend(0, 1, 1);
        likelyIs(x, 102, 1, 2);
        says(TERMS, "LIKELY: behind told LOOKS in vain (12 mornings at most count; ahead of that night) how likely it is in a HOLE:");
        x = line(2);
        looks(x, 0, -1, -1, -1, -1, -1, -1, -1, -1, -1, -1, -1, 0, 0);
        likelyIs(x, 11, 1, 2);
        likelyIs(x, 12, 0, 1);
        likelyIs(x, 112, 1, 1);
        due("a 13th", LEAST, x.likely(0, 13, 0));
        says(TERMS, "a fraction in lowest terms; NOT: it cannot be.");
        x = holesOf(2, 4, 6);
        looks(x, 0, 0, 1, 2);
        likelyIs(x, 0, 1, 6);
        likelyIs(x, 100, 1, 3);
        likelyIs(x, 200, 1, 2);
        likelyIs(x, 1, 0, 1);
        likelyIs(x, 101, 2, 5);
        likelyIs(x, 202, 1, 1);
        likelyIs(x, 203, NOT, NOT);
        says(TERMS, "LUCK: how likely it is caught within the first m mornings (0 .. 12) of told LOOKS;");
        looks(x, 0, -1, -1, -1, -1, -1, -1, -1, -1, -1, -1, 2, 1, 0);
        part("luck of 0", 0, 1, x.luck(0, 0, 0), x.luck(0, 0, 1));
        part("luck of 11", 1, 2, x.luck(0, 11, 0), x.luck(0, 11, 1));
        part("luck of 12", 5, 6, x.luck(0, 12, 0), x.luck(0, 12, 1));
        part("luck of 13", LEAST, LEAST, x.luck(0, 13, 0), x.luck(0, 13, 1));
        part("luck of -1", LEAST, LEAST, x.luck(0, -1, 0), x.luck(0, -1, 1));
    }

    private static void luck() {
        says(TERMS, "MEAN: the mean of the morning on which it is (1 on), if it is within them (NOT: never).");
        FoxHoles x = holesOf(2, 4, 6);
        looks(x, 0, 2, 0, 1);
        part("mean of 0", NOT, NOT, x.mean(0, 0, 0), x.mean(0, 0, 1));
        part("mean of 1", 1, 1, x.mean(0, 1, 0), x.mean(0, 1, 1));
        part("mean of 2", 5, 4, x.mean(0, 2, 0), x.mean(0, 2, 1));
        part("mean of 3", 11, 6, x.mean(0, 3, 0), x.mean(0, 3, 1));
        looks(x, 0, -1, -1);
        part("mean of none", NOT, NOT, x.mean(0, 2, 0), x.mean(0, 2, 1));
        says(TERMS, "LUCKIEST: the LOOKS of m mornings (1 .. 4; 1 LOOKER, no SLEEP counts) by which it is caught most likely: how likely;");
        x = warren(5);
        part("of 1", 1, 5, x.luckiest(1, -1), x.luckiest(1, -2));
        part("of 4", 4, 5, x.luckiest(4, -1), x.luckiest(4, -2));
        due("of 0", LEAST, x.luckiest(0, -1));
        due("of 5", LEAST, x.luckiest(5, -1));
        x.mend(0, 2, 2);
        x.mend(0, 3, 127);
        part("of 4, whoever sleeps", 4, 5, x.luckiest(4, -1), x.luckiest(4, -2));
        says(TERMS, "the k-th (of like ones the first by numbers).");
        for (int k = 0; k < 4; k++) {
            due("look " + k, k, x.luckiest(4, k));
        }
        due("one look", 0, x.luckiest(1, 0));
        due("look 1 of two", 1, x.luckiest(2, 1));
        x.mend(3, 0, 2);
        due("look 0 of two", 0, x.luckiest(2, 0));
        due("look 1 of two", 3, x.luckiest(2, 1));
    }

    private static void dogsAndKept() {
        says(TERMS, "DOGS let in at a HOLE: how many nights it lasts till the HOLE can be reached from all of those in which it can be");
        FoxHoles x = line(10);
        due("from all of ten", 9, x.dogs(0));
        due("from a hole within", 5, x.dogs(4));
        due("alone", 0, line(1).dogs(0));
        says(TERMS, "(by THE LAW, to the HOLE): the greatest of the least numbers; NOT: not from all.");
        law(x, "b=a+1|a=0&b=8");
        due("the least from 0 is 2, from 1 is 8", 8, x.dogs(9));
        due("none goes to 0", NOT, x.dogs(0));
        x.mend(1, 1, 1);
        due("the least from 2 is 7", 7, x.dogs(9));
        says(TERMS, "KEPT: HOLES (bits) that it can be in for ever, if told HOLES (bits) are looked into each morning.");
        x = line(4);
        due("none looked into", 15, x.kept(0));
        due("one that cannot but go there", 12, x.kept(2));
        due("two", 0, x.kept(6));
        due("all", 0, x.kept(15));
        x.mend(1, 1, 1);
        due("one that stays", 13, x.kept(2));
        due("looked into", 12, x.kept(1));
    }

    /** The foxes as the document draws them: their number and their mornings. */
    private static int[] drawnByHand(FoxHoles x, int holes, int[] weights, int seed, int n, int[] looks) {
        int all = Arrays.stream(weights).sum();
        int[] waysFrom = new int[holes];
        for (int h = 0; h < holes; h++) {
            waysFrom[h] = x.of(h, 3);
        }
        int z = seed;
        int[] sums = new int[2];
        for (int i = 0; i < n; i++) {
            z = draw(z);
            int rest = (z >>> 8) % all;
            int fox = 0;
            while (rest >= weights[fox]) {
                rest -= weights[fox++];
            }
            for (int day = 0; day < looks.length; day++) {
                if (looks[day] == fox) {
                    sums[0]++;
                    sums[1] += day + 1;
                    break;
                }
                int ways = waysFrom[fox];
                if (day + 1 < looks.length && ways != 0) {
                    z = draw(z);
                    int nth = (z >>> 8) % Integer.bitCount(ways);
                    for (int h = 0; h < holes; h++) {
                        if ((ways >> h & 1) == 1 && nth-- == 0) {
                            fox = h;
                            break;
                        }
                    }
                }
            }
        }
        return sums;
    }

    private static void drawn() {
        says(TERMS, "DRAWN: n foxes (1 .. 60) by a SEED against told LOOKS (of m mornings, 1 .. 30):");
        FoxHoles x = line(1);
        onlyLook(x, 0, 31, 29, 0);
        due("one fox", 1, x.drawn(0, 1, 130, 0));
        due("60 foxes", 60, x.drawn(0, 1, 6030, 0));
        due("on the 30th", 1800, x.drawn(0, 1, 6030, 1));
        due("not within 29", 0, x.drawn(0, 1, 6029, 0));
        due("no fox", BAD, x.drawn(0, 1, 30, 0));
        due("61 foxes", BAD, x.drawn(0, 1, 6130, 0));
        due("31 mornings", BAD, x.drawn(0, 1, 131, 0));
        due("no morning", BAD, x.drawn(0, 1, 100, 0));
        looks(x, 0);
        due("more mornings than looks", 0, x.drawn(0, 1, 130, 0));
        says(TERMS, "z = z * 1103515245 + 12345 (an int; SEED at first) ahead of each draw:");
        int[] weights = {0, 3, 1, 0, 5};
        x = holesOf(weights);
        int[] row = {1, 4, 2, 2, 3, 0, 4};
        looks(x, 0, 1, 4, 2, 2, 3, 0, 4);
        law(x, "p|b=(a+1)%n|b=0&a=2");
        int[] seeds = {0, 1, -1, 12345, LEAST_INT, MOST_INT};
        for (int seed : seeds) {
            int[] due = drawnByHand(x, 5, weights, seed, 60, row);
            due("caught by seed " + seed, due[0], x.drawn(0, seed, 6007, 0));
            due("mornings by seed " + seed, due[1], x.drawn(0, seed, 6007, 1));
        }
        says(TERMS, "where: (z >>> 8) % all WEIGHTS of OPEN ones, by HOLES;");
        x.mend(4, 1, 1);
        for (int seed : seeds) {
            int[] due = drawnByHand(x, 5, new int[] {0, 3, 1, 0, 0}, seed, 40, row);
            due("without the stopped one by seed " + seed, due[1], x.drawn(0, seed, 4007, 1));
        }
        says(TERMS, "each night: (z >>> 8) % how many it may go to (by THE LAW; by numbers; no draw with none):");
        law(x, "a=1&b>0");
        for (int seed : seeds) {
            int[] due = drawnByHand(x, 5, new int[] {0, 3, 1, 0, 0}, seed, 40, new int[] {-1, -1, 3, 2, 1});
            looks(x, 0, -1, -1, 3, 2, 1);
            due("some that stay by seed " + seed, due[0], x.drawn(0, seed, 4005, 0));
        }
        says(TERMS, "how many are caught; all their mornings (from 1) together.");
        x = warren(3);
        looks(x, 0, 2, 1, 0);
        due("all", 9, x.drawn(0, 7, 903, 0));
        int first = x.drawn(0, 7, 901, 0);
        int second = x.drawn(0, 7, 902, 0) - first;
        due("together", first + 2 * second + 3 * (9 - first - second), x.drawn(0, 7, 903, 1));
        says(TERMS, "STATE: all WEIGHTS are 0.");
        x.mend(0, 0, 0);
        x.mend(1, 0, 0);
        due("one is not", 9, x.drawn(0, 7, 901, 0));
        x.mend(2, 0, 0);
        due("all are", STATE, x.drawn(0, 7, 901, 0));
        x.mend(2, 0, 9);
        x.mend(2, 1, 1);
        due("all of open ones", STATE, x.drawn(0, 7, 901, 0));
    }

    private static void ways() {
        says(TERMS, "A FOX'S WAY: a ROW of bytes: HOLES ahead of mornings: JUDGED against told LOOKS: the first HOLE in which it cannot");
        FoxHoles x = line(4);
        looks(x, 0, -1, -1, 3);
        looks(x, 1);
        due("none", NOT, x.judge(1));
        looks(x, 1, 0, 1, 2, 3, 2);
        due("well", NOT, x.judge(1));
        says(TERMS, "(no OPEN HOLE, not by THE LAW, looked into the morning ahead); NOT.");
        looks(x, 1, 4);
        due("no hole", 0, x.judge(1));
        looks(x, 1, -1);
        due("a byte below 0", 0, x.judge(1));
        looks(x, 1, 0, 1, 0, 2);
        due("not by a path", 3, x.judge(1));
        looks(x, 1, 3, 2, 3, 2);
        due("looked into the morning ahead", 3, x.judge(1));
        looks(x, 1, 3, 2, 3);
        due("looked into on the last morning", NOT, x.judge(1));
        looks(x, 1, 0, 1, 2);
        x.mend(2, 1, 1);
        due("a stopped one", 2, x.judge(1));
        looks(x, 1, 3, 3);
        due("it may go nowhere and stays", NOT, x.judge(1));
    }

    // ---- 4

    private static void inDeed() {
        says(TERMS, "4 IN DEED: HIDE by a SEED (a draw as told): DAY is 0.");
        FoxHoles x = holesOf(1, 2, 3);
        for (int seed : new int[] {0, 1, -1, LEAST_INT, MOST_INT, 99}) {
            int rest = (draw(seed) >>> 8) % 6;
            int fox = rest < 1 ? 0 : rest < 3 ? 1 : 2;
            due("hide(" + seed + ")", 7, x.hide(seed));
            due("day", 0, x.of(0, 12));
            due("not beside it", 0, x.look((fox + 1) % 3 * 11));
            due("there", 1, x.look(fox * 11));
        }
        says(TERMS, "LOOK into a HOLE (with 2: and another one): 1 caught (DAY stays), 0 not:");
        x = holesOf(0, 0, 9);
        x.hide(1);
        due("not", 0, x.look(2));
        due("day", 1, x.of(0, 12));
        x.mend(0, 2, 2);
        due("by another one", 1, x.look(2));
        due("day stays", 1, x.of(0, 12));
        says(TERMS, "the night goes on by draws of the same z (one in a HOLE that is STOPPED by then stays); DAY is 1 more.");
        x = warren(5);
        law(x, "!(a=b)");
        int z = draw(77);
        int fox = (z >>> 8) % 5;
        x.hide(77);
        for (int day = 0; day < 20; day++) {
            due("day", day, x.of(0, 12));
            due("not there", 0, x.look((fox + 1) % 5 * 11));
            z = draw(z);
            int nth = (z >>> 8) % 4;
            fox = nth < fox ? nth : nth + 1;
        }
        x.mend(fox, 1, 1);
        due("stopped by then", 0, x.look((fox + 1) % 5 * 11));
        due("it stays", 0, x.look((fox + 1) % 5 * 11));
        due("day", 22, x.of(0, 12));
        x.mend(fox, 1, 0);
        due("open again, ahead of the night", 1, x.look(fox * 11));
        says(TERMS, "(On a DAY of SLEEP nobody looks, whatever is told.)");
        x = holesOf(1);
        x.mend(0, 3, 1 | 4);
        x.hide(1);
        due("asleep on day 0", 0, x.look(0));
        due("nothing in vain", 0, x.of(0, 4));
        due("day", 1, x.of(0, 12));
        due("where now", 1, x.of(0, 13));
        due("awake on day 1", 1, x.look(0));
        x.mend(0, 3, 127);
        x.hide(1);
        for (int i = 0; i < 15; i++) {
            due("asleep", 0, x.look(0));
        }
        due("day", 15, x.of(0, 12));
    }

    private static void led() {
        says(TERMS, "LED: DAYS so far, LOOKS in vain in each HOLE (of all hunts), foxes caught.");
        FoxHoles x = holesOf(0, 9, 0);
        due("no days", 0, x.of(0, 12));
        due("no foxes", 0, x.of(0, 14));
        due("none in vain", 0, x.of(0, 4));
        for (int hunt = 1; hunt <= 3; hunt++) {
            x.hide(hunt);
            due("not in 0", 0, x.look(0));
            due("not in 2", 0, x.look(22));
            due("not in 0", 0, x.look(0));
            due("in 1", 1, x.look(11));
            due("days", 3, x.of(0, 12));
            due("in vain in 0", 2 * hunt, x.of(0, 4));
            due("in vain in 1", 0, x.of(1, 4));
            due("in vain in 2", hunt, x.of(2, 4));
            due("foxes", hunt, x.of(0, 14));
        }
        says(TERMS, "WHERE NOW: HOLES in which it can be by what was looked into since it was hidden.");
        x = holesOf(9, 0, 0, 0);
        x.path(1);
        x.path(12);
        x.path(23);
        due("hidden", 15, x.hide(1));
        due("at first", 15, x.of(0, 13));
        x.look(22);
        due("behind a look", 7, x.of(0, 13));
        x.look(22);
        due("behind two", 7, x.of(0, 13));
        x.look(11);
        due("behind three", 10, x.of(0, 13));
        due("hidden anew", 15, x.hide(1));
        due("caught", 1, x.look(0));
        due("nothing is hidden", STATE, x.of(0, 13));
    }

    private static void changes() {
        says(TERMS, "CHANGES (WEIGHT, STOPPED of HOLES; LOOKERS, SLEEP; telling the same number is none) can be UNDONE, the latest first,");
        FoxHoles x = line(2);
        x.mend(0, 0, 1);
        x.mend(0, 1, 0);
        x.mend(0, 2, 1);
        x.mend(0, 3, 0);
        due("the same is none", 0, x.count(4));
        due("so none may be undone", STATE, x.undo());
        x.mend(0, 0, 9);
        x.mend(1, 1, 1);
        x.mend(0, 2, 2);
        x.mend(0, 3, 127);
        due("four", 4, x.count(4));
        due("sleep first", 3, x.undo());
        due("sleep", 0, x.of(0, 11));
        due("lookers", 2, x.of(0, 10));
        due("lookers next", 2, x.undo());
        due("lookers", 1, x.of(0, 10));
        due("stopped", 1, x.of(1, 1));
        due("stopped next", 1, x.undo());
        due("stopped", 0, x.of(1, 1));
        due("weight", 9, x.of(0, 0));
        due("weight last", 0, x.undo());
        due("weight", 1, x.of(0, 0));
        due("no more", STATE, x.undo());
        says(TERMS, "and DONE AGAIN (as long as no other came behind);");
        due("weight", 3, x.redo());
        due("the same is no other", 9, x.mend(0, 0, 9));
        due("stopped", 2, x.redo());
        due("another", 1, x.mend(1, 0, 5));
        due("none again", STATE, x.redo());
        due("three", 3, x.count(4));
        due("undo", 2, x.undo());
        due("redo", 0, x.redo());
        says(TERMS, "40 at most are kept.");
        x = line(2);
        for (int i = 1; i <= 41; i++) {
            x.mend(0, 3, i);
            due("kept", Math.min(i, 40), x.count(4));
        }
        for (int i = 39; i >= 0; i--) {
            due("undo", i, x.undo());
        }
        due("the 41st ago is no more", STATE, x.undo());
        due("sleep as behind the first", 1, x.of(0, 11));
        for (int i = 39; i >= 0; i--) {
            due("redo", i, x.redo());
        }
        due("no more", STATE, x.redo());
        due("sleep as at last", 41, x.of(0, 11));
        x.mend(0, 2, 2);
        x.mend(1, 0, 7);
        x.mend(1, 1, 1);
        for (int i = 1; i <= 38; i++) {
            x.mend(0, 3, i);
        }
        for (int i = 0; i < 39; i++) {
            x.undo();
        }
        due("one of another kind is left", 1, x.count(4));
        due("open again", 0, x.of(1, 1));
        due("the last undo", 0, x.undo());
        due("its weight", 1, x.of(1, 0));
        due("its lookers cannot be undone", STATE, x.undo());
        due("lookers", 2, x.of(0, 10));
        due("weight again", 39, x.redo());
        due("its weight", 7, x.of(1, 0));
        due("stopped again", 38, x.redo());
        due("stopped", 1, x.of(1, 1));
    }

    private static void image() {
        says(TERMS, "AN IMAGE keeps what is hidden, DAY, WHERE NOW, what LED tells.");
        FoxHoles x = line(3);
        law(x, "1");
        x.hide(6);
        int z = draw(6);
        int fox = (z >>> 8) % 3;
        due("not there", 0, x.look((fox + 1) % 3 * 11));
        z = draw(z);
        fox = (z >>> 8) % 3;
        due("image", 1, x.image());
        for (int again = 0; again < 3; again++) {
            int there = fox;
            int then = z;
            int caught = x.of(0, 14);
            due("where now", 7, x.of(0, 13));
            due("day", 1, x.of(0, 12));
            for (int day = 1; day < 6; day++) {
                due("not there", 0, x.look((there + 1) % 3 * 11));
                then = draw(then);
                there = (then >>> 8) % 3;
            }
            due("there", 1, x.look(there * 11));
            due("one more", caught + 1, x.of(0, 14));
            due("in vain", 6, x.of(0, 4) + x.of(1, 4) + x.of(2, 4));
            due("laid back", 1, x.back());
            due("caught as then", caught, x.of(0, 14));
            due("in vain as then", 1, x.of(0, 4) + x.of(1, 4) + x.of(2, 4));
        }
    }

    // ---- 5

    private static void bodies() {
        says(TERMS, "5 HOLES' ways are kept by call as BODIES 0 .. 49, of KINDS: 0 HOLE; 1 EMPTY under HOLE; 2 LOOKED under HOLE;");
        FoxHoles x = new FoxHoles();
        due("no kind", BAD, x.body(-1));
        due("no kind", BAD, x.body(8));
        for (int i = 0; i < 50; i++) {
            due("body", i, x.body(i % 8));
        }
        due("a 51st", FULL, x.body(0));
        due("50", 50, x.count(5));
        says(TERMS, "3 SURE under LOOKED; 4 PRINT under EMPTY; 5 STOPPED under SURE; 6 RED under HOLE; 7 MISSED under PRINT.");
        int[] above = {-1, 0, 0, 2, 1, 3, 0, 4};
        for (int kind = 0; kind < 8; kind++) {
            x.keep(0, kind);
            for (int k = 0; k < 8; k++) {
                boolean under = false;
                for (int a = kind; a >= 0; a = above[a]) {
                    under |= a == k;
                }
                due("kind " + kind + " for " + k, under ? kind : OTHER, x.taken(0, k));
            }
        }
        says(TERMS, "ACTS with x (an int that wraps): 0 hides, 1 looks, 2 goes, 3 tells; n its number.");
        due("no act", 0, x.act(1, -1, 7));
        due("no act", 0, x.act(1, 4, 7));
        due("hides wraps", LEAST_INT, x.act(8, 0, MOST_INT - 7));
        due("looks wraps", 14, x.act(8, 1, LEAST_INT - 1));
        due("goes", MOST_INT ^ 8, x.act(8, 2, MOST_INT));
        due("n of the last", 49 + 3, x.act(49, 0, 0));
    }

    private static void actIs(FoxHoles x, int body, int act, int in, int out, int... trace) {
        due("act(" + body + "," + act + "," + in + ")", out, x.act(body, act, in));
        due("how many ran", trace.length, x.count(6));
        for (int i = 0; i < trace.length; i++) {
            due("trace(" + i + ")", trace[i], x.trace(i));
        }
        due("behind the trace", BAD, x.trace(trace.length));
    }

    private static void bodiesOfActs() {
        FoxHoles x = new FoxHoles();
        for (int kind = 0; kind < 8; kind++) {
            x.body(kind);
        }
        says(TERMS, "BODIES of acts: HIDES (an interface of HOLE): 1 hides: x + n.");
        actIs(x, 0, 0, -1, -1, 1);
        actIs(x, 2, 0, 7, 9, 1);
        says(TERMS, "HOLE: 10 looks: hides(x) * 2. 11 goes: x ^ n.");
        actIs(x, 0, 1, 7, 14, 10, 1);
        actIs(x, 1, 1, 7, 22, 10, 20, 1);
        actIs(x, 6, 1, 7, 52, 10, 70, 1);
        actIs(x, 2, 2, 7, 5, 11);
        says(TERMS, "11 goes: x ^ n.");
        actIs(x, 6, 2, -1, -7, 11);
        says(TERMS, "TELLS (of HOLE): 2 tells: looks(x) - goes(1).");
        actIs(x, 0, 3, 7, 13, 2, 10, 1, 11);
        actIs(x, 6, 3, 7, 52 - 7, 2, 10, 70, 1, 11);
        says(TERMS, "EMPTY: 20 hides: super.hides(x) + 3.");
        actIs(x, 1, 0, 7, 11, 20, 1);
        says(TERMS, "LOOKED: 30 looks: -super.looks(x).");
        actIs(x, 2, 1, 7, -18, 30, 10, 1);
        says(TERMS, "SURE: 40 goes: super.goes(x) * 3.");
        actIs(x, 3, 2, 7, 12, 40, 11);
        actIs(x, 5, 2, 7, 6, 40, 11);
        says(TERMS, "41 looks: super.looks(x + 1).");
        actIs(x, 3, 1, 7, -22, 41, 30, 10, 1);
        actIs(x, 3, 1, MOST_INT, -6, 41, 30, 10, 1);
        says(TERMS, "PRINT: 50 goes: super.goes(x) - hides(2).");
        actIs(x, 4, 2, 7, 3 - 9, 50, 11, 20, 1);
        says(TERMS, "STOPPED: 60 tells: super.tells(x) ^ 5.");
        actIs(x, 5, 3, 7, -26 - 12 ^ 5, 60, 2, 41, 30, 10, 1, 40, 11);
        says(TERMS, "RED: 70 hides: super.hides(x) * 2.");
        actIs(x, 6, 0, 7, 26, 70, 1);
        says(TERMS, "MISSED: 80 looks: super.looks(x) + goes(2).");
        actIs(x, 7, 1, 7, 34 + 5 - 12, 80, 10, 20, 1, 50, 11, 20, 1);
        says(TERMS, "81 tells: super.tells(x) - 1.");
        actIs(x, 7, 3, 7, 27 - (6 - 12) - 1, 81, 2, 80, 10, 20, 1, 50, 11, 20, 1, 50, 11, 20, 1);
        says(TERMS, "hides(..) and so on: the body of its own KIND, or of the next KIND above that has one; super: from the KIND above");
        actIs(x, 4, 1, 7, 28, 10, 20, 1);
        actIs(x, 5, 1, 7, -26, 41, 30, 10, 1);
        actIs(x, 7, 0, 7, 17, 20, 1);
        says(TERMS, "THE TRACE: numbers of the bodies that ran in the latest act(), as they began; the first 24 are kept.");
        x.act(7, 3, 0);
        due("the longest", 14, x.count(6));
        due("its last", 1, x.trace(13));
        due("behind it", BAD, x.trace(14));
        due("the latest", 0, x.act(0, 0, 0));
        due("one", 1, x.count(6));
        due("behind the one", BAD, x.trace(1));
    }

    private static void shelves() {
        says(TERMS, "SHELVES 0 .. 5 each hold nothing (at first), a HOLE (a BODY), or a ROW: of 0 bytes, 1 shorts, 2 ints, 3 longs, 4 booleans,");
        FoxHoles x = new FoxHoles();
        x.body(6);
        for (int shelf = 0; shelf < 6; shelf++) {
            due("nothing at first", NOTHING, x.taken(shelf, 0));
            due("a body", 1, x.keep(shelf, 0));
            due("taken", 6, x.taken(shelf, 6));
            for (int sort = 0; sort < 5; sort++) {
                due("a row", 1, x.row(shelf, sort, 1));
            }
        }
        due("sort -1", BAD, x.row(0, -1, 1));
        due("sort 5", BAD, x.row(0, 5, 1));
        due("shelf -1", BAD, x.row(-1, 0, 1));
        due("shelf 6", BAD, x.row(6, 0, 1));
        says(TERMS, "of 0 .. 60 elements, 0 at first (false);");
        for (int sort = 0; sort < 5; sort++) {
            due("none", 1, x.row(0, sort, 0));
            due("of none", LEAST, x.element(0, 0));
            due("60", 1, x.row(0, sort, 60));
            due("the first", 0, x.element(0, 0));
            due("the last", 0, x.element(0, 59));
            due("behind it", LEAST, x.element(0, 60));
            due("put", 1, x.put(0, 0, 1));
            due("put", 1, x.put(0, 59, 1));
            due("anew", 1, x.row(0, sort, 60));
            due("0 at first again", 0, x.element(0, 0));
            due("0 at last again", 0, x.element(0, 59));
            due("61", BAD, x.row(0, sort, 61));
            due("-1", SIZE, x.row(0, sort, -1));
        }
        says(TERMS, "what is put in keeps its lowest bits (a boolean: whether it is not 0; 1 or 0).");
        long[] told = {127, 128, 255, 256, -129, 32768, 65535, 65536, 1L << 31, 1L << 32, (1L << 32) - 1, 1L << 62, LEAST, -1};
        for (long v : told) {
            long[] due = {(byte) v, (short) v, (int) v, v, v != 0 ? 1 : 0};
            for (int sort = 0; sort < 5; sort++) {
                row(x, 0, sort, v);
                due("sort " + sort + " of " + v, due[sort], x.element(0, 0));
            }
        }
        row(x, 0, 4, 0);
        due("false", 0, x.element(0, 0));
        says(TERMS, "The host's REFUSALS: -11 nothing is there where something is wanted; -12 it is of another kind; -13 a place that is");
        x.keep(1, -1);
        x.keep(2, 0);
        row(x, 3, 0, 1);
        due("nothing is there", -11, x.put(1, 0, 1));
        due("another kind", -12, x.put(2, 0, 1));
        due("no place", -13, x.put(3, 1, 1));
        due("a size below 0", -14, x.row(3, 0, -1));
    }

    private static void holesFromARow() {
        says(TERMS, "HOLES FROM A ROW of bytes, from a place on: WEIGHTS: n of them; it ends where the row is missing, ends,");
        FoxHoles x = new FoxHoles();
        due("missing", 0, x.holes(0, 0, 10));
        looks(x, 0, 9, 0, 3);
        due("it ends", 1, x.holes(0, 2, 10));
        due("its weight", 3, x.of(0, 0));
        due("ended", 0, x.holes(0, 3, 1));
        due("n of them", 2, x.holes(0, 0, 2));
        due("three in all", 3, x.count(0));
        says(TERMS, "one is not so, or HOLES are FULL: those ahead came.");
        looks(x, 0, 9, 0, 10, 3, -1);
        due("10 is not so", 2, x.holes(0, 0, 5));
        due("-1 is not so", 1, x.holes(0, 3, 5));
        due("at once", 0, x.holes(0, 4, 5));
        due("those ahead came", 6, x.count(0));
        looks(x, 0, 1, 2, 3, 4, 5);
        due("full", 4, x.holes(0, 0, 5));
        due("weight of the last", 4, x.of(9, 0));
        due("full at once", 0, x.holes(0, 0, 5));
    }

    private static void answers() {
        says(TERMS, "Answers, of several the one named first: BAD (-1): no such number, or it is not as said; NOT (-2): as told; FULL (-3);");
        due("BAD", -1, FoxHoles.BAD);
        due("NOT", -2, FoxHoles.NOT);
        due("FULL", -3, FoxHoles.FULL);
        FoxHoles full = fullWarren();
        for (int i = 0; i < 120; i++) {
            full.feed('a');
        }
        for (int i = 0; i < 50; i++) {
            full.body(0);
        }
        due("BAD ahead of FULL: hole", BAD, full.hole(10));
        due("BAD ahead of FULL: a path already", BAD, full.path(1));
        due("BAD ahead of FULL: feed", BAD, full.feed(256));
        due("BAD ahead of FULL: body", BAD, full.body(8));
        says(TERMS, "STATE (-5): as told; -11 to -14.");
        due("STATE", -5, FoxHoles.STATE);
        FoxHoles x = line(1);
        x.body(0);
        x.keep(2, 0);
        due("BAD ahead of STATE: look", BAD, x.look(10));
        due("BAD ahead of -11: mayBe", BAD, x.mayBe(0, -1));
        due("BAD ahead of -12: holes", BAD, x.holes(2, 0, 0));
        due("BAD ahead of -13: put", BAD, x.put(6, -1, 0));
        due("BAD ahead of -14: row", BAD, x.row(0, 5, -1));
        due("-11 ahead of -12: judge", -11, x.judge(21));
        due("-11 ahead of -13: put", -11, x.put(1, -1, 0));
        due("-12 ahead of -13: put", -12, x.put(2, -1, 0));
        says(TERMS, "VOID is -2000000000.");
        due("VOID", -2000000000, FoxHoles.VOID);
        due("of", -2000000000, x.of(1, 0));
        says(TERMS, "What is answered so changes nothing.");
        row(x, 1, 2, 7);
        due("a refused row", SIZE, x.row(1, 0, -1));
        due("changes nothing", 7, x.element(1, 0));
        due("a refused weight", BAD, x.mend(0, 0, 10));
        due("is no change", 0, x.count(4));
        says(TERMS, "All memory is the class's own.");
        FoxHoles other = line(1);
        other.mend(0, 0, 4);
        other.row(1, 0, 3);
        other.hide(1);
        due("another object's weight", 1, x.of(0, 0));
        due("another object's row", 7, x.element(1, 0));
        due("another object's fox", STATE, x.of(0, 13));
    }
}
