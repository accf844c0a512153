/** Each promise of the document by its number: ordinary calls, the edges that it names, wrong calls. */
public final class Promises extends Sentences {
    public static void main(String[] args) {
        newObject();
        hole();
        holes();
        path();
        mend();
        of();
        feed();
        lawFaults();
        lawWorth();
        mayBe();
        caught();
        printed();
        ahead();
        judge();
        sure();
        sureFrom();
        ring();
        arms();
        toStop();
        dogs();
        kept();
        likely();
        luckAndMean();
        luckiest();
        drawn();
        hideAndLook();
        imageAndBack();
        undoAndRedo();
        manyChanges();
        bodies();
        keepAndRow();
        putAndElement();
        shift();
        taken();
        count();
        end();
    }

    // ---- holes, paths

    private static void newObject() {
        about(1);
        FoxHoles x = new FoxHoles();
        for (int what = 0; what <= 6; what++) {
            due("count(" + what + ")", 0, x.count(what));
        }
        due("LOOKERS", 1, x.of(0, 10));
        due("SLEEP", 0, x.of(0, 11));
        due("DAY", 0, x.of(0, 12));
        due("WHERE NOW", STATE, x.of(0, 13));
        due("foxes caught", 0, x.of(0, 14));
        due("a hole's weight", VOID, x.of(0, 0));
        for (int shelf = 0; shelf < 6; shelf++) {
            due("put", -11, x.put(shelf, 0, 1));
        }
        due("trace(0)", BAD, x.trace(0));
        due("undo", STATE, x.undo());
        due("redo", STATE, x.redo());
        due("back", STATE, x.back());
    }

    private static void hole() {
        about(2);
        FoxHoles x = new FoxHoles();
        due("hole(-1)", BAD, x.hole(-1));
        due("hole(10)", BAD, x.hole(10));
        for (int i = 0; i < 10; i++) {
            due("hole", i, x.hole(9 - i));
        }
        due("an 11th", FULL, x.hole(0));
        due("BAD ahead of FULL", BAD, x.hole(10));
        for (int i = 0; i < 10; i++) {
            due("weight", 9 - i, x.of(i, 0));
            due("stopped", 0, x.of(i, 1));
        }
        due("count(0)", 10, x.count(0));
        due("no change to be undone", 0, x.count(4));
    }

    private static void holes() {
        about(3);
        FoxHoles x = new FoxHoles();
        due("a missing row", 0, x.holes(0, 0, 3));
        due("shelf -1", BAD, x.holes(-1, 0, 3));
        due("shelf 6", BAD, x.holes(6, 0, 3));
        due("n 0", BAD, x.holes(0, 0, 0));
        due("n 11", BAD, x.holes(0, 0, 11));
        looks(x, 0, 4, 0, 9, 10, 5, -1, 2, 3);
        due("one is not so", 3, x.holes(0, 0, 10));
        due("weight 0", 4, x.of(0, 0));
        due("weight 1", 0, x.of(1, 0));
        due("weight 2", 9, x.of(2, 0));
        due("only n", 1, x.holes(0, 4, 1));
        due("below 0", 0, x.holes(0, 5, 3));
        due("the row ends", 2, x.holes(0, 6, 10));
        due("behind its end", 0, x.holes(0, 8, 1));
        due("far behind its end", 0, x.holes(0, Integer.MAX_VALUE, 10));
        due("ahead of it", 0, x.holes(0, -1, 2));
        due("count(0)", 6, x.count(0));
        looks(x, 0, 1, 2, 3, 4, 5, 6);
        due("full on the way", 4, x.holes(0, 0, 6));
        due("full at once", 0, x.holes(0, 0, 6));
        due("count(0)", 10, x.count(0));
        row(x, 1, 1, 1, 2);
        due("shorts", -12, x.holes(1, 0, 1));
        due("BAD ahead of -12", BAD, x.holes(1, 0, 11));
        x.body(0);
        x.keep(2, 0);
        due("a body", -12, x.holes(2, 0, 1));
    }

    private static void path() {
        about(4);
        FoxHoles x = warren(10);
        due("like ends", BAD, x.path(33));
        due("below 0", BAD, x.path(-1));
        due("no such hole", BAD, x.path(100));
        int laid = 0;
        for (int i = 0; i < 10; i++) {
            for (int step = 1; step <= 2; step++) {
                laid++;
                due("path", laid, x.path(i * 10 + (i + step) % 10));
            }
        }
        due("20 are full", FULL, x.path(5));
        due("already a path", BAD, x.path(1));
        due("already, told the other way", BAD, x.path(10));
        due("paths of a hole", 4, x.of(4, 2));
        FoxHoles y = warren(7, 1, 2, 3, 4);
        due("4 of the first", FULL, y.path(5));
        due("4 of the other", FULL, y.path(50));
        due("no such hole", BAD, y.path(57));
        due("no such first hole", BAD, y.path(75));
        due("beside it", 5, y.path(56));
        due("count(1)", 5, y.count(1));
        y.mend(5, 1, 1);
        due("to a stopped one", 6, y.path(15));
    }

    private static void mend() {
        about(5);
        FoxHoles x = line(3);
        due("weight", 1, x.mend(2, 0, 9));
        due("weight again", 9, x.mend(2, 0, 0));
        due("weight 10", BAD, x.mend(2, 0, 10));
        due("weight -1", BAD, x.mend(2, 0, -1));
        due("stopped", 0, x.mend(1, 1, 1));
        due("stopped 2", BAD, x.mend(1, 1, 2));
        due("stopped -1", BAD, x.mend(1, 1, -1));
        due("no such hole", BAD, x.mend(3, 0, 1));
        due("hole -1", BAD, x.mend(-1, 1, 1));
        due("lookers", 1, x.mend(0, 2, 2));
        due("lookers 0", BAD, x.mend(0, 2, 0));
        due("lookers 3", BAD, x.mend(0, 2, 3));
        due("lookers of 1", BAD, x.mend(1, 2, 1));
        due("sleep", 0, x.mend(0, 3, 127));
        due("sleep 128", BAD, x.mend(0, 3, 128));
        due("sleep -1", BAD, x.mend(0, 3, -1));
        due("sleep of 1", BAD, x.mend(1, 3, 1));
        due("what 4", BAD, x.mend(0, 4, 1));
        due("what -1", BAD, x.mend(0, -1, 1));
        due("weight", 0, x.of(2, 0));
        due("stopped", 1, x.of(1, 1));
        due("lookers", 2, x.of(0, 10));
        due("sleep", 127, x.of(0, 11));
        due("open", 2, x.count(2));
        FoxHoles none = new FoxHoles();
        due("lookers without holes", 1, none.mend(0, 2, 2));
        due("weight without holes", BAD, none.mend(0, 0, 2));
    }

    private static void of() {
        about(6);
        FoxHoles x = line(4);
        x.mend(3, 0, 7);
        x.mend(0, 1, 1);
        due("weight", 7, x.of(3, 0));
        due("stopped", 1, x.of(0, 1));
        due("paths, to a stopped one too", 2, x.of(1, 2));
        due("may go to open ones alone", 4, x.of(1, 3));
        due("stopped: nowhere", 0, x.of(0, 3));
        x.mend(2, 1, 1);
        due("nowhere", 0, x.of(3, 3));
        due("no looks yet", 0, x.of(3, 4));
        due("what 5", VOID, x.of(0, 5));
        due("what 9", VOID, x.of(0, 9));
        due("what 15", VOID, x.of(0, 15));
        due("what -1", VOID, x.of(0, -1));
        due("no such hole", VOID, x.of(4, 0));
        due("hole -1", VOID, x.of(-1, 3));
        due("10 of hole 1", VOID, x.of(1, 10));
        due("13 of hole 1", VOID, x.of(1, 13));
        due("13: nothing hidden", STATE, x.of(0, 13));
        FoxHoles none = new FoxHoles();
        due("10 without holes", 1, none.of(0, 10));
        due("0 without holes", VOID, none.of(0, 0));
    }

    private static void feed() {
        about(7);
        FoxHoles x = new FoxHoles();
        due("feed(-1)", BAD, x.feed(-1));
        due("feed(256)", BAD, x.feed(256));
        due("feed(0)", 1, x.feed(0));
        due("feed(255)", 2, x.feed(255));
        for (int i = 3; i <= 120; i++) {
            due("feed", i, x.feed('a'));
        }
        due("the 121st", FULL, x.feed('a'));
        due("BAD ahead of FULL", BAD, x.feed(256));
        due("count(3)", 120, x.count(3));
        due("law", -100, x.law());
        due("empty then", 0, x.count(3));
        due("from new", 1, x.feed('a'));
    }

    private static void fault(String text, int place) {
        due("law " + text, place < 0 ? 1 : -100 - place, law(warren(2, 1), text));
    }

    private static void lawFaults() {
        about(8);
        fault("", 0);
        for (String good : new String[] {"p", "a", "b", "w", "n", "0", "9999", "0000", "a;b", "a?b", "a?b;n",
            "!a", "-a", "!-!-!-a", "!!!!!!9", "((((((a))))))", "-(-(-(1)))", "a--b", "a-(-b)", "1<2|3>4&5=6", "(1<2)<3",
            "a*b/p%w+n-1", "a|b&p", "((((((a)+1)+1)+1)+1)+1)*-!-!-!n", "1?2;3?4;5"}) {
            fault(good, -1);
        }
        fault("a?((((((b))))))", -1);
        fault("a;((((((b))))))?!!!!!!b", -1);
        fault("a?(((((((b", 8);
        fault("12345", 4);
        fault("00000", 4);
        fault("ab", 1);
        fault("a1", 1);
        fault("1a", 1);
        fault("x", 0);
        fault("A", 0);
        fault(" a", 0);
        fault("a ", 1);
        fault("a+", 2);
        fault("a+*b", 2);
        fault("a+)", 2);
        fault("+a", 0);
        fault("(", 1);
        fault("()", 1);
        fault("(a", 2);
        fault("(a+b", 4);
        fault("(a;b)", 2);
        fault("(a?b)", 2);
        fault("a)", 1);
        fault("(a))", 3);
        fault("a;", 2);
        fault(";a", 0);
        fault("a;;b", 2);
        fault("a?", 2);
        fault("a?b?p", 3);
        fault("?a", 0);
        fault("1<2<3", 3);
        fault("1<2=3", 3);
        fault("1=2>3", 3);
        fault("(1<2<3)", 4);
        fault("!", 1);
        fault("a!b", 1);
        fault("a(b)", 1);
        fault("!!!!!!!a", 6);
        fault("-------a", 6);
        fault("(((((((a)))))))", 6);
        fault("((((((!a", 6);
        fault("!(!(!((a", 6);
        fault("((((((a)))))", 12);
        fault("((((((a)-(-1", 10);
        fault("((((((a)-(1))-(-1)", 18);
        fault("a" + (char) 200, 1);
        StringBuilder full = new StringBuilder("1");
        while (full.length() < 119) {
            full.append("+1");
        }
        fault(full.toString(), -1);
        fault(full + "+", 120);
        FoxHoles x = line(3);
        due("good", 1, law(x, "a=b"));
        due("goes", 2, x.of(1, 3));
        due("bad", -102, law(x, "a="));
        due("a faulty text leaves the law", 2, x.of(1, 3));
        due("the tape is empty", 0, x.count(3));
        due("no text is no law", -100, x.law());
    }

    /** Of three holes in a line with weights 2, 5, 0: where one may go from each. */
    private static void goes(String text, int from0, int from1, int from2) {
        FoxHoles x = holesOf(2, 5, 0);
        x.path(1);
        x.path(12);
        due("law " + text, 1, law(x, text));
        due(text + " from 0", from0, x.of(0, 3));
        due(text + " from 1", from1, x.of(1, 3));
        due(text + " from 2", from2, x.of(2, 3));
    }

    private static void lawWorth() {
        about(8);
        goes("p", 2, 5, 2);
        goes("a=b", 1, 2, 4);
        goes("a", 0, 7, 7);
        goes("b", 6, 6, 6);
        goes("w", 3, 3, 3);
        goes("n=3", 7, 7, 7);
        goes("w>2", 2, 2, 2);
        goes("w<2", 4, 4, 4);
        goes("!p", 5, 2, 5);
        goes("-p", 2, 5, 2);
        goes("p-1", 5, 2, 5);
        goes("1-p-1", 2, 5, 2);
        goes("2-a-b", 3, 5, 6);
        goes("2-(a-b)", 7, 7, 6);
        goes("b/2", 4, 4, 4);
        goes("b/2*2=b", 5, 5, 5);
        goes("b%2", 2, 2, 2);
        goes("1/b=0", 5, 5, 5);
        goes("5%b=0", 3, 3, 3);
        goes("5/(a-b)=-2", 4, 0, 0);
        goes("-5/(b-a)=0-2-3", 2, 4, 0);
        goes("-5%2=-1", 7, 7, 7);
        goes("-5/2=-2", 7, 7, 7);
        goes("a|b", 6, 7, 7);
        goes("a&b", 0, 6, 6);
        goes("5&2=1", 0, 0, 0);
        goes("(5&2)=1", 7, 7, 7);
        goes("a=0|b=0&p", 7, 1, 0);
        goes("2|0=2", 7, 7, 7);
        goes("(2|0)=1", 7, 7, 7);
        goes("!b=1", 1, 1, 1);
        goes("!(b=1)", 5, 5, 5);
        goes("!!w=1", 3, 3, 3);
        goes("1+2*3=7", 7, 7, 7);
        goes("1<2&b=0", 1, 1, 1);
        goes("12=3*4", 7, 7, 7);
        goes("1234=1000+234", 7, 7, 7);
        goes("0090=9*10", 7, 7, 7);
        goes("a=1?b=1;p", 2, 2, 2);
        goes("a=1?0;p", 2, 0, 2);
        goes("a=0?1;a=1?p", 7, 5, 0);
        goes("a=0?b=2;1;p", 4, 7, 7);
        goes("0?1;b=0", 1, 1, 1);
        goes("5?b=1", 2, 2, 2);
        goes("9999*9999*9999*9999=0-1", 0, 0, 0);
        goes("9999*9999*9999*9999=9999*9999*(9999*9999)", 7, 7, 7);
        goes("9999*9999*22<0", 7, 7, 7);
        FoxHoles x = line(2);
        due("without a text: p", 2, x.of(0, 3));
        due("law", 1, law(x, "n-2"));
        due("n of two", 0, x.of(0, 3));
        x.hole(0);
        due("n of three", 7, x.of(0, 3));
        due("law", 1, law(x, "w"));
        due("weights", 3, x.of(0, 3));
        x.mend(1, 0, 0);
        due("a weight mended", 1, x.of(0, 3));
        x.undo();
        due("undone", 3, x.of(0, 3));
        x.redo();
        due("done again", 1, x.of(0, 3));
        due("law", 1, law(x, "p"));
        x.path(12);
        due("a path more", 5, x.of(1, 3));
        due("law", 1, law(x, "1"));
        x.mend(1, 1, 1);
        due("open ones alone", 5, x.of(0, 3));
        due("from a stopped one", 0, x.of(1, 3));
        looks(x, 0, 3, 3);
        due("holes", 2, x.holes(0, 0, 2));
        due("by the law to new ones", 29, x.of(0, 3));
    }

    // ---- looks told

    private static void mayBe() {
        about(9);
        FoxHoles x = line(3);
        looks(x, 0, 1, 1, 9, -1);
        due("at first", 7, x.mayBe(0, 0));
        due("behind 1", 5, x.mayBe(0, 1));
        due("behind 2", 0, x.mayBe(0, 2));
        due("behind 4", 0, x.mayBe(0, 4));
        due("5 of 4", BAD, x.mayBe(0, 5));
        due("-1", BAD, x.mayBe(0, -1));
        due("shelf 6", BAD, x.mayBe(6, 0));
        due("shelf -1", BAD, x.mayBe(-1, 0));
        due("nothing", -11, x.mayBe(1, 0));
        row(x, 1, 1, 1);
        due("shorts", -12, x.mayBe(1, 0));
        x.body(0);
        x.keep(1, 0);
        due("a body", -12, x.mayBe(1, 0));
        looks(x, 0, 0, 9, 2);
        due("no hole: no look", 7, x.mayBe(0, 2));
        due("behind 3", 3, x.mayBe(0, 3));
        x.mend(0, 2, 2);
        due("2 lookers, behind 1", 6, x.mayBe(0, 1));
        due("half a morning counts", 3, x.mayBe(0, 2));
        due("no more", BAD, x.mayBe(0, 3));
        x.mend(0, 3, 1);
        due("asleep on the first", 7, x.mayBe(0, 1));
        due("but not on the next", 3, x.mayBe(0, 2));
        x.mend(0, 2, 1);
        x.mend(0, 3, 0);
        x.mend(0, 1, 1);
        due("open ones", 6, x.mayBe(0, 0));
        x.mend(1, 1, 1);
        due("one with nowhere to go stays", 4, x.mayBe(0, 2));
        due("and is found", 0, x.mayBe(0, 3));
        FoxHoles week = line(2);
        looks(week, 0, 0, 0, 0, 0, 0, 0, 0, 0, 0);
        week.mend(0, 3, 126);
        due("awake on day 0", 2, week.mayBe(0, 1));
        due("asleep for 6 days", 2, week.mayBe(0, 7));
        due("awake on day 7", 0, week.mayBe(0, 8));
    }

    private static void caught() {
        about(10);
        FoxHoles x = line(3);
        looks(x, 0, 0, 1, 1, 0);
        due("caught", 3, x.caught(0));
        looks(x, 0, 0, 1);
        due("not", NOT, x.caught(0));
        looks(x, 0);
        due("no looks", NOT, x.caught(0));
        due("nothing", -11, x.caught(5));
        due("shelf 6", BAD, x.caught(6));
        due("shelf -1", BAD, x.caught(-1));
        row(x, 1, 2, 1);
        due("ints", -12, x.caught(1));
        for (int h = 0; h < 3; h++) {
            x.mend(h, 1, 1);
        }
        due("none is open", 0, x.caught(0));
        due("shelves are asked first", -12, x.caught(1));
        FoxHoles one = line(1);
        looks(one, 0, 0);
        due("one hole", 1, one.caught(0));
        one.mend(0, 3, 1);
        due("asleep", NOT, one.caught(0));
    }

    private static void printed() {
        about(11);
        FoxHoles x = line(3);
        looks(x, 0, 9, 9, 9);
        row(x, 1, 1, 1);
        due("at first", 7, x.printed(1, 0));
        due("behind 1", 1, x.printed(1, 1));
        due("behind 2, what lacks does not matter", 2, x.printed(1, 2));
        due("behind 3", 5, x.printed(1, 3));
        due("4 of 3", BAD, x.printed(1, 4));
        due("-1", BAD, x.printed(1, -1));
        row(x, 1, 1, -1, 5, 0x7ffd);
        due("prints above the holes", 5, x.printed(1, 2));
        due("what a print forbids", 0, x.printed(1, 3) & 2);
        looks(x, 0, 1, 9, 9);
        due("with looks", 0, x.printed(1, 2));
        due("nothing of looks", -11, x.printed(21, 0));
        due("nothing of prints", -11, x.printed(2, 0));
        row(x, 3, 2, 1);
        due("-11 ahead of -12", -11, x.printed(32, 0));
        due("-11 ahead of -12 the other way", -11, x.printed(23, 0));
        due("prints of bytes", -12, x.printed(0, 0));
        due("looks of shorts", -12, x.printed(11, 0));
        due("shelf 6", BAD, x.printed(60, 0));
        due("shelf 6 of prints", BAD, x.printed(6, 0));
        due("below 0", BAD, x.printed(-1, 0));
        due("BAD ahead of -11", BAD, x.printed(26, 0));
    }

    private static void ahead() {
        about(12);
        FoxHoles x = line(3);
        looks(x, 0, 9, 9, 9);
        row(x, 1, 1, 7, 7, 1);
        due("of the first", 5, x.ahead(1, 1));
        due("of the second", 2, x.ahead(1, 2));
        due("of the third", 1, x.ahead(1, 3));
        due("of the fourth", BAD, x.ahead(1, 4));
        due("of none", BAD, x.ahead(1, 0));
        looks(x, 0, 0, 9, 9);
        due("a look counts on its own morning", 4, x.ahead(1, 1));
        looks(x, 0, 9, 9, 0);
        due("a look of the last morning", 0, x.ahead(1, 1));
        looks(x, 0, 9, 9, 2, 1);
        row(x, 1, 1);
        due("not in 1 on the fourth, so in 1 on the first", 2, x.ahead(1, 1));
        due("so beside it on the second", 5, x.ahead(1, 2));
        due("so in 1 on the third", 2, x.ahead(1, 3));
        due("so beside it on the fourth", 5, x.ahead(1, 4));
        due("nothing", -11, x.ahead(2, 1));
        due("nothing of looks", -11, x.ahead(21, 1));
        due("prints of bytes", -12, x.ahead(0, 1));
        due("looks of shorts", -12, x.ahead(11, 1));
        due("shelf 6", BAD, x.ahead(61, 1));
        due("below 0", BAD, x.ahead(-5, 1));
        long[] none = new long[60];
        java.util.Arrays.fill(none, 9);
        looks(x, 0, none);
        row(x, 1, 1, none);
        x.put(1, 0, 1);
        for (int i = 1; i < 60; i++) {
            x.put(1, i, 7);
        }
        due("of the first of 60", 1, x.ahead(1, 1));
        due("of the last of 60", 2, x.ahead(1, 60));
        due("behind all", 2, x.printed(1, 60));
        FoxHoles two = line(2);
        looks(two, 0, 0, 9, 9, 9, 1);
        row(two, 1, 1);
        two.mend(0, 2, 2);
        due("three mornings of two lookers", BAD, two.ahead(1, 4));
        due("in 1 on the first, so in 1 on the third, which is looked into", 0, two.ahead(1, 1));
        two.mend(0, 3, 4);
        due("unless they sleep", 2, two.ahead(1, 1));
        due("and so on", 1, two.ahead(1, 2));
    }

    private static void judge() {
        about(13);
        FoxHoles x = line(4);
        looks(x, 0, 3, 0, 9);
        looks(x, 1, 0, 1, 2, 3, 2, 1);
        due("well", NOT, x.judge(1));
        looks(x, 1, 1, 0, 1);
        due("caught on the second: the next cannot be", 2, x.judge(1));
        looks(x, 1, 1, 0);
        due("caught on the last", NOT, x.judge(1));
        looks(x, 1, 0, 2);
        due("no path", 1, x.judge(1));
        looks(x, 1, 0, 0);
        due("it never stays", 1, x.judge(1));
        looks(x, 1, 4);
        due("no hole", 0, x.judge(1));
        looks(x, 1, 0, -1);
        due("a byte below 0", 1, x.judge(1));
        looks(x, 1);
        due("no way", NOT, x.judge(1));
        looks(x, 1, 0, 1);
        x.mend(1, 1, 1);
        due("stopped", 1, x.judge(1));
        looks(x, 1, 0, 0, 0);
        due("with nowhere to go it stays", 2, x.judge(1));
        looks(x, 1, 1);
        due("begins in a stopped one", 0, x.judge(1));
        x.mend(0, 3, 2);
        looks(x, 1, 0, 0, 0);
        due("not looked into by sleepers", NOT, x.judge(1));
        due("one shelf for both", 1, x.judge(0));
        due("nothing of looks", -11, x.judge(21));
        due("nothing of a way", -11, x.judge(12));
        row(x, 2, 1, 1);
        due("shorts of looks", -12, x.judge(21));
        due("shorts of a way", -12, x.judge(12));
        due("-11 ahead of -12", -11, x.judge(23));
        due("shelf 6", BAD, x.judge(61));
        due("shelf 7 of a way", BAD, x.judge(7));
        due("below 0", BAD, x.judge(-1));
        FoxHoles two = line(4);
        two.mend(0, 2, 2);
        looks(two, 0, 0, 3, 1, 2);
        looks(two, 1, 1, 2, 3);
        due("by the second looker", 2, two.judge(1));
        law(two, "b=3");
        looks(two, 1, 2, 3, 3);
        due("by the law, looked into by none", NOT, two.judge(1));
    }

    // ---- surely

    private static void sure() {
        about(14);
        sureRow(new FoxHoles(), 0);
        sureRow(line(1), 1, 0);
        sureRow(line(2), 2, 0, 0);
        sureRow(line(3), 2, 1, 1);
        sureRow(line(4), 4, 1, 2, 2, 1);
        sureRow(line(5), 6, 1, 2, 3, 1, 2, 3);
        FoxHoles ring = warren(3, 1, 12, 20);
        sureRow(ring, NOT);
        due("sure(-2)", BAD, ring.sure(-2));
        due("sure(least)", BAD, ring.sure(Integer.MIN_VALUE));
        due("sure(most)", NOT, ring.sure(Integer.MAX_VALUE));
        ring.mend(0, 2, 2);
        sureRow(ring, 2, 0, 1, 0, 1);
        FoxHoles between = line(5);
        due("sure(-1)", 6, between.sure(-1));
        due("a set between", 1, between.sureFrom(16, 0));
        due("sure(2)", 3, between.sure(2));
        due("stops between", 0, between.toStop(6));
        due("sure(5)", 3, between.sure(5));
        FoxHoles two = line(1);
        two.mend(0, 2, 2);
        sureRow(two, 1, 0, NOT);
        FoxHoles pair = warren(2);
        sureRow(pair, 2, 0, 1);
        pair.mend(0, 2, 2);
        sureRow(pair, 1, 0, 1);
        pair.mend(0, 3, 3);
        sureRow(pair, 3, NOT, NOT, NOT, NOT, 0, 1);
        pair.mend(0, 2, 1);
        sureRow(pair, 4, NOT, NOT, 0, 1);
        pair.mend(0, 3, 127);
        sureRow(pair, NOT);
        pair.mend(0, 3, 0);
        pair.mend(0, 1, 1);
        sureRow(pair, 1, 1);
        pair.mend(0, 2, 2);
        sureRow(pair, 1, 1, NOT);
        pair.mend(1, 1, 1);
        sureRow(pair, 0);
        FoxHoles still = warren(4);
        sureRow(still, 4, 0, 1, 2, 3);
        law(still, "1");
        sureRow(still, NOT);
        law(still, "b=2");
        sureRow(still, 2, 0, 2);
        law(still, "b=a+1|a=3&b=3");
        sureRow(still, 3, 0, 0, 3);
    }

    private static void sureFrom() {
        about(15);
        FoxHoles x = line(5);
        due("none", 0, x.sureFrom(0, 0));
        due("one", 1, x.sureFrom(4, 3));
        due("of one kind of two", 3, x.sureFrom(10, 0));
        due("all", 6, x.sureFrom(31, 6));
        due("bits above", BAD, x.sureFrom(32, 0));
        due("below 0", BAD, x.sureFrom(-1, 0));
        due("day 7", BAD, x.sureFrom(1, 7));
        due("day -1", BAD, x.sureFrom(1, -1));
        x.mend(0, 3, 1);
        due("asleep on the first", 2, x.sureFrom(16, 0));
        due("awake on the second", 1, x.sureFrom(16, 1));
        x.mend(0, 3, 64);
        due("asleep on the last of the week", 2, x.sureFrom(1, 6));
        x.mend(4, 1, 1);
        due("stopped ones do not matter", 0, x.sureFrom(16, 0));
        due("beside others", 1, x.sureFrom(17, 0));
        x.mend(0, 3, 127);
        due("never", NOT, x.sureFrom(1, 0));
        due("of none, though", 0, x.sureFrom(16, 0));
    }

    private static void ring() {
        about(16);
        due("none", 0, new FoxHoles().ring());
        due("a line", 0, line(10).ring());
        due("back and forth is no ring", 0, line(2).ring());
        FoxHoles x = warren(6, 1, 12, 23, 30, 45);
        due("four", 1, x.ring());
        x.mend(2, 1, 1);
        due("one of them stopped", 0, x.ring());
        x.mend(2, 1, 0);
        due("open again", 1, x.ring());
        due("a star", 0, warren(5, 1, 2, 3, 4).ring());
        due("three at the end of a tail", 1, warren(6, 1, 12, 23, 34, 45, 53).ring());
        FoxHoles two = warren(2);
        law(two, "1");
        due("paths alone count", 0, two.ring());
    }

    private static void arms() {
        about(17);
        int[] spider = {1, 12, 23, 4, 45, 56, 7, 78, 89};
        FoxHoles x = warren(10, spider);
        due("one", 1, x.arms());
        x.mend(9, 1, 1);
        due("an arm too short", 0, x.arms());
        x.mend(9, 1, 0);
        x.path(39);
        due("ends joined: still from one", 1, x.arms());
        due("a line", 0, line(10).arms());
        due("none", 0, new FoxHoles().arms());
        FoxHoles four = warren(10, 1, 12, 23, 4, 45, 56, 7, 78, 36);
        due("two arms and a short one", 0, four.arms());
        FoxHoles round = warren(10);
        for (int i = 0; i < 10; i++) {
            round.path(i * 10 + (i + 1) % 10);
            round.path(i * 10 + (i + 2) % 10);
        }
        due("of all", 10, round.arms());
    }

    private static void toStop() {
        about(18);
        FoxHoles x = line(3);
        due("within 2", 0, x.toStop(2));
        due("within 1", 3, x.toStop(1));
        due("within 0", BAD, x.toStop(0));
        due("within 41", BAD, x.toStop(41));
        due("within -1", BAD, x.toStop(-1));
        FoxHoles ring = warren(5, 1, 12, 23, 34, 40);
        due("a ring, one stopped: a line of four", 1, ring.toStop(40));
        due("within 4", 1, ring.toStop(4));
        due("within 3: two, so that a line of three is left", 3, ring.toStop(3));
        ring.mend(1, 1, 1);
        due("of one more open", 0, ring.toStop(40));
        due("only more ones are told", 0, ring.toStop(4));
        ring.mend(0, 2, 2);
        due("two lookers", 0, ring.toStop(2));
        ring.mend(0, 3, 127);
        due("asleep: all", 29, ring.toStop(40));
        ring.mend(0, 3, 1);
        due("within one, asleep: all", 29, ring.toStop(1));
        due("none", 0, new FoxHoles().toStop(40));
        due("no change", 1, ring.of(1, 1));
        FoxHoles still = warren(3);
        due("three that stay within 2: the least", 1, still.toStop(2));
        FoxHoles star = warren(4, 1, 2, 3);
        due("its middle in 2", 0, star.toStop(2));
        due("one morning: three", 7, star.toStop(1));
    }

    private static void dogs() {
        about(19);
        FoxHoles x = line(4);
        due("at an end", 3, x.dogs(0));
        due("within", 2, x.dogs(1));
        due("no such hole", BAD, x.dogs(4));
        due("hole -1", BAD, x.dogs(-1));
        law(x, "b=(a+1)%n");
        due("round", 3, x.dogs(0));
        law(x, "b=a+1");
        due("to the last", 3, x.dogs(3));
        due("not to the first", NOT, x.dogs(0));
        law(x, "b=2");
        due("at once", 1, x.dogs(2));
        due("not to another", NOT, x.dogs(1));
        law(x, "p");
        x.mend(1, 1, 1);
        due("stopped", BAD, x.dogs(1));
        due("behind a stopped one", NOT, x.dogs(2));
        x.mend(0, 1, 1);
        due("stopped ones do not matter", 1, x.dogs(2));
        due("alone", 0, line(1).dogs(0));
    }

    private static void kept() {
        about(20);
        FoxHoles x = line(5);
        due("none looked into", 31, x.kept(0));
        due("one within", 27, x.kept(4));
        due("two", 0, x.kept(10));
        due("all", 0, x.kept(31));
        due("an end", 30, x.kept(1));
        due("bits above", BAD, x.kept(32));
        due("below 0", BAD, x.kept(-1));
        x.mend(0, 3, 127);
        due("each morning, whoever sleeps", 0, x.kept(10));
        x.mend(1, 1, 1);
        due("one that stays", 29, x.kept(0));
        due("looked into", 28, x.kept(1));
        law(x, "b=4");
        due("all go to 4", 29, x.kept(0));
        due("all go to 4, looked into", 0, x.kept(16));
        due("one on the way only", 24, x.kept(5));
        FoxHoles on = warren(10);
        law(on, "b=a+1");
        due("all come to the last", 0, on.kept(512));
        due("but for it they stay there", 1022, on.kept(1));
    }

    // ---- at random

    private static void likelyIs(FoxHoles x, int hm, long above, long below) {
        due("likely(0," + hm + ",0)", above, x.likely(0, hm, 0));
        due("likely(0," + hm + ",1)", below, x.likely(0, hm, 1));
    }

    private static FoxHoles threeInALine() {
        FoxHoles x = holesOf(1, 2, 1);
        x.path(1);
        x.path(12);
        return x;
    }

    private static void likely() {
        about(21);
        FoxHoles x = threeInALine();
        looks(x, 0, 0, 1, 1);
        likelyIs(x, 0, 1, 4);
        likelyIs(x, 100, 1, 2);
        likelyIs(x, 1, 0, 1);
        likelyIs(x, 101, 2, 3);
        likelyIs(x, 201, 1, 3);
        likelyIs(x, 2, 1, 2);
        likelyIs(x, 102, 0, 1);
        due("surely caught", NOT, x.likely(0, 3, 0));
        due("surely caught, below", NOT, x.likely(0, 103, 1));
        due("4 of 3", LEAST, x.likely(0, 4, 0));
        due("no such hole", LEAST, x.likely(0, 300, 0));
        due("below 0", LEAST, x.likely(0, -1, 0));
        due("part 2", LEAST, x.likely(0, 0, 2));
        due("part -1", LEAST, x.likely(0, 0, -1));
        due("nothing there", LEAST, x.likely(1, 0, 0));
        due("shelf 6", LEAST, x.likely(6, 0, 0));
        due("shelf -1", LEAST, x.likely(-1, 0, 0));
        row(x, 1, 1, 1);
        due("shorts", LEAST, x.likely(1, 0, 0));
        looks(x, 0, 0, 0, 0, 0, 0, 0, 0, 0, 0, 0, 0, 0, 0);
        due("13 mornings", LEAST, x.likely(0, 13, 0));
        due("12 mornings", 1, x.likely(0, 12, 0) >= 0 ? 1 : 0);
        looks(x, 0, 0, 1, 1);
        x.mend(0, 3, 1);
        likelyIs(x, 1, 1, 4);
        likelyIs(x, 102, 0, 1);
        likelyIs(x, 2, 1, 2);
        x.mend(0, 3, 0);
        x.mend(0, 2, 2);
        likelyIs(x, 201, 1, 1);
        x.mend(0, 2, 1);
        x.mend(1, 1, 1);
        likelyIs(x, 0, 1, 2);
        likelyIs(x, 100, 0, 1);
        likelyIs(x, 203, 1, 1);
        law(x, "1");
        likelyIs(x, 203, 1, 1);
        x.mend(0, 0, 0);
        x.mend(2, 0, 0);
        due("no weight", NOT, x.likely(0, 0, 0));
        FoxHoles star = warren(5, 1, 2, 3, 4);
        looks(star, 0, 9, 1, 9);
        likelyIs(star, 2, 16, 19);
        likelyIs(star, 202, 1, 19);
        likelyIs(star, 3, 3, 19);
    }

    private static void luckAndMean() {
        about(22);
        FoxHoles x = threeInALine();
        looks(x, 0, 0, 1, 1);
        long[][] luck = {{0, 1}, {1, 4}, {1, 2}, {1, 1}};
        long[][] mean = {{NOT, NOT}, {1, 1}, {3, 2}, {9, 4}};
        for (int m = 0; m <= 3; m++) {
            for (int part = 0; part <= 1; part++) {
                about(22);
                due("luck(0," + m + "," + part + ")", luck[m][part], x.luck(0, m, part));
                about(23);
                due("mean(0," + m + "," + part + ")", mean[m][part], x.mean(0, m, part));
            }
        }
        about(22);
        due("luck of 4", LEAST, x.luck(0, 4, 0));
        due("luck of -1", LEAST, x.luck(0, -1, 0));
        due("luck, part 2", LEAST, x.luck(0, 0, 2));
        due("luck of nothing", LEAST, x.luck(1, 0, 0));
        due("luck, shelf 6", LEAST, x.luck(6, 0, 0));
        about(23);
        due("mean of 4", LEAST, x.mean(0, 4, 0));
        due("mean of -1", LEAST, x.mean(0, -1, 0));
        due("mean, part -1", LEAST, x.mean(0, 1, -1));
        due("mean of nothing", LEAST, x.mean(1, 0, 0));
        due("mean, shelf -1", LEAST, x.mean(-1, 0, 0));
        row(x, 1, 4, 1);
        due("mean of booleans", LEAST, x.mean(1, 0, 0));
        about(22);
        due("luck of booleans", LEAST, x.luck(1, 0, 0));
        looks(x, 1, 0, 0, 0, 0, 0, 0, 0, 0, 0, 0, 0, 0, 0);
        due("luck of 13", LEAST, x.luck(1, 13, 0));
        about(23);
        due("mean of 13", LEAST, x.mean(1, 13, 0));
        x.mend(0, 3, 3);
        due("asleep for two: mean", 3, x.mean(0, 3, 0));
        about(22);
        due("asleep for two: luck", 1, x.luck(0, 3, 0));
        due("asleep for two: luck", 2, x.luck(0, 3, 1));
        due("asleep", 0, x.luck(0, 2, 0));
        for (int h = 0; h < 3; h++) {
            x.mend(h, 0, 0);
        }
        due("luck without weight", NOT, x.luck(0, 1, 0));
        due("BAD ahead of NOT", LEAST, x.luck(0, 4, 0));
        about(23);
        due("mean without weight", NOT, x.mean(0, 1, 0));
    }

    private static void luckiestIs(FoxHoles x, long above, long below, int... looks) {
        int m = looks.length;
        due("luckiest(" + m + ",-1)", above, x.luckiest(m, -1));
        due("luckiest(" + m + ",-2)", below, x.luckiest(m, -2));
        for (int k = 0; k < m; k++) {
            due("luckiest(" + m + "," + k + ")", looks[k], x.luckiest(m, k));
        }
        due("luckiest(" + m + "," + m + ")", LEAST, x.luckiest(m, m));
    }

    private static void luckiest() {
        about(24);
        FoxHoles x = threeInALine();
        luckiestIs(x, 1, 2, 1);
        luckiestIs(x, 1, 1, 1, 1);
        luckiestIs(x, 1, 1, 0, 1, 1);
        luckiestIs(x, 1, 1, 0, 0, 1, 1);
        x.mend(0, 2, 2);
        x.mend(0, 3, 127);
        luckiestIs(x, 1, 1, 1, 1);
        due("m 0", LEAST, x.luckiest(0, -1));
        due("m 5", LEAST, x.luckiest(5, -1));
        due("k -3", LEAST, x.luckiest(4, -3));
        law(x, "0");
        luckiestIs(x, 1, 1, 1, 1);
        FoxHoles like = warren(3);
        luckiestIs(like, 1, 3, 0);
        luckiestIs(like, 2, 3, 0, 1);
        like.mend(0, 0, 0);
        luckiestIs(like, 1, 2, 1);
        for (int h = 0; h < 3; h++) {
            like.mend(h, 1, 1);
        }
        due("none is open", NOT, like.luckiest(1, -1));
        due("none is open", NOT, like.luckiest(1, 0));
        due("BAD ahead of NOT", LEAST, like.luckiest(1, 1));
        like.mend(2, 1, 0);
        luckiestIs(like, 1, 1, 2);
        due("what was worked out is not kept too long", 2, like.luckiest(1, 0));
        like.mend(0, 1, 0);
        like.mend(0, 0, 5);
        luckiestIs(like, 5, 6, 0);
    }

    private static void drawn() {
        about(25);
        FoxHoles x = line(1);
        looks(x, 0, 0);
        due("all are caught", 60, x.drawn(0, 1, 6001, 0));
        due("on the first morning", 60, x.drawn(0, 1, 6030, 1));
        FoxHoles two = holesOf(1, 2);
        looks(two, 0, 1);
        int z = 77;
        int inOne = 0;
        for (int i = 0; i < 40; i++) {
            z = draw(z);
            inOne += (z >>> 8) % 3 >= 1 ? 1 : 0;
        }
        due("by weights", inOne, two.drawn(0, 77, 4001, 0));
        due("no draw of a night that nobody can go", inOne, two.drawn(0, 77, 4003, 0));
        two.path(1);
        looks(two, 0, 1, 1);
        z = 77;
        int mornings = 0;
        for (int i = 0; i < 40; i++) {
            z = draw(z);
            boolean first = (z >>> 8) % 3 >= 1;
            mornings += first ? 1 : 2;
            z = first ? z : draw(z);
        }
        due("a night is drawn, though to one only", mornings, two.drawn(0, 77, 4002, 1));
        due("all", 40, two.drawn(0, 77, 4002, 0));
        two.mend(0, 3, 3);
        due("asleep", 0, two.drawn(0, 77, 4002, 0));
        two.mend(0, 3, 0);
        due("n 0", BAD, two.drawn(0, 1, 1, 0));
        due("n 61", BAD, two.drawn(0, 1, 6101, 0));
        due("m 0", BAD, two.drawn(0, 1, 100, 0));
        due("m 31", BAD, two.drawn(0, 1, 131, 0));
        due("below 0", BAD, two.drawn(0, 1, -101, 0));
        due("what 2", BAD, two.drawn(0, 1, 101, 2));
        due("what -1", BAD, two.drawn(0, 1, 101, -1));
        due("shelf 6", BAD, two.drawn(6, 1, 101, 0));
        due("nothing", -11, two.drawn(1, 1, 101, 0));
        row(two, 1, 1, 1);
        due("shorts", -12, two.drawn(1, 1, 101, 0));
        two.mend(0, 0, 0);
        two.mend(1, 1, 1);
        due("no weight", STATE, two.drawn(0, 1, 101, 0));
        due("-12 ahead of STATE", -12, two.drawn(1, 1, 101, 0));
        FoxHoles law = warren(3);
        law(law, "b=2");
        looks(law, 0, 9, 2);
        due("by the law", 60, law.drawn(0, 5, 6002, 0));
        due("on the second", 120, law.drawn(0, 5, 6030, 1));
    }

    // ---- in deed

    private static void hideAndLook() {
        about(26);
        FoxHoles x = holesOf(0, 4, 0);
        x.path(1);
        x.path(12);
        due("in all open ones", 7, x.hide(3));
        due("where now", 7, x.of(0, 13));
        about(27);
        due("no such hole", BAD, x.look(30));
        due("no such other hole", BAD, x.look(3));
        due("below 0", BAD, x.look(-1));
        due("not there", 0, x.look(0));
        due("day", 1, x.of(0, 12));
        due("where now", 7, x.of(0, 13));
        due("in vain in 0", 1, x.of(0, 4));
        due("not there", 0, x.look(11));
        due("in vain in 1", 1, x.of(1, 4));
        due("where now", 2, x.of(0, 13));
        due("there", 1, x.look(11));
        due("day stays", 2, x.of(0, 12));
        due("caught", 1, x.of(0, 14));
        due("nothing is hidden", STATE, x.look(11));
        due("BAD ahead of STATE", BAD, x.look(33));
        due("where now", STATE, x.of(0, 13));
        due("a caught one is not in vain", 1, x.of(1, 4));
        about(26);
        due("hidden anew", 7, x.hide(4));
        due("day", 0, x.of(0, 12));
        due("in vain, of all hunts", 1, x.of(0, 4));
        x.mend(2, 1, 1);
        due("hidden twice", 3, x.hide(5));
        x.mend(1, 1, 1);
        due("no weight", STATE, x.hide(5));
        due("the old one is there yet", 3, x.of(0, 13));
        about(27);
        due("stopped by now, it stays", 0, x.look(0));
        due("where now", 2, x.of(0, 13));
        due("stopped by now, it stayed", 1, x.look(10));
        due("two caught", 2, x.of(0, 14));
        FoxHoles two = holesOf(3, 0, 0);
        two.path(1);
        two.mend(0, 2, 2);
        two.hide(1);
        due("both", 0, two.look(12));
        due("in vain in both", 1, two.of(1, 4));
        due("in vain in both", 1, two.of(2, 4));
        due("where now", 2, two.of(0, 13));
        due("one for both", 0, two.look(22));
        due("in vain once", 2, two.of(2, 4));
        due("by the second", 1, two.look(20));
        due("in vain is no morning on which it is caught", 2, two.of(2, 4));
        two.mend(0, 2, 1);
        two.hide(1);
        due("one looker: the first alone", 0, two.look(10));
        due("so in the second none", 0, two.of(0, 4));
        two.mend(0, 3, 2);
        due("asleep on day 1", 0, two.look(11));
        due("no look in vain", 2, two.of(1, 4));
        due("day", 2, two.of(0, 12));
        due("awake on day 2", 1, two.look(0));
        FoxHoles ways = warren(4, 1, 2, 3);
        law(ways, "p|a=b");
        drawnInDeed(ways, 12345);
        drawnInDeed(ways, -7);
    }

    /** Follows the fox by the draws as told, and looks where it is on the fifth day. */
    private static void drawnInDeed(FoxHoles x, int seed) {
        int z = draw(seed);
        int fox = (z >>> 8) % 4;
        x.hide(seed);
        for (int day = 0; day < 5; day++) {
            due("not there", 0, x.look((fox + 1) % 4 * 11));
            int ways = x.of(fox, 3);
            z = draw(z);
            int draw = (z >>> 8) % Integer.bitCount(ways);
            for (int i = 0; i < draw; i++) {
                ways &= ways - 1;
            }
            fox = Integer.numberOfTrailingZeros(ways);
        }
        due("there", 1, x.look(fox * 11));
    }

    private static void imageAndBack() {
        about(29);
        FoxHoles x = line(3);
        due("there is none", STATE, x.back());
        about(28);
        due("nothing is hidden", NOT, x.image());
        about(29);
        x.mend(0, 0, 0);
        x.mend(2, 0, 0);
        x.hide(1);
        due("nothing is hidden, laid back", NOT, x.back());
        due("where now", STATE, x.of(0, 13));
        x.hide(1);
        x.look(0);
        about(28);
        due("day", 1, x.image());
        due("not there", 0, x.look(11));
        due("there", 1, x.look(11));
        due("caught", 1, x.of(0, 14));
        about(29);
        due("laid back", 1, x.back());
        due("caught", 0, x.of(0, 14));
        due("day", 1, x.of(0, 12));
        due("in vain", 0, x.of(1, 4));
        due("in vain in 0", 1, x.of(0, 4));
        due("where now", 7, x.of(0, 13));
        due("not there, again", 0, x.look(11));
        due("there, again", 1, x.look(11));
        due("laid back once more", 1, x.back());
        x.mend(0, 0, 5);
        due("and again", 1, x.back());
        due("what is mended stays", 5, x.of(0, 0));
        FoxHoles draws = warren(10);
        law(draws, "1");
        draws.hide(9);
        draws.image();
        int[] first = hunt(draws);
        draws.back();
        int[] second = hunt(draws);
        for (int i = 0; i < first.length; i++) {
            due("the same draws behind an image", first[i], second[i]);
        }
    }

    private static int[] hunt(FoxHoles x) {
        int[] answers = new int[30];
        for (int i = 0; i < answers.length; i++) {
            answers[i] = x.look(i % 10 * 11);
        }
        return answers;
    }

    private static void undoAndRedo() {
        about(30);
        FoxHoles x = line(3);
        due("none", STATE, x.undo());
        x.mend(1, 0, 4);
        x.mend(1, 1, 1);
        x.mend(0, 2, 2);
        x.mend(0, 3, 9);
        x.mend(0, 3, 9);
        due("telling the same is none", 4, x.count(4));
        due("undo", 3, x.undo());
        due("sleep", 0, x.of(0, 11));
        due("undo", 2, x.undo());
        due("lookers", 1, x.of(0, 10));
        due("undo", 1, x.undo());
        due("stopped", 0, x.of(1, 1));
        due("undo", 0, x.undo());
        due("weight", 1, x.of(1, 0));
        due("no more", STATE, x.undo());
        about(31);
        due("redo", 3, x.redo());
        due("weight", 4, x.of(1, 0));
        due("redo", 2, x.redo());
        due("stopped", 1, x.of(1, 1));
        due("count(4)", 2, x.count(4));
        due("telling the same", 4, x.mend(1, 0, 4));
        x.hole(3);
        x.path(23);
        due("redo, for that is no other", 1, x.redo());
        due("lookers", 2, x.of(0, 10));
        x.mend(2, 0, 0);
        due("another came behind", STATE, x.redo());
        due("count(4)", 4, x.count(4));
        FoxHoles many = line(1);
        for (int i = 0; i < 45; i++) {
            many.mend(0, 0, i % 2 == 0 ? 5 : 6);
        }
        about(30);
        due("40 are kept", 40, many.count(4));
        for (int i = 39; i >= 0; i--) {
            due("undo", i, many.undo());
        }
        due("no more", STATE, many.undo());
        due("as behind the fifth", 5, many.of(0, 0));
        about(31);
        for (int i = 39; i >= 0; i--) {
            due("redo", i, many.redo());
        }
        due("no more", STATE, many.redo());
        due("as at last", 5, many.of(0, 0));
        many.undo();
        many.undo();
        due("a change behind 38", 5, many.mend(0, 0, 9));
        due("39 then", 39, many.count(4));
        due("back again", 38, many.undo());
        due("to what it was", 5, many.of(0, 0));
    }

    private static int[] told(FoxHoles x) {
        return new int[] {x.of(0, 0), x.of(0, 1), x.of(1, 0), x.of(1, 1), x.of(2, 0), x.of(2, 1), x.of(0, 10), x.of(0, 11)};
    }

    private static void sameTold(int[] want, int[] got) {
        for (int i = 0; i < want.length; i++) {
            due("told number " + i, want[i], got[i]);
        }
    }

    private static void manyChanges() {
        about(30);
        FoxHoles x = line(3);
        int[][] all = new int[61][];
        all[0] = told(x);
        for (int i = 1; i <= 60; i++) {
            int what = i * 7 % 4;
            int number = what < 2 ? i % 3 : 0;
            int was = what < 2 ? x.of(number, what) : x.of(0, 8 + what);
            int v = what == 0 ? (was + 3) % 10 : what == 1 ? 1 - was : what == 2 ? 3 - was : (was + 11) % 128;
            due("mend", was, x.mend(number, what, v));
            all[i] = told(x);
        }
        for (int i = 59; i >= 20; i--) {
            due("undo", i - 20, x.undo());
            sameTold(all[i], told(x));
        }
        due("no more", STATE, x.undo());
        about(31);
        for (int i = 21; i <= 60; i++) {
            due("redo", 60 - i, x.redo());
            sameTold(all[i], told(x));
        }
        due("no more", STATE, x.redo());
    }

    // ---- acts, shelves

    private static void actIs(FoxHoles x, int body, int act, int in, int out, int... trace) {
        about(33);
        due("act(" + body + "," + act + "," + in + ")", out, x.act(body, act, in));
        due("how many ran", trace.length, x.count(6));
        about(34);
        for (int i = 0; i < trace.length; i++) {
            due("trace(" + i + ") of act(" + body + "," + act + ")", trace[i], x.trace(i));
        }
        due("trace behind its end", BAD, x.trace(trace.length));
        due("trace(-1)", BAD, x.trace(-1));
    }

    private static void bodies() {
        about(32);
        FoxHoles x = new FoxHoles();
        due("kind -1", BAD, x.body(-1));
        due("kind 8", BAD, x.body(8));
        for (int kind = 0; kind < 8; kind++) {
            due("body", kind, x.body(kind));
        }
        actIs(x, 0, 0, 5, 5, 1);
        actIs(x, 0, 1, 5, 10, 10, 1);
        actIs(x, 0, 2, 5, 5, 11);
        actIs(x, 0, 3, 5, 9, 2, 10, 1, 11);
        actIs(x, 1, 0, 5, 9, 20, 1);
        actIs(x, 1, 1, 5, 18, 10, 20, 1);
        actIs(x, 1, 3, 5, 18, 2, 10, 20, 1, 11);
        actIs(x, 2, 1, 5, -14, 30, 10, 1);
        actIs(x, 2, 3, 5, -17, 2, 30, 10, 1, 11);
        actIs(x, 3, 2, 5, 18, 40, 11);
        actIs(x, 3, 1, 5, -18, 41, 30, 10, 1);
        actIs(x, 3, 3, 5, -24, 2, 41, 30, 10, 1, 40, 11);
        actIs(x, 4, 0, 5, 12, 20, 1);
        actIs(x, 4, 2, 5, 1 - 9, 50, 11, 20, 1);
        actIs(x, 4, 3, 5, 24 + 4, 2, 10, 20, 1, 50, 11, 20, 1);
        actIs(x, 5, 3, 5, (-22 - 12) ^ 5, 60, 2, 41, 30, 10, 1, 40, 11);
        actIs(x, 6, 0, 5, 22, 70, 1);
        actIs(x, 6, 1, 5, 44, 10, 70, 1);
        actIs(x, 6, 3, 5, 44 - 7, 2, 10, 70, 1, 11);
        actIs(x, 7, 1, 5, 30 + 5 - 12, 80, 10, 20, 1, 50, 11, 20, 1);
        actIs(x, 7, 3, 5, 23 - (6 - 12) - 1, 81, 2, 80, 10, 20, 1, 50, 11, 20, 1, 50, 11, 20, 1);
        actIs(x, 0, 1, Integer.MAX_VALUE, -2, 10, 1);
        actIs(x, 8, 0, 1, 0);
        actIs(x, 1, 0, 0, 4, 20, 1);
        actIs(x, 0, 4, 1, 0);
        actIs(x, -1, 0, 1, 0);
        actIs(x, 0, -1, 1, 0);
        about(32);
        for (int i = 8; i < 50; i++) {
            due("body", i, x.body(0));
        }
        due("the 51st", FULL, x.body(0));
        due("BAD ahead of FULL", BAD, x.body(8));
        due("count(5)", 50, x.count(5));
        actIs(x, 49, 0, 1, 50, 1);
    }

    private static void keepAndRow() {
        about(35);
        FoxHoles x = new FoxHoles();
        x.body(3);
        due("keep", 1, x.keep(0, 0));
        due("kept", 3, x.taken(0, 3));
        due("nothing", 1, x.keep(0, -1));
        due("nothing there", -11, x.taken(0, 0));
        due("no such body", BAD, x.keep(0, 1));
        due("body -2", BAD, x.keep(0, -2));
        due("shelf 6", BAD, x.keep(6, 0));
        due("shelf -1", BAD, x.keep(-1, -1));
        about(36);
        due("row", 1, x.row(0, 0, 60));
        due("its last", 0, x.element(0, 59));
        due("behind it", LEAST, x.element(0, 60));
        due("of none", 1, x.row(0, 4, 0));
        due("behind it", LEAST, x.element(0, 0));
        due("61", BAD, x.row(0, 0, 61));
        due("-1", -14, x.row(0, 0, -1));
        due("least", -14, x.row(0, 0, Integer.MIN_VALUE));
        due("sort 5", BAD, x.row(0, 5, 1));
        due("sort -1", BAD, x.row(0, -1, 1));
        due("shelf 6", BAD, x.row(6, 0, 1));
        due("shelf -1", BAD, x.row(-1, 0, 1));
        due("BAD ahead of -14", BAD, x.row(0, 5, -1));
        row(x, 0, 2, 7, 8);
        due("a refused one", -14, x.row(0, 0, -1));
        due("changes nothing", 8, x.element(0, 1));
        due("row anew", 1, x.row(0, 2, 2));
        due("0 at first", 0, x.element(0, 1));
        x.keep(0, 0);
        due("row over a body", 1, x.row(0, 1, 1));
        due("a row now", -12, x.taken(0, 0));
    }

    private static void putAndElement() {
        FoxHoles x = new FoxHoles();
        long v = 0x123456789abcdef0L | 1L << 63;
        long[] cut = {(byte) 0xf0, (short) 0xdef0, 0x9abcdef0, v, 1};
        for (int sort = 0; sort < 5; sort++) {
            about(36);
            due("row", 1, x.row(sort, sort, 3));
            due("0 at first", 0, x.element(sort, 1));
            about(37);
            due("put", 1, x.put(sort, 1, v));
            about(38);
            due("element of sort " + sort, cut[sort], x.element(sort, 1));
            due("beside it", 0, x.element(sort, 0));
            due("beside it", 0, x.element(sort, 2));
        }
        about(37);
        due("a boolean of 256", 1, x.put(4, 0, 256));
        due("is 1", 1, x.element(4, 0));
        due("a boolean of 0", 1, x.put(4, 0, 0));
        due("is 0", 0, x.element(4, 0));
        due("place 3", -13, x.put(0, 3, 1));
        due("place -1", -13, x.put(0, -1, 1));
        due("nothing", -11, x.put(5, 9, 1));
        due("shelf 6", BAD, x.put(6, 0, 1));
        due("shelf -1", BAD, x.put(-1, 0, 1));
        x.body(0);
        x.keep(5, 0);
        due("a body", -12, x.put(5, 9, 1));
        about(38);
        due("place 3", LEAST, x.element(0, 3));
        due("place -1", LEAST, x.element(0, -1));
        due("a body", LEAST, x.element(5, 0));
        x.keep(5, -1);
        due("nothing", LEAST, x.element(5, 0));
        due("shelf 6", LEAST, x.element(6, 0));
        due("shelf -1", LEAST, x.element(-1, 0));
    }

    private static void rowIs(FoxHoles x, int shelf, long... elements) {
        for (int i = 0; i < elements.length; i++) {
            due("element " + i, elements[i], x.element(shelf, i));
        }
    }

    private static void shift() {
        about(39);
        FoxHoles x = new FoxHoles();
        row(x, 0, 0, 1, 2, 3, 4, 5);
        row(x, 1, 0, 9, 9, 9);
        due("to another", 2, x.shift(0, 3, 1, 1, 2));
        rowIs(x, 1, 9, 4, 5);
        rowIs(x, 0, 1, 2, 3, 4, 5);
        due("within one, on", 4, x.shift(0, 0, 0, 1, 4));
        rowIs(x, 0, 1, 1, 2, 3, 4);
        due("within one, back", 4, x.shift(0, 1, 0, 0, 4));
        rowIs(x, 0, 1, 2, 3, 4, 4);
        due("none at the end", 0, x.shift(0, 5, 1, 3, 0));
        due("none behind the end", -13, x.shift(0, 6, 1, 0, 0));
        due("too many of the one", -13, x.shift(1, 0, 0, 0, 4));
        due("too many for the other", -13, x.shift(0, 0, 1, 0, 4));
        due("from -1", -13, x.shift(0, -1, 1, 0, 1));
        due("to -1", -13, x.shift(0, 0, 1, -1, 1));
        due("n -1", -13, x.shift(0, 1, 1, 1, -1));
        due("most", -13, x.shift(0, Integer.MAX_VALUE, 1, 0, Integer.MAX_VALUE));
        due("nothing to", -11, x.shift(0, 0, 2, 0, 1));
        due("nothing from", -11, x.shift(2, 0, 0, 0, 1));
        row(x, 3, 1, 1);
        due("unlike sorts", -12, x.shift(0, 0, 3, 0, 1));
        due("-12 ahead of -13", -12, x.shift(0, 9, 3, 0, 1));
        x.body(0);
        x.keep(4, 0);
        due("to a body", -12, x.shift(0, 0, 4, 0, 1));
        due("from a body", -12, x.shift(4, 0, 0, 0, 1));
        due("from a body to itself", -12, x.shift(4, 0, 4, 0, 0));
        due("-11 ahead of -12", -11, x.shift(4, 0, 2, 0, 1));
        due("shelf 6", BAD, x.shift(6, 0, 0, 0, 1));
        due("to shelf 6", BAD, x.shift(2, 0, 6, 0, 1));
        due("shelf -1", BAD, x.shift(-1, 0, 0, 0, 1));
        rowIs(x, 0, 1, 2, 3, 4, 4);
    }

    private static void taken() {
        about(40);
        int[][] above = {{0}, {1, 0}, {2, 0}, {3, 2, 0}, {4, 1, 0}, {5, 3, 2, 0}, {6, 0}, {7, 4, 1, 0}};
        FoxHoles x = new FoxHoles();
        for (int kind = 0; kind < 8; kind++) {
            x.body(kind);
            x.keep(0, kind);
            for (int k = 0; k < 8; k++) {
                boolean under = false;
                for (int a : above[kind]) {
                    under |= a == k;
                }
                due("kind " + kind + " taken for " + k, under ? kind : -12, x.taken(0, k));
            }
        }
        due("kind 8", BAD, x.taken(0, 8));
        due("kind -1", BAD, x.taken(0, -1));
        due("shelf 6", BAD, x.taken(6, 0));
        due("shelf -1", BAD, x.taken(-1, 0));
        due("nothing", -11, x.taken(1, 0));
        due("BAD ahead of -11", BAD, x.taken(1, 8));
        x.row(1, 0, 1);
        due("a row", -12, x.taken(1, 0));
    }

    private static void count() {
        about(41);
        FoxHoles x = line(4);
        x.mend(1, 1, 1);
        x.feed('a');
        x.feed('b');
        x.body(0);
        x.body(1);
        x.body(2);
        x.act(1, 1, 1);
        int[] counts = {4, 3, 3, 2, 1, 3, 3};
        for (int what = 0; what < 7; what++) {
            due("count(" + what + ")", counts[what], x.count(what));
        }
        due("count(7)", BAD, x.count(7));
        due("count(-1)", BAD, x.count(-1));
        x.act(9, 1, 1);
        due("none ran", 0, x.count(6));
        x.undo();
        due("none to be undone", 0, x.count(4));
        due("all open", 4, x.count(2));
        due("constants", 1, FoxHoles.BAD == -1 && FoxHoles.NOT == -2 && FoxHoles.FULL == -3 && FoxHoles.STATE == -5
            && FoxHoles.VOID == -2000000000 ? 1 : 0);
    }
}
