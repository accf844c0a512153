import java.util.ArrayList;
import java.util.List;
import java.util.function.ToLongFunction;

/**
 * "What is answered so changes nothing": each refused call is made on one of two like objects, and all that can be
 * asked of both is asked then, down to what is hidden, what may be undone and done again, and what stands on the tape.
 */
public final class Refusals extends Sentences {
    /** A call, told by its words, with the refusal that is due. */
    private record Call(String words, long want, ToLongFunction<FoxHoles> made) {
    }

    /** A state from which the calls are refused. */
    private interface State {
        FoxHoles make();
    }

    private static final List<Call> CALLS = new ArrayList<>();

    public static void main(String[] args) {
        readDocument(args);
        says(TERMS, "What is answered so changes nothing.");
        ofABusyOne();
        eachOn(Refusals::busy);
        ofAFullOne();
        eachOn(Refusals::full);
        ofANewOne();
        eachOn(FoxHoles::new);
        twiceAsManyAsThere();
        end();
    }

    private static void refuse(String words, long want, ToLongFunction<FoxHoles> made) {
        CALLS.add(new Call(words, want, made));
    }

    private static void eachOn(State state) {
        due("the state asked twice is the same", 1, asked(state.make()).equals(asked(state.make())) ? 1 : 0);
        for (Call call : CALLS) {
            FoxHoles spared = state.make();
            FoxHoles refused = state.make();
            due(call.words, call.want, call.made.applyAsLong(refused));
            List<Long> before = asked(spared);
            List<Long> behind = asked(refused);
            for (int i = 0; i < before.size(); i++) {
                due("question " + i + " behind " + call.words, before.get(i), behind.get(i));
            }
        }
        CALLS.clear();
    }

    // ---- states

    /** Five holes in a line; a law, a tape, a fox, an image, changes of which two are taken back, rows, bodies, a trace. */
    private static FoxHoles busy() {
        FoxHoles x = new FoxHoles();
        for (int i = 0; i < 5; i++) {
            x.hole(i + 1);
        }
        for (int ab : new int[] {1, 12, 23, 34}) {
            x.path(ab);
        }
        law(x, "p|a=b");
        x.feed('!');
        x.feed('p');
        x.mend(0, 0, 9);
        x.mend(4, 1, 1);
        x.mend(0, 2, 2);
        x.mend(0, 3, 2);
        x.undo();
        x.undo();
        x.body(7);
        x.body(3);
        x.act(0, 3, 5);
        x.row(0, 0, 3);
        x.put(0, 0, 1);
        x.put(0, 2, 3);
        x.row(1, 1, 2);
        x.put(1, 0, 7);
        x.keep(2, 1);
        x.row(3, 4, 1);
        x.hide(5);
        x.image();
        x.look(44);
        x.look(44);
        return x;
    }

    private static FoxHoles full() {
        FoxHoles x = new FoxHoles();
        for (int i = 0; i < 10; i++) {
            x.hole(0);
        }
        for (int i = 0; i < 10; i++) {
            x.path(i * 10 + (i + 1) % 10);
            x.path(i * 10 + (i + 2) % 10);
        }
        for (int i = 0; i < 120; i++) {
            x.feed(i % 2 == 0 ? 'n' : '-');
        }
        for (int i = 0; i < 50; i++) {
            x.body(i % 8);
        }
        for (int i = 1; i <= 40; i++) {
            x.mend(0, 3, i);
        }
        x.row(0, 0, 2);
        return x;
    }

    // ---- questions

    private static List<Long> asked(FoxHoles x) {
        List<Long> answers = new ArrayList<>();
        askHoles(x, answers);
        askShelves(x, answers);
        answers.add((long) x.sure(-1));
        answers.add((long) x.sure(0));
        answers.add(x.luckiest(2, 1));
        askDeed(x, answers);
        askChanges(x, answers);
        askTape(x, answers);
        return answers;
    }

    private static void askHoles(FoxHoles x, List<Long> answers) {
        for (int what = 0; what <= 6; what++) {
            answers.add((long) x.count(what));
        }
        for (int number = 0; number < 10; number++) {
            for (int what = 0; what <= 4; what++) {
                answers.add((long) x.of(number, what));
            }
        }
        for (int what = 10; what <= 14; what++) {
            answers.add((long) x.of(0, what));
        }
        for (int i = 0; i < 15; i++) {
            answers.add((long) x.trace(i));
        }
    }

    private static void askShelves(FoxHoles x, List<Long> answers) {
        for (int shelf = 0; shelf < 6; shelf++) {
            for (int i = 0; i < 4; i++) {
                answers.add(x.element(shelf, i));
            }
            answers.add((long) x.taken(shelf, 0));
            answers.add((long) x.shift(shelf, 0, 0, 0, 0));
            answers.add((long) x.shift(shelf, 0, 1, 0, 0));
        }
    }

    /** The image is laid back last, so that what was hidden behind it is asked first. */
    private static void askDeed(FoxHoles x, List<Long> answers) {
        for (int round = 0; round < 2; round++) {
            for (int i = 0; i < 6; i++) {
                answers.add((long) x.look(i % 4 * 11));
                answers.add((long) x.of(0, 13));
            }
            answers.add((long) x.back());
        }
    }

    private static void askChanges(FoxHoles x, List<Long> answers) {
        for (int i = 0; i < 4; i++) {
            answers.add((long) x.redo());
            answers.add((long) x.of(0, 10));
            answers.add((long) x.of(0, 11));
        }
        for (int i = 0; i < 42; i++) {
            answers.add((long) x.undo());
            answers.add((long) x.of(0, 11));
        }
        answers.add((long) x.of(0, 0));
        answers.add((long) x.of(4, 1));
    }

    private static void askTape(FoxHoles x, List<Long> answers) {
        answers.add((long) x.law());
        for (int number = 0; number < 10; number++) {
            answers.add((long) x.of(number, 3));
        }
        answers.add((long) x.count(3));
    }

    // ---- refused calls

    private static void ofABusyOne() {
        refuse("hole(-1)", BAD, x -> x.hole(-1));
        refuse("hole(10)", BAD, x -> x.hole(10));
        refuse("holes(6, 0, 1)", BAD, x -> x.holes(6, 0, 1));
        refuse("holes(0, 0, 11)", BAD, x -> x.holes(0, 0, 11));
        refuse("holes(1, 0, 1)", OTHER, x -> x.holes(1, 0, 1));
        refuse("path(1)", BAD, x -> x.path(1));
        refuse("path(22)", BAD, x -> x.path(22));
        refuse("path(5)", BAD, x -> x.path(5));
        refuse("mend(0, 0, 10)", BAD, x -> x.mend(0, 0, 10));
        refuse("mend(5, 1, 1)", BAD, x -> x.mend(5, 1, 1));
        refuse("mend(1, 2, 2)", BAD, x -> x.mend(1, 2, 2));
        refuse("mend(0, 3, 128)", BAD, x -> x.mend(0, 3, 128));
        refuse("of(5, 0)", VOID, x -> x.of(5, 0));
        refuse("feed(256)", BAD, x -> x.feed(256));
        refuse("mayBe(0, 4)", BAD, x -> x.mayBe(0, 4));
        refuse("mayBe(1, 0)", OTHER, x -> x.mayBe(1, 0));
        refuse("mayBe(4, 0)", NOTHING, x -> x.mayBe(4, 0));
        refuse("caught(0)", NOT, x -> x.caught(0));
        refuse("caught(2)", OTHER, x -> x.caught(2));
        refuse("caught(4)", NOTHING, x -> x.caught(4));
        refuse("printed(6, 0)", BAD, x -> x.printed(6, 0));
        refuse("printed(0, 0)", OTHER, x -> x.printed(0, 0));
        refuse("ahead(1, 0)", BAD, x -> x.ahead(1, 0));
        refuse("ahead(4, 1)", NOTHING, x -> x.ahead(4, 1));
        refuse("judge(1)", OTHER, x -> x.judge(1));
        refuse("sure(-2)", BAD, x -> x.sure(-2));
        refuse("sureFrom(32, 0)", BAD, x -> x.sureFrom(32, 0));
        refuse("sureFrom(1, 7)", BAD, x -> x.sureFrom(1, 7));
        refuse("toStop(0)", BAD, x -> x.toStop(0));
        refuse("dogs(4)", BAD, x -> x.dogs(4));
        refuse("kept(32)", BAD, x -> x.kept(32));
        refuse("likely(0, 4, 0)", LEAST, x -> x.likely(0, 4, 0));
        refuse("luck(0, 4, 0)", LEAST, x -> x.luck(0, 4, 0));
        refuse("mean(0, 0, 0)", NOT, x -> x.mean(0, 0, 0));
        refuse("luckiest(4, 4)", LEAST, x -> x.luckiest(4, 4));
        refuse("drawn(0, 1, 100, 0)", BAD, x -> x.drawn(0, 1, 100, 0));
        refuse("drawn(1, 1, 101, 0)", OTHER, x -> x.drawn(1, 1, 101, 0));
        refuse("drawn(4, 1, 101, 0)", NOTHING, x -> x.drawn(4, 1, 101, 0));
        refuse("look(5)", BAD, x -> x.look(5));
        refuse("look(-1)", BAD, x -> x.look(-1));
        refuse("body(8)", BAD, x -> x.body(8));
        refuse("trace(14)", BAD, x -> x.trace(14));
        refuse("keep(0, 2)", BAD, x -> x.keep(0, 2));
        refuse("keep(6, -1)", BAD, x -> x.keep(6, -1));
        refuse("row(0, 5, 1)", BAD, x -> x.row(0, 5, 1));
        refuse("row(0, 0, 61)", BAD, x -> x.row(0, 0, 61));
        refuse("row(0, 0, -1)", SIZE, x -> x.row(0, 0, -1));
        refuse("row(2, 0, -1)", SIZE, x -> x.row(2, 0, -1));
        refuse("put(6, 0, 9)", BAD, x -> x.put(6, 0, 9));
        refuse("put(0, 3, 9)", PLACE, x -> x.put(0, 3, 9));
        refuse("put(2, 0, 9)", OTHER, x -> x.put(2, 0, 9));
        refuse("put(4, 0, 9)", NOTHING, x -> x.put(4, 0, 9));
        refuse("element(0, 3)", LEAST, x -> x.element(0, 3));
        refuse("shift(0, 0, 0, 1, 3)", PLACE, x -> x.shift(0, 0, 0, 1, 3));
        refuse("shift(0, 0, 1, 0, 1)", OTHER, x -> x.shift(0, 0, 1, 0, 1));
        refuse("shift(0, 0, 4, 0, 1)", NOTHING, x -> x.shift(0, 0, 4, 0, 1));
        refuse("shift(0, 0, 6, 0, 1)", BAD, x -> x.shift(0, 0, 6, 0, 1));
        refuse("taken(2, 8)", BAD, x -> x.taken(2, 8));
        refuse("taken(2, 4)", OTHER, x -> x.taken(2, 4));
        refuse("taken(4, 0)", NOTHING, x -> x.taken(4, 0));
        refuse("count(7)", BAD, x -> x.count(7));
    }

    /** All weights are 0, too. */
    private static void ofAFullOne() {
        refuse("hole(1)", FULL, x -> x.hole(1));
        refuse("holes(0, 0, 2), none came", 0, x -> x.holes(0, 0, 2));
        refuse("path(5)", FULL, x -> x.path(5));
        refuse("path(1)", BAD, x -> x.path(1));
        refuse("feed('a')", FULL, x -> x.feed('a'));
        refuse("body(0)", FULL, x -> x.body(0));
        refuse("sure(-1)", NOT, x -> x.sure(-1));
        refuse("sureFrom(1023, 6)", NOT, x -> x.sureFrom(1023, 6));
        refuse("luck(0, 1, 0)", NOT, x -> x.luck(0, 1, 0));
        refuse("likely(0, 1, 0)", NOT, x -> x.likely(0, 1, 0));
        refuse("luckiest(1, 0)", NOT, x -> x.luckiest(1, 0));
        refuse("drawn(0, 1, 101, 0)", STATE, x -> x.drawn(0, 1, 101, 0));
        refuse("hide(1)", STATE, x -> x.hide(1));
        refuse("look(0)", STATE, x -> x.look(0));
        refuse("back()", STATE, x -> x.back());
        refuse("redo()", STATE, x -> x.redo());
    }

    private static void ofANewOne() {
        refuse("hole(10)", BAD, x -> x.hole(10));
        refuse("holes(0, 0, 10), none came", 0, x -> x.holes(0, 0, 10));
        refuse("path(1)", BAD, x -> x.path(1));
        refuse("mend(0, 0, 1)", BAD, x -> x.mend(0, 0, 1));
        refuse("mend(0, 2, 3)", BAD, x -> x.mend(0, 2, 3));
        refuse("of(0, 13)", STATE, x -> x.of(0, 13));
        refuse("law() of an empty tape", -100, x -> x.law());
        refuse("hide(1)", STATE, x -> x.hide(1));
        refuse("look(0)", BAD, x -> x.look(0));
        refuse("back()", STATE, x -> x.back());
        refuse("undo()", STATE, x -> x.undo());
        refuse("redo()", STATE, x -> x.redo());
        refuse("keep(0, 0)", BAD, x -> x.keep(0, 0));
        refuse("put(0, 0, 1)", NOTHING, x -> x.put(0, 0, 1));
        refuse("row(0, 0, -1)", SIZE, x -> x.row(0, 0, -1));
    }

    /** What is full refuses as often as one likes, and all that was there is there yet. */
    private static void twiceAsManyAsThere() {
        says(TERMS, "FULL (-3); STATE (-5): as told;");
        FoxHoles x = full();
        for (int i = 0; i < 20; i++) {
            due("hole", FULL, x.hole(5));
            due("path", FULL, x.path(5));
            due("feed", FULL, x.feed('a'));
            due("body", FULL, x.body(0));
            due("hide", STATE, x.hide(i));
            due("look", STATE, x.look(0));
            due("back", STATE, x.back());
            due("redo", STATE, x.redo());
        }
        int[] counts = {10, 20, 10, 120, 40, 50, 0};
        for (int what = 0; what < counts.length; what++) {
            due("count(" + what + ")", counts[what], x.count(what));
        }
        due("the tape ends with a minus: it ends too early", -220, x.law());
    }
}
