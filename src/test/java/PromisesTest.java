/** Each promise of the document by itself: ordinary inputs, the edges that it names, wrong inputs. */
public final class PromisesTest {
    private static final int NONE = StyledRuns.NONE;
    private static final int LOWEST = Integer.MIN_VALUE;
    private static final int HIGHEST = Integer.MAX_VALUE;
    private static final Check check = new Check();

    public static void main(String[] args) {
        newObject();
        tapeCalls();
        typeCall();
        typeMovesPlaces();
        cutCall();
        swapCall();
        moveCall();
        moveTakesSpansAlong();
        layCall();
        layRefused();
        liftSetStretch();
        paintCall();
        fastCall();
        pinUnpin();
        readCall();
        readLimits();
        faultCall();
        writeCall();
        undoCall();
        undoBringsAllBack();
        undoneLeavesNothing();
        fullObject();
        imageBack();
        letterStyleRun();
        stackTells();
        spanAnchor();
        findCalls();
        styledCall();
        followCall();
        throughCall();
        throughEveryAct();
        idleCall();
        raisedBest();
        crossedCall();
        countCall();
        countRefused();
        statusCall();
        check.close();
    }

    private static void due(String call, long got, long want) {
        check.due(call, got, want);
    }

    private static StyledRuns typed(String letters) {
        return Check.typed(letters);
    }

    private static String repeated(String text, int times) {
        return text.repeat(times);
    }

    private static void newObject() {
        check.head("promise 1");
        StyledRuns x = new StyledRuns();
        int[] due = {0, 0, 0, 0, 0, 0, 0, NONE, 0, 0, 0, 0, 0, 0, 0, 0, 0, 0, 0};
        for (int what = 0; what < due.length; what++) {
            due("count(" + what + ")", x.count(what), due[what]);
        }
        due("tape(0)", x.tape(0), NONE);
        due("letter(0)", x.letter(0), NONE);
        due("fault()", x.fault(), NONE);
        due("status()", x.status(), 0);
        due("undo()", x.undo(), -4);
        due("NONE", StyledRuns.NONE, -1);
    }

    private static void tapeCalls() {
        check.head("promises 2 to 4");
        StyledRuns x = new StyledRuns();
        due("feed()", x.feed(0x01020304, 0x80FF7F00, -1, LOWEST, 0x41424344), 20);
        int[] bytes = {1, 2, 3, 4, 128, 255, 127, 0, 255, 255, 255, 255, 128, 0, 0, 0, 65, 66, 67, 68};
        for (int k = 0; k < bytes.length; k++) {
            due("tape(" + k + ")", x.tape(k), bytes[k]);
        }
        due("tape(20)", x.tape(20), NONE);
        due("tape(-1)", x.tape(-1), NONE);
        due("tape(lowest)", x.tape(LOWEST), NONE);
        due("tape(highest)", x.tape(HIGHEST), NONE);
        due("end(21)", x.end(21), NONE);
        due("end(-1)", x.end(-1), NONE);
        due("end(highest)", x.end(HIGHEST), NONE);
        due("count(13)", x.count(13), 20);
        due("end(20)", x.end(20), 20);
        due("end(5)", x.end(5), 5);
        due("tape(4)", x.tape(4), 128);
        due("tape(5)", x.tape(5), NONE);
        due("feed() behind 5", x.feed(0x61626364, 0, 0, 0, 0), 25);
        due("tape(4) stays", x.tape(4), 128);
        due("tape(5) is new", x.tape(5), 'a');
        due("end(0)", x.end(0), 0);
        for (int k = 1; k <= 20; k++) {
            due("feed() " + k, x.feed(k, k, k, k, k), 20 * k);
        }
        due("feed() beyond 400", x.feed(0, 0, 0, 0, 0), NONE);
        due("count(13)", x.count(13), 400);
        due("end(381)", x.end(381), 381);
        due("feed() from 381", x.feed(0, 0, 0, 0, 0), NONE);
        due("end(380)", x.end(380), 380);
        due("feed() from 380", x.feed(0, 0, 0, 0, 7), 400);
        due("tape(399)", x.tape(399), 7);
        due("feed() and end() are not refused", x.count(14), 0);
        due("nor told by status()", x.status(), 0);
    }

    private static void typeCall() {
        check.head("promise 5");
        StyledRuns x = new StyledRuns();
        due("type() of an empty tape", x.type(0), -4);
        due("type(1) of an empty tape", x.type(1), -1);
        due("type(-1)", x.type(-1), -1);
        due("type() first", Check.type(x, "ad", 0), 2);
        due("the tape is empty", x.count(13), 0);
        due("type() between", Check.type(x, "bc", 1), 4);
        due("type() at the end", Check.type(x, "~ ", 4), 6);
        check.due("letters", Check.lettersOf(x), "abcd~ ");
        String[] wrong = {"a[", "]a", "\037", "\177", "\200", "\377", "\0"};
        for (String text : wrong) {
            due("type() of a byte that is none", Check.type(x, text, 0), -1);
            due("the tape stays", x.count(13), text.length());
        }
        due("type() beyond the end", Check.type(x, "a", 7), -1);
        due("type() far beyond", Check.type(x, "a", HIGHEST), -1);
        due("the tape stays", x.count(13), 1);
        StyledRuns full = typed(repeated("x", 199));
        due("type() of 2 onto 199", Check.type(full, "yy", 3), -5);
        due("the tape stays", full.count(13), 2);
        due("nothing changes", full.count(0), 199);
        due("type() of a bad byte is told ahead of no room", Check.type(full, "y]", 3), -1);
        due("type() of 1 onto 199", Check.type(full, "y", 3), 200);
        due("letter(3)", full.letter(3), 'y');
        due("type() of 201 at once", Check.type(new StyledRuns(), repeated("x", 201), 0), -5);
    }

    private static void typeMovesPlaces() {
        check.head("promise 5, places and paint");
        for (int sides = 0; sides < 4; sides++) {
            StyledRuns x = typed("abcdef");
            x.lay(2, 4, 0, 1, 0, NONE, 0, sides);
            Check.type(x, "XYZ", 2);
            int from = (sides & 1) == 1 ? 5 : 2;
            due("FROM, sides " + sides, x.span(0, 0), from);
            due("TO behind, sides " + sides, x.span(0, 1), 7);
            Check.type(x, "Q", 7);
            due("TO, sides " + sides, x.span(0, 1), (sides & 2) == 2 ? 8 : 7);
            due("FROM ahead, sides " + sides, x.span(0, 0), from);
        }
        StyledRuns x = Check.marked("a[b][c3]b[/c][/b]c");
        Check.type(x, "X", 0);
        due("paint at 0", x.style(0, 6), 4);
        Check.type(x, "YZ", 3);
        due("paint of the letter ahead", x.style(3, 6), 134);
        due("of the second, too", x.style(4, 6), 134);
        due("behind them", x.style(5, 6), 4);
        StyledRuns bold = Check.marked("[b]a[/b]");
        Check.type(bold, "X", 0);
        due("PLAIN without one ahead", bold.style(0, 6), 4);
        Check.type(bold, "X", 2);
        due("paint at the end", bold.style(2, 6), 104);
        StyledRuns one = Check.marked("[b]a[/b]");
        Check.type(one, "X", 1);
        due("paint at 1", one.style(1, 6), 104);
    }

    private static void cutCall() {
        check.head("promise 6");
        StyledRuns x = typed("abcdefgh");
        int[][] wrong = {{-1, 3}, {0, 9}, {3, 3}, {4, 3}, {8, 9}, {LOWEST, HIGHEST}, {HIGHEST, LOWEST}};
        for (int[] w : wrong) {
            due("cut(" + w[0] + ", " + w[1] + ")", x.cut(w[0], w[1]), -1);
        }
        x.lay(1, 3, 0, 1, 0, NONE, 0, 3);
        x.lay(2, 5, 0, 2, 0, NONE, 0, 0);
        x.lay(4, 7, 0, 4, 0, NONE, 0, 0);
        x.lay(2, 6, 0, 4, 0, NONE, 0, 0);
        x.lay(6, 8, 0, 4, 0, NONE, 0, 0);
        for (int place = 0; place < 9; place++) {
            x.pin(place, place & 1);
        }
        due("cut(2, 6)", x.cut(2, 6), 4);
        check.due("letters", Check.lettersOf(x), "abgh");
        int[][] spans = {{1, 2}, {LOWEST, LOWEST}, {2, 3}, {LOWEST, LOWEST}, {2, 4}};
        for (int k = 0; k < spans.length; k++) {
            due("FROM " + k, x.span(k, 0), spans[k][0]);
            due("TO " + k, x.span(k, 1), spans[k][1]);
        }
        int[] places = {0, 1, 2, 2, 2, 2, 2, 3, 4};
        int[] lost = {0, 0, 0, 1, 1, 1, 0, 0, 0};
        for (int k = 0; k < places.length; k++) {
            due("PLACE " + k, x.anchor(k, 0), places[k]);
            due("LOST " + k, x.anchor(k, 2), lost[k]);
        }
        due("SPANS", x.count(2), 3);
        due("numbers of SPANS", x.count(4), 5);
        due("the next number", x.lay(0, 1, 0, 0, 0, NONE, 0, 0), 5);
        due("cut all", x.cut(0, 4), 0);
        due("no SPANS", x.count(2), 0);
        due("LOST of all", x.count(10), 3 + 7);
        due("cut of none", x.cut(0, 1), -1);
    }

    private static void swapCall() {
        check.head("promise 7");
        StyledRuns x = typed("abcdef");
        due("swap(0, 1), empty tape", x.swap(0, 1), -4);
        due("swap(1, 1), empty tape", x.swap(1, 1), -1);
        due("swap(2, 7)", Check.swap(x, "X", 2, 7), -1);
        due("swap(-1, 2)", Check.swap(x, "X", -1, 2), -1);
        due("swap(3, 2)", Check.swap(x, "X", 3, 2), -1);
        due("swap of a bad byte", Check.swap(x, "X[", 2, 3), -1);
        due("the tape stays", x.count(13), 2);
        due("swap(2, 3)", Check.swap(x, "X", 2, 3), 6);
        due("the tape is empty", x.count(13), 0);
        check.due("letters", Check.lettersOf(x), "abXdef");
        due("swap all", Check.swap(x, "12", 0, 6), 2);
        check.due("letters", Check.lettersOf(x), "12");
        StyledRuns p = Check.marked("a[b]b[/b][i]c[/i]d");
        Check.swap(p, "XY", 1, 3);
        due("paint of the first that went", p.style(1, 6), 104);
        due("of the second, too", p.style(2, 6), 104);
        due("behind", p.style(3, 6), 4);
        StyledRuns q = typed("abcdef");
        q.lay(2, 3, 0, 1, 0, NONE, 0, 0);
        q.lay(2, 3, 0, 1, 0, NONE, 0, 2);
        q.lay(3, 5, 0, 1, 0, NONE, 0, 1);
        q.lay(3, 5, 0, 1, 0, NONE, 0, 0);
        for (int place = 1; place < 6; place++) {
            q.pin(place, 0);
            q.pin(place, 1);
        }
        due("swap(2, 5)", Check.swap(q, "XY", 2, 5), 5);
        due("a SPAN over LETTER from that stays goes", q.span(0, 0), LOWEST);
        due("one that goes on lies over the new", q.span(1, 0), 2);
        due("its TO", q.span(1, 1), 4);
        due("FROM that goes on, over what went", q.span(2, 0), LOWEST);
        due("FROM that stays", q.span(3, 0), 2);
        due("its TO", q.span(3, 1), 4);
        int[] places = {1, 1, 2, 2, 2, 4, 4, 4, 4, 4};
        int[] lost = {0, 0, 0, 0, 0, 0, 1, 1, 0, 0};
        for (int k = 0; k < places.length; k++) {
            due("PLACE " + k, q.anchor(k, 0), places[k]);
            due("LOST " + k, q.anchor(k, 2), lost[k]);
        }
        StyledRuns full = typed(repeated("x", 199));
        due("above 200 when they have come", Check.swap(full, "yy", 0, 100), -5);
        due("the tape stays", full.count(13), 2);
        due("200 when they have come", Check.swap(full, "y", 0, 100), 100);
    }

    private static void moveCall() {
        check.head("promise 8");
        StyledRuns x = Check.marked("ab[b]cd[/b]efgh");
        int[][] wrong = {{-1, 2, 4}, {0, 9, 0}, {2, 2, 5}, {3, 2, 5}, {0, 2, 9}, {0, 2, -1}, {2, 2, 2}, {0, 9, 4}};
        for (int[] w : wrong) {
            due("move(" + w[0] + ", " + w[1] + ", " + w[2] + ")", x.move(w[0], w[1], w[2]), -1);
        }
        for (int at = 2; at <= 4; at++) {
            due("move(2, 4, " + at + ")", x.move(2, 4, at), -4);
        }
        due("nothing to undo but read()", x.count(12), 1);
        due("move(2, 4, 7)", x.move(2, 4, 7), 0);
        check.due("letters", Check.lettersOf(x), "abefgcdh");
        due("their paint", x.style(5, 6), 104);
        due("and of the next", x.style(6, 6), 104);
        due("what closed up", x.style(2, 6), 4);
        due("behind", x.style(7, 6), 4);
        due("move(5, 7, 0)", x.move(5, 7, 0), 0);
        check.due("letters", Check.lettersOf(x), "cdabefgh");
        due("paint at 0", x.style(0, 6), 104);
        due("paint at 2", x.style(2, 6), 4);
        due("move(0, 1, 8)", x.move(0, 1, 8), 0);
        check.due("letters", Check.lettersOf(x), "dabefghc");
    }

    private static void moveTakesSpansAlong() {
        check.head("promise 8, what goes along");
        StyledRuns x = typed("abcdefghij");
        x.lay(3, 6, 0, 1, 0, NONE, 0, 0);
        x.lay(4, 5, 0, 1, 0, NONE, 0, 3);
        x.lay(2, 4, 0, 1, 0, NONE, 0, 0);
        x.lay(5, 8, 0, 1, 0, NONE, 0, 0);
        x.lay(0, 10, 0, 1, 0, NONE, 0, 0);
        x.lay(7, 8, 0, 1, 0, NONE, 0, 2);
        x.lay(8, 9, 0, 1, 0, NONE, 0, 1);
        x.lay(8, 9, 0, 1, 0, NONE, 0, 0);
        x.lift(1);
        x.lay(4, 5, 0, 1, 0, NONE, 0, 3);
        int[] pins = {3, 4, 5, 6, 8, 8, 2};
        for (int k = 0; k < pins.length; k++) {
            x.pin(pins[k], k == 5 ? 1 : 0);
        }
        due("move(3, 6, 8)", x.move(3, 6, 8), 2);
        check.due("letters", Check.lettersOf(x), "abcghdefij");
        int[][] spans = {{5, 8}, {LOWEST, LOWEST}, {2, 3}, {3, 5}, {0, 10}, {4, 8}, {8, 9}, {5, 9}, {6, 7}};
        for (int k = 0; k < spans.length; k++) {
            due("FROM " + k, x.span(k, 0), spans[k][0]);
            due("TO " + k, x.span(k, 1), spans[k][1]);
        }
        int[] places = {3, 6, 7, 3, 5, 8, 2};
        for (int k = 0; k < places.length; k++) {
            due("PLACE " + k, x.anchor(k, 0), places[k]);
            due("LOST " + k, x.anchor(k, 2), 0);
        }
        due("move(5, 8, 1)", x.move(5, 8, 1), 2);
        check.due("letters", Check.lettersOf(x), "adefbcghij");
        due("FROM 0", x.span(0, 0), 1);
        due("TO 0", x.span(0, 1), 4);
        due("FROM 3", x.span(3, 0), 6);
        due("TO 3", x.span(3, 1), 8);
        due("PLACE 1", x.anchor(1, 0), 2);
        due("PLACE 6", x.anchor(6, 0), 5);
    }

    private static void layCall() {
        check.head("promise 9");
        StyledRuns x = typed("abcdef");
        due("lay()", x.lay(1, 3, 9, 15, 0, 7, 3, 3), 0);
        int[] due = {1, 3, 9, 15, 0, 7, 3, 3};
        for (int what = 0; what < due.length; what++) {
            due("span(0, " + what + ")", x.span(0, what), due[what]);
        }
        due("lay() over all", x.lay(0, 6, 0, 0, 15, NONE, -3, 0), 1);
        int[] second = {0, 6, 0, 0, 15, NONE, -3, 0};
        for (int what = 0; what < second.length; what++) {
            due("span(1, " + what + ")", x.span(1, what), second[what]);
        }
        due("style(0)", x.style(0, 6), 1);
        due("style(1), the higher layer last", x.style(1, 6), 1574);
        StyledRuns y = typed("ab");
        y.lay(0, 1, 3, 3, 1, 2, 0, 0);
        due("ON ahead of OFF", y.style(0, 6), 224);
        y.lay(0, 1, 3, 0, 0, 5, 0, 0);
        due("the greater number last", y.style(0, 1), 5);
        y.lay(0, 1, 2, 0, 0, 6, 0, 0);
        due("but a lower layer ahead", y.style(0, 1), 5);
        y.lay(0, 1, 3, 0, 0, 0, 0, 0);
        due("COLOR 0 is one", y.style(0, 1), 0);
        y.lay(1, 2, 0, 0, 0, NONE, 3, 0);
        y.lay(1, 2, 0, 0, 0, NONE, 3, 0);
        due("SIZE 9 at most", y.style(1, 2), 9);
        y.lay(1, 2, 0, 0, 0, NONE, -3, 0);
        due("at each", y.style(1, 2), 6);
        y.lay(1, 2, 0, 0, 0, NONE, -3, 0);
        y.lay(1, 2, 0, 0, 0, NONE, -3, 0);
        y.lay(1, 2, 0, 0, 0, NONE, -1, 0);
        y.lay(1, 2, 0, 0, 0, NONE, 1, 0);
        due("SIZE 0 at least", y.style(1, 2), 1);
    }

    private static void layRefused() {
        check.head("promise 9, refused");
        StyledRuns x = typed("abcdef");
        int[][] wrong = {
            {-1, 3, 0, 0, 0, NONE, 0, 0}, {0, 7, 0, 0, 0, NONE, 0, 0}, {3, 3, 0, 0, 0, NONE, 0, 0},
            {4, 3, 0, 0, 0, NONE, 0, 0}, {0, 1, -1, 0, 0, NONE, 0, 0}, {0, 1, 10, 0, 0, NONE, 0, 0},
            {0, 1, 0, -1, 0, NONE, 0, 0}, {0, 1, 0, 16, 0, NONE, 0, 0}, {0, 1, 0, 0, -1, NONE, 0, 0},
            {0, 1, 0, 0, 16, NONE, 0, 0}, {0, 1, 0, 0, 0, -2, 0, 0}, {0, 1, 0, 0, 0, 8, 0, 0},
            {0, 1, 0, 0, 0, NONE, -4, 0}, {0, 1, 0, 0, 0, NONE, 4, 0}, {0, 1, 0, 0, 0, NONE, 0, -1},
            {0, 1, 0, 0, 0, NONE, 0, 4}};
        for (int[] w : wrong) {
            due("lay() of a bad number", x.lay(w[0], w[1], w[2], w[3], w[4], w[5], w[6], w[7]), -1);
        }
        due("none has come", x.count(4), 0);
        for (int k = 0; k < 16; k++) {
            due("lay() " + k, x.lay(0, 6, 0, 0, 0, NONE, 0, 0), k);
        }
        due("a 17th", x.lay(0, 6, 0, 0, 0, NONE, 0, 0), -5);
        due("a 17th of a bad number", x.lay(0, 6, 10, 0, 0, NONE, 0, 0), -1);
        x.lift(3);
        due("a number is not given again", x.lay(0, 6, 0, 0, 0, NONE, 0, 0), -5);
        due("lay() without letters", new StyledRuns().lay(0, 0, 0, 0, 0, NONE, 0, 0), -1);
    }

    private static void liftSetStretch() {
        check.head("promises 10 to 12");
        StyledRuns x = typed("abcdef");
        x.lay(0, 6, 1, 1, 0, NONE, 0, 0);
        x.lay(0, 3, 2, 0, 1, NONE, 0, 3);
        int[] none = {-1, 2, 15, 16, LOWEST, HIGHEST};
        for (int k : none) {
            due("lift(" + k + ")", x.lift(k), -2);
            due("set(" + k + ")", x.set(k, 0, 0), -2);
            due("stretch(" + k + ")", x.stretch(k, 0, 1), -2);
            due("set(" + k + ") of a bad number", x.set(k, 0, 10), -1);
            due("stretch(" + k + ") of a bad number", x.stretch(k, 1, 1), -1);
        }
        int[][] wrong = {{-1, 0}, {2, 0}, {0, -1}, {0, 10}, {1, -1}, {1, 4}};
        for (int[] w : wrong) {
            due("set(0, " + w[0] + ", " + w[1] + ")", x.set(0, w[0], w[1]), -1);
        }
        due("set LAYER", x.set(0, 0, 9), 1);
        due("LAYER", x.span(0, 2), 9);
        due("the style changes", x.style(0, 6), 104);
        due("set LAYER again", x.set(0, 0, 0), 9);
        due("the style changes back", x.style(0, 6), 4);
        due("set SIDES", x.set(1, 1, 1), 3);
        due("SIDES", x.span(1, 7), 1);
        due("set SIDES to what they are", x.set(1, 1, 1), 1);
        int[][] bad = {{-1, 2}, {0, 7}, {2, 2}, {3, 2}};
        for (int[] w : bad) {
            due("stretch(1, " + w[0] + ", " + w[1] + ")", x.stretch(1, w[0], w[1]), -1);
        }
        due("stretch()", x.stretch(1, 4, 6), 0);
        due("FROM", x.span(1, 0), 4);
        due("TO", x.span(1, 1), 6);
        due("style(4)", x.style(4, 6), 4);
        due("style(3)", x.style(3, 6), 104);
        due("lift(0)", x.lift(0), 1);
        due("lift(0) again", x.lift(0), -2);
        due("set(0) of one that is gone", x.set(0, 0, 0), -2);
        due("stretch(0) of one that is gone", x.stretch(0, 0, 1), -2);
        due("lift(1)", x.lift(1), 0);
        due("style(3)", x.style(3, 6), 4);
    }

    private static void paintCall() {
        check.head("promise 13");
        StyledRuns x = typed("abcdef");
        int[][] wrong = {
            {-1, 3, 0, 0, NONE, 0}, {0, 7, 0, 0, NONE, 0}, {3, 3, 0, 0, NONE, 0}, {0, 1, -1, 0, NONE, 0},
            {0, 1, 16, 0, NONE, 0}, {0, 1, 0, -1, NONE, 0}, {0, 1, 0, 16, NONE, 0}, {0, 1, 0, 0, -2, 0},
            {0, 1, 0, 0, 8, 0}, {0, 1, 0, 0, NONE, -4}, {0, 1, 0, 0, NONE, 4}};
        for (int[] w : wrong) {
            due("paint() of a bad number", x.paint(w[0], w[1], w[2], w[3], w[4], w[5]), -1);
        }
        due("paint()", x.paint(1, 3, 3, 1, 5, 2), 2);
        due("paint() of some alike", x.paint(0, 6, 2, 0, 5, 0), 4);
        due("style(1)", x.style(1, 6), 256);
        due("style(0)", x.style(0, 6), 254);
        due("paint() that changes none", x.paint(0, 6, 2, 0, NONE, 0), 0);
        due("it can be undone all the same", x.undo(), 7);
        due("style(0) stays", x.style(0, 6), 254);
        x.paint(0, 6, 0, 0, NONE, 3);
        due("SIZE", x.style(0, 5), 7);
        due("SIZE 9 at most", x.style(1, 5), 9);
        x.paint(0, 6, 0, 0, NONE, 1);
        due("SIZE 9 stays, that changes 4", x.paint(1, 3, 0, 0, NONE, 1), 0);
        for (int k = 0; k < 4; k++) {
            x.paint(0, 6, 0, 15, 0, -3);
        }
        due("SIZE 0 at least", x.style(0, 6), 0);
        x.lay(0, 1, 0, 1, 0, 3, 1, 0);
        due("paint() is of the PAINT", x.paint(0, 1, 0, 1, 2, 0), 1);
        due("the SPAN is over it", x.style(0, 6), 131);
        due("COLOR of the PAINT", x.style(0, 4), 2);
    }

    private static void fastCall() {
        check.head("promise 14");
        StyledRuns x = typed("abcdef");
        x.lay(0, 4, 1, 1, 0, 3, 2, 0);
        x.lay(2, 6, 2, 2, 1, NONE, 3, 0);
        x.lay(0, 1, 2, 2, 1, NONE, 3, 0);
        x.lift(2);
        x.pin(3, 1);
        due("fast()", x.fast(), 2);
        int[] due = {136, 136, 239, 239, 207, 207};
        for (int i = 0; i < due.length; i++) {
            due("style(" + i + ", 6)", x.style(i, 6), due[i]);
            due("PAINT " + i, 100 * x.style(i, 3) + 10 * x.style(i, 4) + x.style(i, 5), due[i]);
        }
        due("SPANS", x.count(2), 0);
        due("span(0)", x.span(0, 0), LOWEST);
        due("ANCHORS stay", x.count(3), 1);
        due("the next number", x.lay(0, 1, 0, 0, 0, NONE, 0, 0), 3);
        due("fast() again", x.fast(), 1);
        due("fast() without SPANS", x.fast(), 0);
        due("it can be undone", x.undo(), 8);
        due("and the one before", x.undo(), 8);
        due("SPANS", x.count(2), 1);
    }

    private static void pinUnpin() {
        check.head("promises 15 and 16");
        StyledRuns x = typed("abc");
        due("pin(-1, 0)", x.pin(-1, 0), -1);
        due("pin(4, 0)", x.pin(4, 0), -1);
        due("pin(0, -1)", x.pin(0, -1), -1);
        due("pin(0, 2)", x.pin(0, 2), -1);
        due("unpin(0)", x.unpin(0), -2);
        due("unpin(-1)", x.unpin(-1), -2);
        due("unpin(12)", x.unpin(12), -2);
        due("pin(3, 1)", x.pin(3, 1), 0);
        due("pin(0, 0)", x.pin(0, 0), 1);
        due("PLACE", x.anchor(0, 0), 3);
        due("LEAN", x.anchor(0, 1), 1);
        due("unpin(0)", x.unpin(0), 3);
        due("unpin(0) again", x.unpin(0), -2);
        due("ANCHORS", x.count(3), 1);
        for (int k = 2; k < 12; k++) {
            due("pin() " + k, x.pin(1, 0), k);
        }
        due("a 13th", x.pin(1, 0), -5);
        due("a 13th of a bad number", x.pin(1, 2), -1);
        Check.type(x, "xy", 3);
        due("one that stays", x.anchor(1, 0), 0);
        x.undo();
        StyledRuns y = typed("abc");
        y.pin(2, 0);
        y.cut(1, 3);
        y.undo();
        y.undo();
        due("LOST begins at 0", y.pin(2, 0), 0);
        due("LOST", y.anchor(0, 2), 0);
        due("pin() on an empty text", new StyledRuns().pin(0, 0), 0);
    }

    private static void readCall() {
        check.head("promise 17");
        StyledRuns x = typed("abcdef");
        x.lay(0, 6, 0, 1, 0, NONE, 0, 0);
        x.pin(3, 0);
        Check.tape(x, "a[b]b[i]c[u]d[s]e[/s][/u][c3]f[z9]g[c0]h[z0]i[/z][/c][/z][/c][/i]j[/b]k");
        due("read()", x.read(), 11);
        int[] due = {4, 104, 304, 704, 1504, 334, 339, 309, 300, 104, 4};
        for (int i = 0; i < due.length; i++) {
            due("style(" + i + ", 6)", x.style(i, 6), due[i]);
            due("letter(" + i + ")", x.letter(i), 'a' + i);
        }
        due("the tape is empty", x.count(13), 0);
        due("SPANS", x.count(2), 0);
        due("ANCHORS", x.count(3), 0);
        due("numbers of SPANS", x.count(4), 0);
        due("numbers of ANCHORS", x.count(5), 0);
        due("lay()", x.lay(0, 1, 0, 0, 0, NONE, 0, 0), 0);
        due("pin()", x.pin(0, 0), 0);
        Check.tape(x, "ab[");
        due("read() refused", x.read(), -6);
        due("the tape is empty then, too", x.count(13), 0);
        due("LETTERS stay", x.count(0), 11);
        due("SPANS stay", x.count(2), 1);
        due("it can't be undone", x.undo(), 9);
        x.end(0);
        due("read() of an empty tape", x.read(), 0);
        due("LETTERS", x.count(0), 0);
        due("undo()", x.undo(), 11);
        due("LETTERS", x.count(0), 11);
        Check.tape(x, "[b][b]a[/b]b[/b]c");
        due("a mark inside itself", x.read(), 3);
        due("style(1)", x.style(1, 6), 104);
        due("style(2)", x.style(2, 6), 4);
        Check.tape(x, "[c7][/c][z4]a[/z][c0]b[/c]");
        due("marks of nothing", x.read(), 2);
        due("one run", x.count(1), 1);
    }

    private static void readLimits() {
        check.head("promises 17 and 18, the limits");
        StyledRuns x = new StyledRuns();
        Check.tape(x, repeated("[b]", 8) + "a" + repeated("[/b]", 8));
        due("8 open", x.read(), 1);
        Check.tape(x, repeated("[b]", 8) + "[/b][i]a[/i]" + repeated("[/b]", 7));
        due("8 open twice", x.read(), 1);
        due("fault()", x.fault(), NONE);
        due("style(0)", x.style(0, 6), 304);
        Check.tape(x, repeated("[b]", 8) + "[z1]a");
        due("9 open", x.read(), -6);
        due("fault()", x.fault(), 24);
        Check.tape(x, repeated("a", 200));
        due("200", x.read(), 200);
        Check.tape(x, repeated("a", 201));
        due("201", x.read(), -6);
        due("fault()", x.fault(), 200);
        Check.tape(x, repeated("a", 200) + "[b][/b]");
        due("200 and marks", x.read(), 200);
        Check.tape(x, repeated("a", 200) + "[b]c[/b]");
        due("201 with marks", x.read(), -6);
        due("fault()", x.fault(), 203);
        Check.tape(x, repeated("a", 200) + "[b]");
        due("200 and an open mark", x.read(), -6);
        due("fault()", x.fault(), 203);
        Check.tape(x, repeated("a", 200) + "]");
        due("200 and a bad byte", x.read(), -6);
        due("fault()", x.fault(), 200);
        Check.tape(x, repeated("[b][/b]", 57) + "b");
        due("400 bytes", x.read(), 1);
    }

    private static void faultCall() {
        check.head("promise 18");
        StyledRuns x = new StyledRuns();
        due("ahead of any", x.fault(), NONE);
        String[] texts = {
            "]", "a]", "\n", "a\177", "\200", "[", "[]", "[ b]", "[b ]", "[b", "[B]", "[x]", "[[", "[b[", "[bb]",
            "[/", "[/]", "[/x]", "[//b]", "[/b", "[/bx", "[/b]", "a[/c]", "[/c1]", "[/z]", "[c]", "[c8]", "[c", "[c1",
            "[c1x", "[c12]", "[z]", "[z:]", "[z/]", "[z9", "[b]", "[b]a", "[b]a[/i]", "[b][i]a[/b][/i]", "[c1][/z]",
            "[b][/b][/b]", "[c1]a[/c", "[1]", "[b]a[/b]]", "a[/", "[c ]", "[c-1]"};
        int[] faults = {
            0, 1, 0, 1, 0, 1, 1, 1, 2, 2, 1, 1, 1, 2, 2,
            2, 2, 2, 2, 3, 3, 0, 1, 3, 0, 2, 2, 2, 3,
            3, 3, 2, 2, 2, 3, 3, 4, 4, 7, 4,
            7, 8, 1, 8, 3, 2, 2};
        for (int k = 0; k < texts.length; k++) {
            Check.tape(x, texts[k]);
            due("read() of " + texts[k], x.read(), -6);
            due("fault() of " + texts[k], x.fault(), faults[k]);
        }
        due("refused by -6", x.count(18), texts.length);
        Check.type(x, "a", 0);
        due("fault() stays by other calls", x.fault(), 2);
        x.undo();
        due("fault() stays by undo()", x.fault(), 2);
        x.read();
        due("fault() of a text that can be read", x.fault(), NONE);
    }

    private static void written(StyledRuns x, String want) {
        due("count(11)", x.count(11), want.length());
        due("write()", x.write(), want.length());
        check.due("tape", Check.tapeOf(x), want);
    }

    private static void writeCall() {
        check.head("promise 19");
        written(new StyledRuns(), "");
        written(typed("abc"), "abc");
        String all = "[b][i][u][s][c7][z0]a[/z][/c][/s][/u][/i][/b]";
        written(Check.marked(all), all);
        written(Check.marked("[z4]a[/z][c0]b[/c]"), "ab");
        written(Check.marked("[z9][b]a[/b][/z]b"), "[b][z9]a[/z][/b]b");
        written(Check.marked("[b]a[i]b[/i][/b][i]c[/i]"), "[b]a[i]b[/i][/b][i]c[/i]");
        written(Check.marked("[i]a[b]b[/b]c[/i]"), "[i]a[b]b[/b]c[/i]");
        written(Check.marked("[b][i]a[/i][/b][i]b[/i]"), "[b][i]a[/i][/b][i]b[/i]");
        written(Check.marked("[c1]a[/c][c2]b[/c]"), "[c1]a[/c][c2]b[/c]");
        written(Check.marked("[z1]a[c1]b[/c][/z]"), "[z1]a[c1]b[/c][/z]");
        written(Check.marked("[z1]a[/z][c1][z2]b[/z][/c]"), "[z1]a[/z][c1][z2]b[/z][/c]");
        StyledRuns x = typed("abcd");
        x.lay(1, 3, 0, 1, 0, 2, 0, 0);
        x.lay(2, 4, 0, 0, 0, NONE, 1, 0);
        written(x, "a[b][c2]b[z5]c[/z][/c][/b][z5]d[/z]");
        due("SPANS stay", x.count(2), 2);
        due("it can't be undone", x.undo(), 3);
        StyledRuns full = typed(repeated("a", 200));
        for (int i = 0; i < 28; i++) {
            full.paint(2 * i, 2 * i + 1, 1, 0, NONE, 0);
        }
        due("bytes", full.count(11), 396);
        full.paint(199, 200, 0, 0, 3, 0);
        due("bytes beyond 400", full.count(11), 404);
        Check.tape(full, "xyz");
        due("write() beyond 400", full.write(), -5);
        check.due("the tape stays", Check.tapeOf(full), "xyz");
        full.undo();
        full.paint(55, 56, 2, 0, NONE, 0);
        due("bytes beyond 400", full.count(11), 403);
        full.undo();
        full.cut(196, 200);
        full.paint(190, 191, 8, 0, NONE, 0);
        due("bytes", full.count(11), 399);
        due("write() of 399", full.write(), 399);
        Check.type(full, "z", 196);
        due("write() of 400", full.write(), 400);
        due("tape(399)", full.tape(399), 'z');
        due("read() of it", full.read(), 197);
        for (int i = 0; i < 197; i += 2) {
            full.paint(i, i + 1, 15, 0, 1, 1);
        }
        due("bytes far beyond", full.count(11), 197 + 99 * 44);
    }

    private static void undoCall() {
        check.head("promise 20");
        StyledRuns x = new StyledRuns();
        due("none", x.undo(), -4);
        due("read()", x.read(), 0);
        Check.type(x, "abcdef", 0);
        x.cut(5, 6);
        x.move(0, 1, 3);
        x.lay(0, 2, 0, 1, 0, NONE, 0, 0);
        x.set(0, 0, 1);
        x.stretch(0, 1, 2);
        x.paint(0, 1, 1, 0, NONE, 0);
        due("can be undone", x.count(12), 8);
        int[] first = {7, 6, 5, 3, 2, 1, 0, 11, -4, -4};
        for (int k = 0; k < first.length; k++) {
            due("undo() " + k, x.undo(), first[k]);
        }
        Check.type(x, "abcdef", 0);
        x.lay(0, 2, 0, 1, 0, NONE, 0, 0);
        x.lift(0);
        x.fast();
        x.pin(1, 1);
        x.unpin(0);
        Check.swap(x, "xy", 0, 1);
        x.cut(0, 9);
        x.lift(7);
        x.write();
        x.image(0);
        int[] second = {12, 10, 9, 8, 4, 3, 0, -4};
        for (int k = 0; k < second.length; k++) {
            due("undo() " + k, x.undo(), second[k]);
        }
        StyledRuns y = typed("a");
        for (int k = 0; k < 10; k++) {
            Check.type(y, "b", 0);
        }
        due("8 are kept", y.count(12), 8);
        for (int k = 0; k < 8; k++) {
            due("undo()", y.undo(), 0);
            due("can be undone", y.count(12), 7 - k);
        }
        due("no more", y.undo(), -4);
        due("LETTERS", y.count(0), 3);
    }

    private static void undoBringsAllBack() {
        check.head("promise 20, all but the tape");
        StyledRuns x = Check.marked("a[b]b[/b]cdef");
        x.lay(1, 3, 2, 2, 0, 3, 1, 1);
        x.pin(2, 1);
        x.cut(1, 3);
        due("the SPAN went", x.count(2), 0);
        due("undo()", x.undo(), 1);
        check.due("letters", Check.lettersOf(x), "abcdef");
        due("PAINT", x.style(1, 3), 1);
        due("style", x.style(1, 6), 335);
        due("TO", x.span(0, 1), 3);
        due("PLACE", x.anchor(0, 0), 2);
        due("LOST", x.anchor(0, 2), 0);
        x.fast();
        x.undo();
        due("PAINT after fast()", x.style(1, 4), 0);
        due("SPANS after fast()", x.count(2), 1);
        x.lay(0, 1, 0, 0, 0, NONE, 0, 0);
        x.undo();
        due("the number comes again", x.lay(0, 1, 0, 0, 0, NONE, 0, 0), 1);
        x.pin(0, 0);
        x.undo();
        due("the ANCHOR's number, too", x.pin(0, 0), 1);
        x.set(0, 1, 2);
        x.undo();
        due("SIDES", x.span(0, 7), 1);
        x.stretch(0, 0, 6);
        x.undo();
        due("FROM", x.span(0, 0), 1);
        x.unpin(0);
        x.undo();
        due("unpinned", x.anchor(0, 1), 1);
        Check.type(x, "xyz", 0);
        x.undo();
        due("the tape is not brought back", x.count(13), 0);
        x.cut(-1, 0);
        due("status()", x.status(), -1);
        x.undo();
        due("refused calls stay counted", x.count(14), 1);
        due("undo() was not refused", x.status(), 0);
        Check.tape(x, "q[i]q[/i]");
        x.read();
        x.undo();
        due("numbers of SPANS", x.count(4), 2);
        due("SPANS after read()", x.span(0, 5), 3);
        due("style after read()", x.style(1, 6), 335);
    }

    /** Spans and anchors whose coming was undone are not there, whatever is asked. */
    private static void undoneLeavesNothing() {
        check.head("promise 20, what came is gone");
        StyledRuns x = typed("abcdef");
        due("style ahead", x.style(1, 6), 4);
        x.lay(0, 4, 0, 1, 0, 2, 1, 0);
        x.lay(1, 5, 0, 1, 0, 2, 1, 0);
        x.pin(3, 0);
        x.cut(2, 5);
        due("style", x.style(1, 6), 126);
        for (int k = 0; k < 4; k++) {
            x.undo();
        }
        due("style", x.style(1, 6), 4);
        due("RUNS", x.count(1), 1);
        due("SPANS", x.count(2), 0);
        due("ANCHORS", x.count(3), 0);
        due("SPANS over a letter", x.count(9), 0);
        due("LOST", x.count(10), 0);
        due("stack()", x.stack(1, 0), NONE);
        due("tells()", x.tells(1, 0), NONE);
        due("idle()", x.idle(), 0);
        due("crossed()", x.crossed(), NONE);
        due("span()", x.span(0, 0), LOWEST);
        due("anchor()", x.anchor(0, 0), NONE);
        due("raised()", x.raised(0, 0), NONE);
        due("best()", x.best(0, 0), NONE);
        due("lift()", x.lift(0), -2);
        due("unpin()", x.unpin(0), -2);
        due("set()", x.set(0, 0, 0), -2);
        due("stretch()", x.stretch(0, 0, 1), -2);
        due("move() takes none along", x.move(0, 5, 6), 0);
        due("fast()", x.fast(), 0);
        x.lay(0, 4, 0, 1, 0, 2, 1, 0);
        x.pin(3, 0);
        Check.tape(x, "abc");
        x.read();
        due("lift() behind read()", x.lift(0), -2);
        due("unpin() behind read()", x.unpin(0), -2);
        due("style() behind read()", x.style(0, 6), 4);
        due("idle() behind read()", x.idle(), 0);
    }

    /** As many letters, spans and anchors as there can be. */
    private static void fullObject() {
        check.head("full");
        StyledRuns x = typed(repeated("ab", 99));
        for (int k = 0; k < 16; k++) {
            x.lay(k, 198 - k, k % 10, 1 << k % 4, 0, k % 8, k % 4, k % 4);
        }
        for (int k = 0; k < 12; k++) {
            x.pin(198 - k, k % 2);
        }
        due("type() to 200", Check.type(x, "yz", 198), 200);
        due("PLACE of a leaning one", x.anchor(1, 0), 197);
        due("PLACE of one that stays", x.anchor(0, 0), 198);
        due("move() to the end", x.move(0, 100, 200), 0);
        due("LETTER 99", x.letter(99), 'z');
        due("move() to the beginning", x.move(100, 200, 0), 0);
        due("LETTER 199", x.letter(199), 'z');
        due("image()", x.image(1), 200);
        due("SPANS over a letter", x.count(9), 16);
        due("fast()", x.fast(), 16);
        due("idle()", x.idle(), 0);
        due("cut all", x.cut(0, 200), 0);
        due("back()", x.back(1), 200);
        due("cut() of the last", x.cut(199, 200), 199);
        due("stack() of 16", x.stack(100, 15), 9);
        due("stack() beyond", x.stack(100, 16), NONE);
        Check.tape(x, "y");
        due("find() at the end", x.find(0), 198);
    }

    private static void imageBack() {
        check.head("promises 21 and 22");
        StyledRuns x = typed("abcdef");
        due("image(-1)", x.image(-1), -1);
        due("image(2)", x.image(2), -1);
        due("back(-1)", x.back(-1), -1);
        due("back(2)", x.back(2), -1);
        due("back(0)", x.back(0), -2);
        due("back(1)", x.back(1), -2);
        x.lay(1, 3, 2, 2, 0, 3, 1, 1);
        x.pin(2, 1);
        due("image(1)", x.image(1), 6);
        due("back(0) is not kept", x.back(0), -2);
        due("acts stay", x.count(12), 3);
        x.cut(0, 4);
        x.paint(0, 1, 1, 0, NONE, 0);
        x.pin(0, 0);
        x.lay(0, 1, 0, 0, 0, NONE, 0, 0);
        due("image(0)", x.image(0), 2);
        Check.tape(x, "xyz");
        due("back(1)", x.back(1), 6);
        check.due("letters", Check.lettersOf(x), "abcdef");
        check.due("the tape stays", Check.tapeOf(x), "xyz");
        due("style", x.style(1, 6), 235);
        due("PAINT", x.style(4, 6), 4);
        due("numbers of SPANS", x.count(4), 1);
        due("numbers of ANCHORS", x.count(5), 1);
        due("PLACE", x.anchor(0, 0), 2);
        due("LOST", x.count(10), 0);
        due("nothing can be undone", x.count(12), 0);
        due("undo()", x.undo(), -4);
        due("through()", x.through(0, 0, 1), NONE);
        due("refused calls stay counted", x.count(15), 3);
        due("back(0)", x.back(0), 2);
        due("numbers of SPANS", x.count(4), 2);
        due("LOST", x.count(10), 1);
        due("PAINT", x.style(0, 6), 104);
        due("back(0) again", x.back(0), 2);
        x.cut(0, 1);
        due("undo() behind back()", x.undo(), 1);
        due("LETTERS", x.count(0), 2);
        x.image(0);
        Check.type(x, "pq", 0);
        x.image(0);
        x.undo();
        due("undo() leaves images", x.back(0), 4);
        due("image of an empty text", new StyledRuns().image(0), 0);
        StyledRuns y = typed("abc");
        y.image(0);
        Check.tape(y, "a]");
        y.read();
        due("back() leaves FAULT", y.back(0) * 100 + y.fault(), 301);
    }

    private static void letterStyleRun() {
        check.head("promises 23 to 25");
        StyledRuns x = Check.marked("a[b]bc[/b][c3][z7]def[/z][/c]g");
        due("letter(0)", x.letter(0), 'a');
        due("letter(6)", x.letter(6), 'g');
        int[] none = {-1, 7, LOWEST, HIGHEST};
        for (int i : none) {
            due("letter(" + i + ")", x.letter(i), NONE);
            due("style(" + i + ", 0)", x.style(i, 0), NONE);
            due("run(" + i + ", 0)", x.run(i, 0), NONE);
        }
        x.lay(3, 4, 0, 6, 0, 1, -2, 0);
        int[] style = {6, 1, 5, 0, 3, 7, 615};
        for (int what = 0; what < style.length; what++) {
            due("style(3, " + what + ")", x.style(3, what), style[what]);
        }
        due("style(3, -1)", x.style(3, -1), NONE);
        due("style(3, 7)", x.style(3, 7), NONE);
        int[][] runs = {{0, 1, 0, 0, 4}, {1, 2, 1, 0, 4}, {3, 1, 6, 1, 5}, {4, 2, 0, 3, 7}, {6, 1, 0, 0, 4}};
        for (int k = 0; k < runs.length; k++) {
            for (int what = 0; what < 5; what++) {
                due("run(" + k + ", " + what + ")", x.run(k, what), runs[k][what]);
            }
        }
        for (int what = 0; what < 5; what++) {
            due("run(5, " + what + ")", x.run(5, what), NONE);
            due("run(-1, " + what + ")", x.run(-1, what), NONE);
        }
        due("run(0, -1)", x.run(0, -1), NONE);
        due("run(0, 5)", x.run(0, 5), NONE);
        StyledRuns like = typed("abcd");
        like.lay(0, 2, 0, 1, 0, NONE, 0, 0);
        like.paint(2, 4, 1, 0, NONE, 0);
        due("like styles by other ways are one run", like.count(1), 1);
        due("its length", like.run(0, 1), 4);
    }

    private static void stackTells() {
        check.head("promises 26 and 27");
        StyledRuns x = typed("abcd");
        x.lay(0, 4, 5, 1, 0, NONE, 0, 0);
        x.lay(0, 2, 3, 2, 4, 3, 0, 0);
        x.lay(0, 2, 5, 0, 1, NONE, 1, 0);
        x.lay(1, 3, 0, 15, 0, 2, -1, 0);
        x.lay(0, 4, 9, 15, 15, 7, 3, 0);
        x.lift(4);
        int[][] stacks = {{1, 0, 2, NONE}, {3, 1, 0, 2, NONE}, {3, 0, NONE}, {0, NONE}};
        for (int i = 0; i < stacks.length; i++) {
            for (int k = 0; k < stacks[i].length; k++) {
                due("stack(" + i + ", " + k + ")", x.stack(i, k), stacks[i][k]);
            }
        }
        due("stack(0, -1)", x.stack(0, -1), NONE);
        due("stack(-1, 0)", x.stack(-1, 0), NONE);
        due("stack(4, 0)", x.stack(4, 0), NONE);
        due("stack(0, highest)", x.stack(0, HIGHEST), NONE);
        int[][] tells = {
            {1, 2, 2, 1, 1, NONE}, {1, 2, 2, 1, 1, 3}, {3, 3, 0, 3, 3, 3}, {NONE, NONE, 0, NONE, NONE, NONE}};
        for (int i = 0; i < tells.length; i++) {
            for (int what = 0; what < 6; what++) {
                due("tells(" + i + ", " + what + ")", x.tells(i, what), tells[i][what]);
            }
        }
        int[] none = {-1, 6, 7, 33, 34, LOWEST, HIGHEST};
        for (int what : none) {
            due("tells(1, " + what + ")", x.tells(1, what), NONE);
        }
        due("tells(-1, 2)", x.tells(-1, 2), NONE);
        due("tells(4, 2)", x.tells(4, 2), NONE);
        StyledRuns y = typed("a");
        y.lay(0, 1, 0, 0, 0, 0, 0, 0);
        due("a COLOR that is as it was tells all the same", y.tells(0, 0), 0);
        due("no GROWS tells none", y.tells(0, 1), NONE);
    }

    private static void spanAnchor() {
        check.head("promises 28 and 29");
        StyledRuns x = typed("abcdef");
        x.lay(1, 5, 4, 3, 8, NONE, -1, 2);
        x.lay(2, 3, 6, 0, 0, NONE, 0, 0);
        int[] due = {1, 5, 4, 3, 8, NONE, -1, 2, 0, 1};
        for (int what = 0; what < due.length; what++) {
            due("span(0, " + what + ")", x.span(0, what), due[what]);
        }
        due("idle", x.span(1, 8), 1);
        due("RUNS without it", x.span(1, 9), 3);
        int[] none = {-1, 2, 15, 16, LOWEST, HIGHEST};
        for (int k : none) {
            due("span(" + k + ", 0)", x.span(k, 0), LOWEST);
            due("anchor(" + k + ", 0)", x.anchor(k, 0), NONE);
        }
        due("span(0, -1)", x.span(0, -1), LOWEST);
        due("span(0, 10)", x.span(0, 10), LOWEST);
        x.lift(0);
        due("span() that is gone", x.span(0, 0), LOWEST);
        x.pin(4, 1);
        x.pin(6, 0);
        x.cut(3, 5);
        int[][] anchors = {{3, 1, 1}, {4, 0, 0}};
        for (int k = 0; k < 2; k++) {
            for (int what = 0; what < 3; what++) {
                due("anchor(" + k + ", " + what + ")", x.anchor(k, what), anchors[k][what]);
            }
        }
        due("anchor(0, -1)", x.anchor(0, -1), NONE);
        due("anchor(0, 3)", x.anchor(0, 3), NONE);
        x.unpin(0);
        due("anchor() that is gone", x.anchor(0, 0), NONE);
    }

    private static void findCalls() {
        check.head("promises 30 and 31");
        StyledRuns x = Check.marked("ab[b]ab[/b][c2]a[/c][z7]b[/z]ab");
        due("an empty tape", x.find(0), NONE);
        due("an empty tape, too", x.findBy(0, 0, 0, NONE, 0, 9), NONE);
        Check.tape(x, "ab");
        int[] due = {0, 2, 2, 4, 4, 6, 6, NONE, NONE};
        for (int from = 0; from < due.length; from++) {
            due("find(" + from + ")", x.find(from), due[from]);
        }
        due("find(9)", x.find(9), NONE);
        due("find(-1)", x.find(-1), NONE);
        due("the tape stays", x.count(13), 2);
        due("findBy() any", x.findBy(1, 0, 15, NONE, 0, 9), 2);
        due("findBy() b", x.findBy(0, 1, 1, NONE, 0, 9), 2);
        due("findBy() b of more flags", x.findBy(0, 1, 3, NONE, 0, 9), 2);
        due("findBy() b and no others", x.findBy(0, 15, 1, NONE, 0, 9), 2);
        due("findBy() not b", x.findBy(1, 1, 0, NONE, 0, 9), 4);
        due("findBy() COLOR 0", x.findBy(3, 0, 0, 0, 0, 9), 6);
        due("findBy() COLOR 2", x.findBy(0, 0, 0, 2, 0, 9), NONE);
        due("findBy() SIZE 4", x.findBy(3, 0, 0, NONE, 4, 4), 6);
        due("findBy() SIZE 4 to 7", x.findBy(3, 0, 0, NONE, 4, 7), 4);
        due("findBy() SIZE 5 to 9", x.findBy(0, 0, 0, NONE, 5, 9), NONE);
        due("findBy() SIZE 0 to 3", x.findBy(0, 0, 0, NONE, 0, 3), NONE);
        due("findBy() SIZE 9 to 0", x.findBy(0, 0, 0, NONE, 9, 0), NONE);
        int[][] wrong = {
            {-1, 0, 0, NONE, 0, 9}, {9, 0, 0, NONE, 0, 9}, {0, -1, 0, NONE, 0, 9}, {0, 16, 0, NONE, 0, 9},
            {0, 0, -1, NONE, 0, 9}, {0, 0, 16, NONE, 0, 9}, {0, 0, 0, -2, 0, 9}, {0, 0, 0, 8, 0, 9},
            {0, 0, 0, NONE, -1, 9}, {0, 0, 0, NONE, 10, 9}, {0, 0, 0, NONE, 0, 10}, {0, 0, 0, NONE, 0, -1}};
        for (int[] w : wrong) {
            due("findBy() of a bad number", x.findBy(w[0], w[1], w[2], w[3], w[4], w[5]), NONE);
        }
        Check.tape(x, "b");
        due("findBy() COLOR 0, SIZE 7", x.findBy(0, 0, 0, 0, 7, 7), 5);
        Check.tape(x, "abababab");
        due("find() of all", x.find(0), 0);
        Check.tape(x, "ababababa");
        due("find() of more", x.find(0), NONE);
        Check.tape(x, "[b]");
        due("find() of no letters", x.find(0), NONE);
        StyledRuns small = Check.marked("a[z0]b[/z][z9]b[/z]");
        Check.tape(small, "bb");
        due("find() of any style", small.find(0), 1);
        small.cut(2, 3);
        due("find() not beyond the end", small.find(0), NONE);
        Check.tape(x, "a");
        x.lay(0, 3, 0, 4, 1, NONE, 0, 0);
        due("findBy() by spans", x.findBy(1, 5, 4, NONE, 0, 9), 2);
        due("none of these is refused", x.count(14), 0);
    }

    private static void styledCall() {
        check.head("promise 32");
        StyledRuns x = Check.marked("ab[b]cd[i]e[/i][/b]f[b]g[/b]h");
        int[][] calls = {
            {0, 1, 1, NONE, 0, 2}, {0, 1, 1, NONE, 1, 3}, {0, 1, 1, NONE, 2, 4},
            {3, 1, 1, NONE, 0, 3}, {3, 1, 1, NONE, 1, 2}, {3, 1, 1, NONE, 2, 3},
            {5, 1, 1, NONE, 0, 6}, {5, 1, 1, NONE, 1, 1}, {5, 1, 1, NONE, 2, 1},
            {7, 1, 1, NONE, 0, NONE}, {7, 1, 1, NONE, 1, NONE}, {7, 1, 1, NONE, 2, NONE},
            {0, 15, 1, NONE, 1, 2}, {0, 3, 3, NONE, 0, 4}, {0, 0, 0, 0, 1, 8}, {0, 0, 0, 1, 0, NONE},
            {8, 0, 0, NONE, 0, NONE}, {9, 0, 0, NONE, 0, NONE}, {-1, 0, 0, NONE, 0, NONE},
            {0, -1, 0, NONE, 0, NONE}, {0, 16, 0, NONE, 0, NONE}, {0, 0, -1, NONE, 0, NONE},
            {0, 0, 16, NONE, 0, NONE}, {0, 0, 0, -2, 0, NONE}, {0, 0, 0, 8, 0, NONE},
            {0, 0, 0, NONE, -1, NONE}, {0, 0, 0, NONE, 3, NONE}, {0, 0, 15, NONE, 2, 8}};
        for (int[] c : calls) {
            String call = "styled(" + c[0] + ", " + c[1] + ", " + c[2] + ", " + c[3] + ", " + c[4] + ")";
            due(call, x.styled(c[0], c[1], c[2], c[3], c[4]), c[5]);
        }
        x.lay(5, 8, 0, 0, 0, 6, 0, 0);
        due("by COLOR", x.styled(0, 0, 0, 6, 0), 5);
        due("side by side", x.styled(0, 0, 0, 6, 1), 3);
        due("with b", x.styled(0, 1, 1, 6, 0), 6);
    }

    private static void followCall() {
        check.head("promise 33");
        StyledRuns x = typed("abcdefgh");
        for (int place = 0; place <= 8; place++) {
            for (int lean = 0; lean < 2; lean++) {
                int come = place < 3 || place == 3 && lean == 0 ? place : place + 200;
                due("come", x.follow(place, lean, 3, 200, true), come);
                int go = place <= 3 ? place : place <= 6 ? 3 : place - 3;
                due("go", x.follow(place, lean, 3, 6, false), go);
            }
        }
        due("q 1", x.follow(8, 1, 8, 1, true), 9);
        due("go all", x.follow(8, 1, 0, 8, false), 0);
        int[][] wrong = {
            {-1, 0, 3, 5, 1}, {9, 0, 3, 5, 1}, {0, -1, 3, 5, 1}, {0, 2, 3, 5, 1}, {0, 0, -1, 5, 1}, {0, 0, 9, 5, 1},
            {0, 0, 3, 0, 1}, {0, 0, 3, 201, 1}, {0, 0, 3, -1, 1}, {-1, 0, 3, 5, 0}, {9, 0, 3, 5, 0}, {0, -1, 3, 5, 0},
            {0, 2, 3, 5, 0}, {0, 0, -1, 5, 0}, {0, 0, 3, 9, 0}, {0, 0, 3, 3, 0}, {0, 0, 5, 3, 0}};
        for (int[] w : wrong) {
            due("follow() of a bad number", x.follow(w[0], w[1], w[2], w[3], w[4] == 1), NONE);
        }
        due("nothing changes", x.count(0), 8);
    }

    private static void throughCall() {
        check.head("promise 34");
        StyledRuns x = typed("abcdef");
        due("n 0", x.through(0, 0, 0), NONE);
        due("n -1", x.through(0, 0, -1), NONE);
        due("n 2, not so many", x.through(0, 0, 2), NONE);
        due("n 1, a PLACE then", x.through(0, 0, 1), 0);
        due("n 1, leaning", x.through(0, 1, 1), 6);
        due("n 1, no PLACE then", x.through(1, 1, 1), NONE);
        x.cut(4, 6);
        due("a PLACE then, none now", x.through(6, 0, 1), 4);
        due("no PLACE then", x.through(7, 0, 1), NONE);
        due("-1", x.through(-1, 0, 1), NONE);
        due("lean 2", x.through(0, 2, 1), NONE);
        due("lean -1", x.through(0, -1, 1), NONE);
        Check.type(x, "XY", 2);
        due("through both", x.through(5, 0, 2), 6);
        due("through both, at PLACE 2", x.through(2, 0, 2), 2);
        due("through both, leaning", x.through(2, 1, 2), 4);
        due("through all three", x.through(0, 1, 3), 6);
        x.undo();
        due("undone is not gone through", x.through(5, 0, 1), 4);
        Check.tape(x, "abc");
        x.read();
        due("read()", x.through(0, 0, 1), NONE);
        x.pin(0, 0);
        due("behind read()", x.through(3, 0, 1), 3);
        due("with read()", x.through(0, 0, 2), NONE);
        StyledRuns y = typed("abcdef");
        for (int k = 0; k < 8; k++) {
            Check.type(y, "z", k);
        }
        due("n 8", y.through(3, 0, 8), 11);
        due("n 8 at 0", y.through(0, 0, 8), 0);
        due("n 8 at 0, leaning", y.through(0, 1, 8), 8);
        due("n 9", y.through(0, 0, 9), NONE);
        due("n highest", y.through(0, 0, HIGHEST), NONE);
    }

    /** What through() tells is where an anchor is. */
    private static void throughEveryAct() {
        check.head("promise 34, as an anchor");
        for (int place = 0; place <= 8; place++) {
            for (int lean = 0; lean < 2; lean++) {
                StyledRuns x = typed("abcdefgh");
                x.lay(2, 4, 0, 1, 0, NONE, 0, 0);
                x.pin(place, lean);
                x.move(2, 5, 7);
                due("move() on", x.through(place, lean, 1), x.anchor(0, 0));
                x.move(5, 7, 1);
                due("move() back", x.through(place, lean, 2), x.anchor(0, 0));
                Check.swap(x, "XYZ", 3, 6);
                due("swap()", x.through(place, lean, 3), x.anchor(0, 0));
                Check.swap(x, "Q", 3, 4);
                due("swap() of one", x.through(place, lean, 4), x.anchor(0, 0));
                x.paint(0, 1, 1, 0, NONE, 0);
                x.set(0, 0, 1);
                x.fast();
                Check.type(x, "rs", 4);
                due("all", x.through(place, lean, 8), x.anchor(0, 0));
            }
        }
    }

    private static void idleCall() {
        check.head("promise 35");
        StyledRuns x = typed("abcd");
        due("without SPANS", x.idle(), 0);
        x.lay(0, 4, 5, 1, 0, NONE, 0, 0);
        x.lay(0, 2, 5, 1, 0, NONE, 0, 0);
        x.lay(0, 4, 5, 0, 0, NONE, 0, 0);
        x.lay(1, 3, 2, 0, 0, 3, 0, 0);
        x.lay(1, 3, 3, 0, 0, 4, 0, 0);
        x.lay(3, 4, 3, 0, 0, 0, 0, 0);
        x.lay(3, 4, 3, 2, 2, NONE, 0, 0);
        x.lay(0, 1, 3, 0, 0, NONE, 1, 0);
        due("idle()", x.idle(), 2 + 4 + 8 + 32 + 64);
        x.lift(2);
        due("one that is gone is none", x.idle(), 2 + 8 + 32 + 64);
        due("span(1, 8)", x.span(1, 8), 1);
        due("span(7, 8)", x.span(7, 8), 0);
        StyledRuns y = typed("a");
        for (int k = 0; k < 16; k++) {
            y.lay(0, 1, 0, 0, 0, NONE, 0, 0);
        }
        due("all 16", y.idle(), 65535);
        StyledRuns z = typed("ab");
        z.lay(0, 2, 0, 1, 0, NONE, 0, 0);
        z.lay(0, 1, 0, 1, 0, NONE, 0, 0);
        z.lay(1, 2, 0, 1, 0, NONE, 0, 0);
        due("each by itself", z.idle(), 7);
    }

    private static void raisedBest() {
        check.head("promises 36 and 37");
        StyledRuns x = typed("abcdef");
        x.lay(0, 6, 4, 0, 0, 3, 0, 0);
        x.lay(2, 4, 6, 0, 0, 5, 0, 0);
        for (int layer = 0; layer < 10; layer++) {
            due("raised(0, " + layer + ")", x.raised(0, layer), layer <= 6 ? 3 : 1);
            due("raised(1, " + layer + ")", x.raised(1, layer), layer < 4 ? 1 : 3);
        }
        due("best(0, 0)", x.best(0, 0), 7);
        due("best(0, 1)", x.best(0, 1), 1);
        due("best(1, 0)", x.best(1, 0), 0);
        due("best(1, 1)", x.best(1, 1), 1);
        x.set(1, 0, 4);
        for (int layer = 0; layer < 10; layer++) {
            due("raised(0, " + layer + ") by like layers", x.raised(0, layer), layer <= 4 ? 3 : 1);
        }
        due("best(0, 0)", x.best(0, 0), 5);
        due("LAYER stays", x.span(0, 2), 4);
        due("RUNS stay", x.count(1), 3);
        int[] none = {-1, 2, 16, LOWEST, HIGHEST};
        for (int k : none) {
            due("raised(" + k + ", 0)", x.raised(k, 0), NONE);
            due("best(" + k + ", 0)", x.best(k, 0), NONE);
        }
        due("raised(0, -1)", x.raised(0, -1), NONE);
        due("raised(0, 10)", x.raised(0, 10), NONE);
        due("best(0, -1)", x.best(0, -1), NONE);
        due("best(0, 2)", x.best(0, 2), NONE);
        x.lift(0);
        StyledRuns low = typed("abcdef");
        low.lay(2, 4, 5, 0, 0, 5, 0, 0);
        low.lay(0, 6, 0, 0, 0, 3, 0, 0);
        due("best is 0", low.best(0, 0), 0);
        due("RUNS by 0", low.best(0, 1), 1);
        low.set(0, 0, 0);
        low.lay(2, 4, 0, 0, 0, 6, 0, 0);
        due("best is 1", low.best(1, 0), 1);
        due("RUNS by 1", low.best(1, 1), 1);
        due("best() of one that is gone", x.best(0, 0), NONE);
        due("best(1, 0), all alike", x.best(1, 0), 0);
        due("best(1, 1)", x.best(1, 1), 3);
    }

    private static void crossedCall() {
        check.head("promise 38");
        StyledRuns x = typed("abcdefghij");
        due("without SPANS", x.crossed(), NONE);
        x.lay(0, 4, 0, 0, 0, NONE, 0, 0);
        x.lay(4, 8, 0, 0, 0, NONE, 0, 0);
        due("side by side", x.crossed(), NONE);
        x.lay(1, 4, 0, 0, 0, NONE, 0, 0);
        x.lay(4, 8, 0, 0, 0, NONE, 0, 0);
        x.lay(0, 10, 0, 0, 0, NONE, 0, 0);
        due("one over the other, like ones", x.crossed(), NONE);
        x.lay(7, 9, 0, 0, 0, NONE, 0, 0);
        due("crossed()", x.crossed(), 105);
        x.lay(3, 5, 0, 0, 0, NONE, 0, 0);
        due("by the lesser number", x.crossed(), 6);
        x.lay(3, 6, 0, 0, 0, NONE, 0, 0);
        due("then the other", x.crossed(), 6);
        x.lift(6);
        due("the one is gone", x.crossed(), 7);
        x.lift(0);
        due("the other one is gone", x.crossed(), 105);
        StyledRuns y = typed("abcdefghij");
        for (int k = 0; k < 14; k++) {
            y.lay(0, 10, 0, 0, 0, NONE, 0, 0);
        }
        y.lay(5, 8, 0, 0, 0, NONE, 0, 0);
        y.lay(2, 6, 0, 0, 0, NONE, 0, 0);
        due("14 and 15", y.crossed(), 1415);
    }

    private static void countCall() {
        check.head("promise 39");
        StyledRuns x = Check.marked("ab[b]cde[/b]fgh[i]i[/i]");
        x.lay(4, 6, 0, 0, 0, 2, 0, 0);
        x.lay(5, 7, 1, 0, 0, NONE, 0, 0);
        x.lay(0, 6, 1, 0, 0, NONE, 0, 0);
        x.lay(0, 1, 1, 15, 0, NONE, 0, 0);
        x.lift(3);
        x.pin(3, 0);
        x.pin(8, 0);
        x.unpin(0);
        int[] due = {9, 6, 3, 1, 4, 2, 2, 0, 5, 3, 0, 39, 8, 0};
        for (int what = 0; what < due.length; what++) {
            due("count(" + what + ")", x.count(what), due[what]);
        }
        due("count(-1)", x.count(-1), NONE);
        due("count(19)", x.count(19), NONE);
        due("count(lowest)", x.count(LOWEST), NONE);
        x.cut(0, 1);
        due("the longest RUN", x.count(6), 2);
        due("the first of these", x.count(7), 1);
        StyledRuns single = typed("a");
        single.lay(0, 1, 0, 0, 0, NONE, 0, 0);
        due("a RUN of one", single.count(6), 1);
        due("SPANS over the first letter", single.count(9), 1);
        due("STYLES of two runs of three", Check.marked("a[b]b[/b]c").count(8), 2);
        StyledRuns y = typed("abcdef");
        y.pin(2, 0);
        y.pin(3, 0);
        y.pin(1, 0);
        y.cut(1, 4);
        due("LOST of all", y.count(10), 2);
        y.cut(0, 3);
        due("LOST of all, again", y.count(10), 5);
        y.unpin(1);
        due("LOST of those that are there", y.count(10), 3);
    }

    private static void countRefused() {
        check.head("promise 39, refused calls");
        StyledRuns x = typed("abc");
        x.cut(0, 9);
        x.type(9);
        x.lay(0, 9, 0, 0, 0, NONE, 0, 0);
        x.pin(9, 0);
        x.set(0, 7, 0);
        x.stretch(0, 0, 9);
        x.paint(0, 9, 0, 0, NONE, 0);
        x.image(5);
        x.back(5);
        x.move(0, 9, 0);
        x.swap(0, 9);
        due("by -1", x.count(14), 11);
        x.lift(0);
        x.unpin(0);
        x.set(0, 0, 0);
        x.stretch(0, 0, 1);
        x.back(0);
        due("by -2", x.count(15), 5);
        x.type(0);
        x.swap(0, 1);
        x.move(0, 1, 0);
        x.undo();
        x.undo();
        due("by -4", x.count(16), 4);
        Check.type(x, repeated("a", 201), 0);
        due("by -5", x.count(17), 1);
        Check.tape(x, "[");
        x.read();
        due("by -6", x.count(18), 1);
        x.letter(99);
        x.style(99, 0);
        x.run(99, 0);
        x.stack(99, 0);
        x.tells(99, 0);
        x.span(99, 0);
        x.anchor(99, 0);
        x.find(99);
        x.findBy(99, 0, 0, 0, 0, 0);
        x.styled(99, 0, 0, 0, 0);
        x.follow(99, 0, 0, 0, true);
        x.through(99, 0, 0);
        x.raised(99, 0);
        x.best(99, 0);
        x.crossed();
        x.count(99);
        x.tape(-1);
        x.end(-1);
        due("others are not refused", x.count(14), 11);
        due("nor by -2", x.count(15), 5);
        due("status() stays", x.status(), -6);
    }

    private static void statusCall() {
        check.head("promise 40");
        StyledRuns x = new StyledRuns();
        due("ahead of any", x.status(), 0);
        x.cut(0, 1);
        due("cut()", x.status(), -1);
        x.fast();
        due("fast() is not among them", x.status(), -1);
        x.count(0);
        x.feed(0, 0, 0, 0, 0);
        x.end(0);
        due("nor are these", x.status(), -1);
        x.undo();
        due("undo()", x.status(), 0);
        x.undo();
        due("undo() of none", x.status(), -4);
        x.image(0);
        due("image()", x.status(), 0);
        x.back(1);
        due("back()", x.status(), -2);
        x.write();
        due("write()", x.status(), 0);
        x.image(3);
        due("image(3)", x.status(), -1);
        x.back(0);
        due("back(0)", x.status(), 0);
        x.type(0);
        due("type()", x.status(), -4);
        Check.type(x, "abc", 0);
        due("type() of letters", x.status(), 0);
        x.lift(0);
        due("lift()", x.status(), -2);
        x.lay(0, 1, 0, 0, 0, NONE, 0, 0);
        due("lay()", x.status(), 0);
        x.lay(0, 1, 10, 0, 0, NONE, 0, 0);
        due("lay() of a bad number", x.status(), -1);
        x.set(0, 0, 5);
        due("set()", x.status(), 0);
        x.set(1, 0, 5);
        due("set() of none", x.status(), -2);
        x.stretch(0, 0, 2);
        due("stretch()", x.status(), 0);
        x.stretch(0, 0, 9);
        due("stretch() beyond", x.status(), -1);
        x.paint(0, 1, 0, 0, NONE, 0);
        due("paint()", x.status(), 0);
        x.paint(0, 1, 0, 0, 9, 0);
        due("paint() of a bad number", x.status(), -1);
        x.pin(0, 0);
        due("pin()", x.status(), 0);
        x.pin(9, 0);
        due("pin() beyond", x.status(), -1);
        x.unpin(0);
        due("unpin()", x.status(), 0);
        x.unpin(0);
        due("unpin() again", x.status(), -2);
        x.move(0, 1, 3);
        due("move()", x.status(), 0);
        x.move(0, 1, 1);
        due("move() onto itself", x.status(), -4);
        Check.swap(x, "x", 0, 1);
        due("swap()", x.status(), 0);
        x.swap(0, 1);
        due("swap() of none", x.status(), -4);
        x.lay(0, 3, 0, 0, 0, NONE, 0, 0);
        x.lift(9);
        x.lift(1);
        due("lift()", x.status(), 0);
        x.cut(5, 4);
        x.cut(0, 1);
        due("cut() of a letter", x.status(), 0);
        Check.tape(x, "]");
        x.read();
        due("read()", x.status(), -6);
        x.read();
        due("read() of an empty tape", x.status(), 0);
        Check.type(x, repeated("a", 201), 0);
        due("type() of 201", x.status(), -5);
    }
}
