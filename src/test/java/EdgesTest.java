import java.util.function.ToIntFunction;

/** Promises 1 to 40, in the document's order: the ends of what each sentence allows. What is refused: RefusedTest. */
public final class EdgesTest {
    private static final int NONE = StyledRuns.NONE;
    private static final int LOWEST = Integer.MIN_VALUE;
    private static final int HIGHEST = Integer.MAX_VALUE;
    private static final Check check = new Check();

    public static void main(String[] args) {
        newObjectTells();
        newObjectActs();
        feed();
        end();
        tape();
        type();
        cut();
        swap();
        swapAtTheLimit();
        move();
        lay();
        liftSetStretch();
        paint();
        fast();
        pinAndUnpin();
        read();
        fault();
        write();
        undoKeepsEight();
        undoOfEachAct();
        numbersComeBack();
        imageAndBack();
        letterAndStyle();
        run();
        stackAndTells();
        span();
        anchor();
        find();
        findBy();
        styled();
        follow();
        through();
        throughEach();
        idleBits();
        raisedAndBest();
        crossed();
        countsOfTheFull();
        actsOnTheFull();
        countsOfRuns();
        statusOfEach();
        check.close();
    }

    private static void due(String call, long got, long want) {
        check.due(call, got, want);
    }

    private static StyledRuns typed(String letters) {
        return Check.typed(letters);
    }

    private static int layOver(StyledRuns x, int from, int to) {
        return x.lay(from, to, 0, 1, 0, NONE, 0, 0);
    }

    // ---- promise 1 ----

    private static void newObjectTells() {
        check.head("promise 1: No LETTERS; an empty TAPE");
        StyledRuns x = new StyledRuns();
        for (int what = 0; what <= 18; what++) {
            due("count(" + what + ")", x.count(what), what == 7 ? NONE : 0);
        }
        due("tape(0)", x.tape(0), NONE);
        due("letter(0)", x.letter(0), NONE);
        due("style(0, 6)", x.style(0, 6), NONE);
        due("run(0, 0)", x.run(0, 0), NONE);
        due("stack(0, 0)", x.stack(0, 0), NONE);
        due("tells(0, 0)", x.tells(0, 0), NONE);
        due("span(0, 0)", x.span(0, 0), LOWEST);
        due("anchor(0, 0)", x.anchor(0, 0), NONE);
        due("find(0)", x.find(0), NONE);
        due("findBy()", x.findBy(0, 0, 0, NONE, 0, 9), NONE);
        due("styled()", x.styled(0, 0, 0, NONE, 2), NONE);
        due("follow(0, 0, 0, 1, true)", x.follow(0, 0, 0, 1, true), 0);
        due("follow(0, 1, 0, 200, true)", x.follow(0, 1, 0, 200, true), 200);
        due("follow(0, 0, 0, 0, false)", x.follow(0, 0, 0, 0, false), NONE);
        due("through(0, 0, 1)", x.through(0, 0, 1), NONE);
        due("idle()", x.idle(), 0);
        due("raised(0, 0)", x.raised(0, 0), NONE);
        due("best(0, 0)", x.best(0, 0), NONE);
        due("crossed()", x.crossed(), NONE);
        due("fault()", x.fault(), NONE);
        due("status()", x.status(), 0);
    }

    private static void newObjectActs() {
        check.head("promise 1, what can be done to it");
        due("type(0)", new StyledRuns().type(0), -4);
        due("cut(0, 0)", new StyledRuns().cut(0, 0), -1);
        due("swap(0, 0)", new StyledRuns().swap(0, 0), -1);
        due("move(0, 0, 0)", new StyledRuns().move(0, 0, 0), -1);
        due("lay(0, 0)", layOver(new StyledRuns(), 0, 0), -1);
        due("paint(0, 0)", new StyledRuns().paint(0, 0, 0, 0, NONE, 0), -1);
        due("fast()", new StyledRuns().fast(), 0);
        due("pin(0, 0)", new StyledRuns().pin(0, 0), 0);
        due("read()", new StyledRuns().read(), 0);
        due("write()", new StyledRuns().write(), 0);
        due("undo()", new StyledRuns().undo(), -4);
        due("image(1)", new StyledRuns().image(1), 0);
        due("back(1)", new StyledRuns().back(1), -2);
        due("end(0)", new StyledRuns().end(0), 0);
        StyledRuns x = new StyledRuns();
        StyledRuns y = new StyledRuns();
        Check.type(x, "abc", 0);
        due("an object is for itself", y.count(0), 0);
        due("its TAPE, too", y.count(13), 0);
    }

    // ---- promises 2 to 4 ----

    private static void feed() {
        check.head("promise 2: Twenty bytes come behind the TAPE, four of each number, the highest first");
        StyledRuns x = new StyledRuns();
        due("feed()", x.feed(0x00017FFF, 0x80FEFF00, LOWEST, HIGHEST, -2), 20);
        int[] bytes = {0, 1, 127, 255, 128, 254, 255, 0, 128, 0, 0, 0, 127, 255, 255, 255, 255, 255, 255, 254};
        for (int k = 0; k < bytes.length; k++) {
            due("tape(" + k + ")", x.tape(k), bytes[k]);
        }
        due("feed() again", x.feed(0x61000000, 0, 0, 0, 0x62), 40);
        due("tape(19) stays", x.tape(19), 254);
        due("tape(20)", x.tape(20), 'a');
        due("tape(39)", x.tape(39), 'b');
        check.head("promise 2: NONE, if there would be more than 400");
        for (int k = 3; k <= 20; k++) {
            due("feed() " + k, x.feed(k, k, k, k, k), 20 * k);
        }
        due("feed() of 420", x.feed(9, 9, 9, 9, 9), NONE);
        due("the TAPE has", x.count(13), 400);
        due("tape(399)", x.tape(399), 20);
        due("tape(400)", x.tape(400), NONE);
        for (int n = 399; n > 380; n -= 9) {
            due("end(" + n + ")", x.end(n), n);
            due("feed() of " + (n + 20), x.feed(9, 9, 9, 9, 9), NONE);
            due("the TAPE has", x.count(13), n);
        }
        due("end(381)", x.end(381), 381);
        due("feed() of 401", x.feed(9, 9, 9, 9, 9), NONE);
        due("end(380)", x.end(380), 380);
        due("feed() of 400", x.feed(9, 9, 9, 9, 7), 400);
        due("tape(399)", x.tape(399), 7);
    }

    private static void end() {
        check.head("promise 3: The TAPE has its first n bytes alone: n");
        StyledRuns x = new StyledRuns();
        x.feed(0x61626364, 0x65666768, 0, 0, 0);
        due("end(20), all", x.end(20), 20);
        due("end(21)", x.end(21), NONE);
        due("end(8)", x.end(8), 8);
        due("end(9), it has not so many any more", x.end(9), NONE);
        check.due("its first", Check.tapeOf(x), "abcdefgh");
        due("end(-1)", x.end(-1), NONE);
        due("end(lowest)", x.end(LOWEST), NONE);
        due("end(highest)", x.end(HIGHEST), NONE);
        check.due("as it was", Check.tapeOf(x), "abcdefgh");
        due("end(1)", x.end(1), 1);
        due("feed() behind it", x.feed(0x7A000000, 0, 0, 0, 0), 21);
        due("tape(1)", x.tape(1), 'z');
        due("tape(2), what was there is gone", x.tape(2), 0);
        due("end(0)", x.end(0), 0);
        due("end(0) again", x.end(0), 0);
        due("end(1)", x.end(1), NONE);
        check.due("empty", Check.tapeOf(x), "");
    }

    private static void tape() {
        check.head("promise 4: Byte i of the TAPE (0 .. 255). NONE");
        for (int value = 0; value < 256; value++) {
            StyledRuns x = new StyledRuns();
            x.feed(value << 24, value << 16, value << 8, value, 0);
            due("highest byte " + value, x.tape(0), value);
            due("second byte " + value, x.tape(5), value);
            due("third byte " + value, x.tape(10), value);
            due("lowest byte " + value, x.tape(15), value);
        }
        StyledRuns x = new StyledRuns();
        x.feed(-1, -1, -1, -1, -1);
        x.end(3);
        due("tape(2)", x.tape(2), 255);
        due("tape(3), beyond the end", x.tape(3), NONE);
        due("tape(-1)", x.tape(-1), NONE);
    }

    // ---- promises 5 to 8 ----

    private static void type() {
        check.head("promise 5: All bytes of the TAPE (empty then) come as LETTERS at a PLACE: how many there are");
        StyledRuns x = new StyledRuns();
        due("one byte", Check.type(x, "m", 0), 1);
        due("the TAPE is empty", x.count(13), 0);
        due("ahead of all", Check.type(x, "ab", 0), 3);
        due("behind all", Check.type(x, "yz", 3), 5);
        due("between", Check.type(x, "  ", 3), 7);
        check.due("letters", Check.lettersOf(x), "abm  yz");
        due("193 more: 200", Check.type(x, "q".repeat(193), 7), 200);
        due("letter(199)", x.letter(199), 'q');
        due("one more", Check.type(x, "q", 0), -5);
        due("the TAPE stays", x.count(13), 1);
        due("undone: 7", x.undo(), 0);
        due("then it has room", x.type(7), 8);
        due("all 200 at once", Check.type(new StyledRuns(), "~".repeat(200), 0), 200);
    }

    private static void cut() {
        check.head("promise 6: LETTERS from .. to less 1 go: how many there are");
        StyledRuns x = typed("abcdefgh");
        due("the first", x.cut(0, 1), 7);
        due("the last", x.cut(6, 7), 6);
        due("one between", x.cut(2, 3), 5);
        check.due("letters", Check.lettersOf(x), "bcefg");
        due("all but the ends", x.cut(1, 4), 2);
        check.due("letters", Check.lettersOf(x), "bg");
        due("all", x.cut(0, 2), 0);
        due("none left", x.cut(0, 1), -1);
        StyledRuns y = Check.marked("a[b]b[/b][i]c[/i]d");
        y.cut(1, 2);
        due("PAINT goes with them", y.style(1, 6), 204);
        due("PAINT behind", y.style(2, 6), 4);
        StyledRuns full = typed("a".repeat(199) + "z");
        due("199 of 200", full.cut(0, 199), 1);
        due("the one", full.letter(0), 'z');
    }

    private static void swap() {
        check.head("promise 7: they come at PLACE from and 1, then LETTER from goes, then those that lie behind them now");
        StyledRuns x = typed("abcdef");
        due("one for the first", Check.swap(x, "X", 0, 1), 6);
        due("one for the last", Check.swap(x, "YZ", 5, 6), 7);
        check.due("letters", Check.lettersOf(x), "XbcdeYZ");
        due("the TAPE is empty", x.count(13), 0);
        due("fewer", Check.swap(x, "-", 1, 5), 4);
        check.due("letters", Check.lettersOf(x), "X-YZ");
        due("all", Check.swap(x, "abcde", 0, 4), 5);
        check.due("letters", Check.lettersOf(x), "abcde");
        for (int sides = 0; sides < 4; sides++) {
            StyledRuns y = typed("abcdef");
            y.lay(2, 3, 0, 1, 0, NONE, 0, sides);
            y.lay(2, 4, 0, 1, 0, NONE, 0, sides);
            y.lay(1, 2, 0, 1, 0, NONE, 0, sides);
            y.lay(3, 5, 0, 1, 0, NONE, 0, sides);
            y.lay(3, 4, 0, 1, 0, NONE, 0, sides);
            Check.swap(y, "XYZ", 2, 4);
            String name = "sides " + sides + ", ";
            boolean on = sides >= 2;
            dueSpan(name + "over LETTER from", y, 0, on ? 2 : LOWEST, on ? 5 : LOWEST);
            dueSpan(name + "over all of them", y, 1, 2, 5);
            dueSpan(name + "ahead of them", y, 2, 1, 2);
            dueSpan(name + "from the second on", y, 3, sides % 2 == 1 ? 5 : 2, 6);
            boolean gone = sides % 2 == 1;
            dueSpan(name + "over the second", y, 4, gone ? LOWEST : 2, gone ? LOWEST : 5);
        }
        StyledRuns z = Check.marked("[b]a[/b][i]b[/i][u]c[/u]");
        Check.swap(z, "XY", 1, 3);
        due("PAINT of LETTER from", z.style(1, 6), 204);
        due("PAINT of the second", z.style(2, 6), 204);
        due("PAINT at 0", z.style(0, 6), 104);
    }

    private static void dueSpan(String call, StyledRuns x, int span, int from, int to) {
        due(call + ", FROM", x.span(span, 0), from);
        due(call + ", TO", x.span(span, 1), to);
    }

    private static void swapAtTheLimit() {
        check.head("promise 7: -5 (above 200 when they have come)");
        StyledRuns x = typed("a".repeat(150));
        due("50 come: 200, one goes", Check.swap(x, "b".repeat(50), 0, 1), 199);
        due("one comes: 200, all go", Check.swap(x, "c", 0, 199), 1);
        StyledRuns y = typed("a".repeat(150));
        due("51 come: 201", Check.swap(y, "b".repeat(51), 0, 150), -5);
        due("199 for one", Check.swap(typed("a"), "b".repeat(199), 0, 1), 199);
        due("200 for one", Check.swap(typed("a"), "b".repeat(200), 0, 1), -5);
        check.head("promise 7: ANCHORS");
        StyledRuns z = typed("abcdef");
        int[] pins = {1, 2, 3, 4, 5};
        for (int place : pins) {
            z.pin(place, 0);
            z.pin(place, 1);
        }
        due("swap(2, 5)", Check.swap(z, "X", 2, 5), 4);
        int[] places = {1, 1, 2, 2, 2, 3, 3, 3, 3, 3};
        int[] lost = {0, 0, 0, 0, 0, 0, 1, 1, 0, 0};
        for (int k = 0; k < places.length; k++) {
            due("PLACE of " + k, z.anchor(k, 0), places[k]);
            due("LOST of " + k, z.anchor(k, 2), lost[k]);
        }
    }

    private static void move() {
        check.head("promise 8: MOVED: how many SPANS went with them");
        StyledRuns x = typed("abcdef");
        due("none", x.move(0, 2, 6), 0);
        layOver(x, 0, 1);
        layOver(x, 0, 2);
        layOver(x, 1, 2);
        layOver(x, 1, 3);
        layOver(x, 4, 5);
        due("three within, one over the end, one away", x.move(0, 2, 6), 3);
        due("four within, one away", x.move(1, 6, 0), 4);
        StyledRuns y = typed("abcd");
        due("at is to and 1", y.move(1, 2, 3), 0);
        check.due("letters", Check.lettersOf(y), "acbd");
        due("at is from less 1", y.move(2, 3, 1), 0);
        check.due("letters", Check.lettersOf(y), "abcd");
        due("at 0", y.move(1, 4, 0), 0);
        check.due("letters", Check.lettersOf(y), "bcda");
        due("at the end", y.move(0, 3, 4), 0);
        check.due("letters", Check.lettersOf(y), "abcd");
        StyledRuns z = typed("abcd");
        for (int k = 0; k < 16; k++) {
            layOver(z, 1, 2 + k % 2);
        }
        due("16 go along", z.move(1, 3, 4), 16);
        z.lift(0);
        due("15 go along", z.move(2, 4, 0), 15);
    }

    // ---- promises 9 to 16 ----

    private static void lay() {
        check.head("promise 9: the ends of LAYER, ON, OFF, COLOR, GROWS, SIDES");
        int[][] laid = {
            {0, 1, 0, 0, 0, NONE, -3, 0}, {2, 3, 9, 15, 15, 7, 3, 3}, {0, 3, 5, 8, 1, 0, 0, 1}, {1, 2, 1, 0, 15, 1, 1, 2}};
        StyledRuns x = typed("abc");
        for (int k = 0; k < laid.length; k++) {
            int[] a = laid[k];
            due("lay() " + k, x.lay(a[0], a[1], a[2], a[3], a[4], a[5], a[6], a[7]), k);
        }
        for (int k = 0; k < laid.length; k++) {
            for (int what = 0; what < 8; what++) {
                due("span(" + k + ", " + what + ")", x.span(k, what), laid[k][what]);
            }
        }
        StyledRuns full = typed("a".repeat(200));
        due("over 200", layOver(full, 0, 200), 0);
        due("over the last", layOver(full, 199, 200), 1);
        due("TO 201", layOver(full, 199, 201), -1);
        due("FROM 200", layOver(full, 200, 200), -1);
    }

    private static void liftSetStretch() {
        check.head("promise 10: how many are left");
        StyledRuns x = typed("abcdef");
        for (int k = 0; k < 16; k++) {
            layOver(x, 0, 6);
        }
        due("lift(15)", x.lift(15), 15);
        due("lift(0)", x.lift(0), 14);
        for (int k = 1; k < 15; k++) {
            due("lift(" + k + ")", x.lift(k), 14 - k);
        }
        check.head("promise 11: LAYER (what 0), SIDES (1) of a SPAN: what it was");
        StyledRuns y = typed("abcdef");
        y.lay(1, 3, 4, 1, 0, NONE, 0, 2);
        int[][] sets = {{0, 9, 4}, {0, 0, 9}, {0, 0, 0}, {1, 3, 2}, {1, 0, 3}, {1, 0, 0}, {0, 5, 0}, {1, 1, 0}};
        for (int[] s : sets) {
            due("set(0, " + s[0] + ", " + s[1] + ")", y.set(0, s[0], s[1]), s[2]);
            due("it is", y.span(0, s[0] == 0 ? 2 : 7), s[1]);
        }
        Check.type(y, "X", 1);
        due("by its new SIDES, FROM", y.span(0, 0), 2);
        Check.type(y, "X", 4);
        due("by its new SIDES, TO", y.span(0, 1), 4);
        check.head("promise 12: A SPAN lies over from .. to less 1 from now on: 0");
        int[][] ranges = {{0, 8}, {0, 1}, {7, 8}, {3, 5}, {3, 5}};
        for (int[] r : ranges) {
            due("stretch()", y.stretch(0, r[0], r[1]), 0);
            dueSpan("stretch()", y, 0, r[0], r[1]);
            due("over its last", y.stack(r[1] - 1, 0), 0);
            due("not beyond", y.stack(r[1], 0), NONE);
        }
        due("LAYER stays", y.span(0, 2), 5);
        due("SIDES stay", y.span(0, 7), 1);
    }

    private static void paint() {
        check.head("promise 13: of how many LETTERS the PAINT is another one");
        StyledRuns x = Check.marked("[z9]a[/z]b[z0]c[/z][b]d[/b][c3]e[/c]");
        due("nothing", x.paint(0, 5, 0, 0, NONE, 0), 0);
        due("SIZE 9 stays", x.paint(0, 5, 0, 0, NONE, 1), 4);
        due("undo()", x.undo(), 7);
        due("SIZE 0 stays", x.paint(0, 5, 0, 0, NONE, -1), 4);
        due("undo()", x.undo(), 7);
        due("b stays", x.paint(0, 5, 1, 0, NONE, 0), 4);
        due("undo()", x.undo(), 7);
        due("b goes", x.paint(0, 5, 0, 1, NONE, 0), 1);
        due("undo()", x.undo(), 7);
        due("on, then off again", x.paint(0, 5, 2, 2, NONE, 0), 0);
        due("COLOR 3 stays", x.paint(0, 5, 0, 0, 3, 0), 4);
        due("undo()", x.undo(), 7);
        due("COLOR 0", x.paint(0, 5, 0, 0, 0, 0), 1);
        due("the first alone", x.paint(0, 1, 15, 0, 7, -3), 1);
        due("the last alone", x.paint(4, 5, 0, 15, 7, 3), 1);
        int[] due = {1576, 4, 0, 104, 77};
        for (int i = 0; i < due.length; i++) {
            due("style(" + i + ", 6)", x.style(i, 6), due[i]);
        }
        due("all 200", typed("a".repeat(200)).paint(0, 200, 8, 0, NONE, 0), 200);
    }

    private static void fast() {
        check.head("promise 14: how many SPANS there were");
        StyledRuns x = typed("abc");
        due("none", x.fast(), 0);
        for (int k = 0; k < 16; k++) {
            x.lay(0, 3, k % 10, 0, 0, NONE, 1, 0);
        }
        x.lift(3);
        due("15", x.fast(), 15);
        due("SIZE", x.style(2, 5), 9);
        due("none any more", x.fast(), 0);
        due("numbers stay given", layOver(x, 0, 1), -5);
    }

    private static void pinAndUnpin() {
        check.head("promise 15: PLACES 0 .. how many there are, LEAN 0, 1");
        StyledRuns x = typed("abc");
        due("pin(0, 0)", x.pin(0, 0), 0);
        due("pin(3, 1)", x.pin(3, 1), 1);
        due("pin(3, 0)", x.pin(3, 0), 2);
        due("LEAN", x.anchor(1, 1), 1);
        due("LEAN", x.anchor(2, 1), 0);
        due("LOST", x.anchor(1, 2), 0);
        StyledRuns full = typed("a".repeat(200));
        due("pin(200, 1)", full.pin(200, 1), 0);
        due("pin(201, 1)", full.pin(201, 1), -1);
        check.head("promise 16: An ANCHOR goes: its PLACE");
        due("unpin(0)", x.unpin(0), 0);
        due("ANCHORS", x.count(3), 2);
        due("unpin(1)", x.unpin(1), 3);
        Check.type(x, "XY", 0);
        due("unpin(2), its PLACE now", x.unpin(2), 5);
        due("ANCHORS", x.count(3), 0);
        check.head("promise 15: LOST begins at 0 where an undone ANCHOR had some");
        StyledRuns y = typed("abcd");
        y.pin(2, 0);
        y.cut(1, 3);
        y.image(0);
        Check.read(y, "abcd");
        due("pin()", y.pin(1, 0), 0);
        due("LOST", y.anchor(0, 2), 0);
        due("LOST of all", y.count(10), 0);
    }

    // ---- promises 17 to 19 ----

    private static void read() {
        check.head("promise 17: all LETTERS are its (SPANS, ANCHORS are none then; their numbers begin at 0)");
        StyledRuns x = typed("abcdef");
        for (int k = 0; k < 16; k++) {
            layOver(x, 0, 6);
        }
        for (int k = 0; k < 12; k++) {
            x.pin(3, 0);
        }
        due("an empty TAPE", x.read(), 0);
        int[] due = {0, 0, 0, 0, 0, 0, 0, NONE, 0, 0, 0, 0, 8, 0};
        for (int what = 0; what < due.length; what++) {
            due("count(" + what + ")", x.count(what), due[what]);
        }
        due("read()", Check.read(x, "[b]ab[/b]"), 2);
        due("the TAPE is empty", x.count(13), 0);
        due("PAINT", x.style(1, 3), 1);
        due("lay()", layOver(x, 0, 2), 0);
        due("pin()", x.pin(0, 0), 0);
        due("200 LETTERS", Check.read(x, "a".repeat(200)), 200);
        due("SPANS", x.count(2), 0);
        due("ANCHORS", x.count(3), 0);
        due("fewer again", Check.read(x, "a"), 1);
        due("letter(1)", x.letter(1), NONE);
        due("400 bytes of marks", Check.read(x, "[b][/b]".repeat(57) + "x"), 1);
        String most = "[c1]" + "a".repeat(200) + "[/c]" + "[c0][/c]".repeat(24);
        due("400 bytes", most.length(), 400);
        due("200 LETTERS in 400 bytes", Check.read(x, most), 200);
    }

    private static void fault() {
        check.head("promise 18: FAULT of the latest read(); NONE without one, ahead of any");
        StyledRuns x = new StyledRuns();
        due("ahead of any", x.fault(), NONE);
        Check.read(x, "a[q]");
        due("of the latest", x.fault(), 2);
        Check.read(x, "[/b]");
        due("FAULT 0", x.fault(), 0);
        Check.read(x, "[b][c1]");
        due("marks are open", x.fault(), 7);
        due("none of them in the next", Check.read(x, "abc"), 3);
        due("PLAIN", x.style(0, 6), 4);
        due("without one", x.fault(), NONE);
        Check.read(x, "a]");
        due("FAULT 1", x.fault(), 1);
        x.image(0);
        x.write();
        x.fast();
        x.undo();
        x.undo();
        due("it stays", x.fault(), 1);
        x.back(0);
        due("by back(), too", x.fault(), 1);
        x.end(0);
        x.read();
        due("of an empty TAPE: without one", x.fault(), NONE);
        x.undo();
        due("by undo() of read(), too", x.fault(), NONE);
        Check.read(x, "a]");
        x.image(1);
        Check.read(x, "a");
        x.back(1);
        due("back() brings none back", x.fault(), NONE);
    }

    private static void write() {
        check.head("promise 19: WRITTEN onto the TAPE, in place of all: how many bytes");
        StyledRuns x = Check.marked("a[b]b[/b]");
        Check.tape(x, "q".repeat(390));
        due("write()", x.write(), 9);
        check.due("in place of all", Check.tapeOf(x), "a[b]b[/b]");
        due("write() again", x.write(), 9);
        x.cut(0, 2);
        due("write() of none", x.write(), 0);
        due("the TAPE is empty", x.count(13), 0);
        String text = "[b]x[/b]y".repeat(23) + "[c1]x[/c]y".repeat(5) + "z".repeat(143);
        StyledRuns most = Check.marked(text);
        due("write() of 400", most.write(), 400);
        check.due("400 bytes", Check.tapeOf(most), text);
        StyledRuns again = Check.marked(text);
        again.write();
        due("read() of 400", again.read(), 199);
        StyledRuns plain = typed("z".repeat(200));
        due("write() of 200 LETTERS", plain.write(), 200);
        due("tape(199)", plain.tape(199), 'z');
        due("tape(200)", plain.tape(200), NONE);
    }

    // ---- promises 20 to 22 ----

    private static void undoKeepsEight() {
        check.head("promise 20: (8 are kept)");
        StyledRuns x = new StyledRuns();
        for (int k = 1; k <= 20; k++) {
            Check.type(x, "a", 0);
            due("can be undone", x.count(12), Math.min(k, 8));
        }
        for (int k = 1; k <= 8; k++) {
            due("undo() " + k, x.undo(), 0);
            due("LETTERS", x.count(0), 20 - k);
            due("can be undone", x.count(12), 8 - k);
        }
        due("a ninth", x.undo(), -4);
        due("LETTERS", x.count(0), 12);
        for (int k = 0; k < 3; k++) {
            x.pin(k, 1);
        }
        due("undo() of a new one", x.undo(), 9);
        x.cut(0, 1);
        due("three can be undone", x.count(12), 3);
        int[] told = {1, 9, 9, -4};
        for (int k = 0; k < told.length; k++) {
            due("undo() told", x.undo(), told[k]);
        }
        due("LETTERS", x.count(0), 12);
        due("ANCHORS", x.count(3), 0);
    }

    /** Five acts, so that one more and its undo() leave what can be undone as it was. */
    private static StyledRuns fiveActs() {
        StyledRuns x = Check.marked("a[b]bc[/b]d[c3][z7]ef[/z][/c]gh");
        x.lay(1, 4, 5, 1, 2, 3, 1, 1);
        x.lay(3, 8, 2, 6, 9, NONE, -2, 2);
        x.pin(3, 1);
        x.pin(5, 0);
        x.image(0);
        return x;
    }

    private static void undoes(int told, String act, ToIntFunction<StyledRuns> call) {
        StyledRuns x = fiveActs();
        StyledRuns twin = fiveActs();
        int answer = call.applyAsInt(x);
        due(act + " is not refused: " + answer, answer >= 0 ? 1 : 0, 1);
        due(act + " can be undone", x.count(12), 6);
        // STYLES are asked ahead of undo(), so that none that was told then may be told again.
        x.count(8);
        due(act + " is told", x.undo(), told);
        x.end(0);
        check.due(act + " is undone", Seen.now(x), Seen.now(twin));
        due(act + ", place", x.through(3, 1, 5), twin.through(3, 1, 5));
        check.due(act + " is undone, kept", Seen.kept(x), Seen.kept(twin));
    }

    private static void undoOfEachAct() {
        check.head("promise 20: all is as it was");
        undoes(0, "type()", x -> Check.type(x, "xyz", 3));
        undoes(1, "cut()", x -> x.cut(2, 7));
        undoes(1, "cut() of all", x -> x.cut(0, 8));
        undoes(2, "move()", x -> x.move(1, 5, 7));
        undoes(3, "lay()", x -> x.lay(0, 8, 9, 15, 0, 5, 3, 3));
        undoes(4, "lift()", x -> x.lift(0));
        undoes(5, "set() of LAYER", x -> x.set(0, 0, 0));
        undoes(5, "set() of SIDES", x -> x.set(1, 1, 1));
        undoes(6, "stretch()", x -> x.stretch(1, 0, 2));
        undoes(7, "paint()", x -> x.paint(0, 8, 15, 0, 6, 3));
        undoes(7, "paint() that changes none", x -> x.paint(0, 8, 0, 0, NONE, 0));
        undoes(8, "fast()", StyledRuns::fast);
        undoes(9, "pin()", x -> x.pin(0, 0));
        undoes(10, "unpin()", x -> x.unpin(0));
        undoes(11, "read()", x -> Check.read(x, "[i]x[/i]"));
        undoes(11, "read() of an empty TAPE", StyledRuns::read);
        undoes(12, "swap()", x -> Check.swap(x, "xyz", 2, 6));
        check.head("promise 20: all but the TAPE, FAULT, what is told of REFUSED calls");
        StyledRuns x = fiveActs();
        x.cut(2, 7);
        Check.read(x, "ab]");
        Check.tape(x, "mn");
        x.lift(9);
        due("undo()", x.undo(), 1);
        check.due("the TAPE", Check.tapeOf(x), "mn");
        due("FAULT", x.fault(), 2);
        check.due("refused", Seen.refusals(x), "refused 0 0 1 0 0 1");
    }

    /** SPAN 0 and ANCHOR 0 come, then by read() others of these numbers. */
    private static StyledRuns numbersTwice() {
        StyledRuns x = typed("abcdef");
        x.lay(1, 4, 3, 5, 2, 6, -3, 1);
        x.pin(3, 1);
        x.image(0);
        Check.read(x, "ghi");
        x.lay(0, 2, 7, 8, 4, NONE, 2, 2);
        x.pin(1, 0);
        return x;
    }

    private static void dueFirstOfTheNumbers(String by, StyledRuns x) {
        int[] due = {1, 4, 3, 5, 2, 6, -3, 1};
        for (int what = 0; what < due.length; what++) {
            due(by + ", span(0, " + what + ")", x.span(0, what), due[what]);
        }
        due(by + ", PLACE", x.anchor(0, 0), 3);
        due(by + ", LEAN", x.anchor(0, 1), 1);
        due(by + ", style(2, 6)", x.style(2, 6), 561);
    }

    private static void numbersComeBack() {
        check.head("promises 20 and 22: SPANS, ANCHORS whose numbers others had in between are as they were");
        StyledRuns x = numbersTwice();
        due("undo() of pin(), lay(), read()", 10000 * x.undo() + 100 * x.undo() + x.undo(), 90311);
        dueFirstOfTheNumbers("undo()", x);
        StyledRuns y = numbersTwice();
        due("back()", y.back(0), 6);
        dueFirstOfTheNumbers("back()", y);
    }

    private static void imageAndBack() {
        check.head("promise 21: IMAGE k (0, 1) is kept, of all but the TAPE, FAULT, .. what can be undone");
        StyledRuns x = fiveActs();
        String first = Seen.standing(fiveActs());
        Check.tape(x, "mn");
        due("image(1)", x.image(1), 8);
        check.due("the TAPE stays", Check.tapeOf(x), "mn");
        due("acts stay", x.count(12), 5);
        x.fast();
        x.cut(0, 3);
        due("image(0) in place of the other", x.image(0), 5);
        Check.read(x, "z");
        due("RUNS ahead of back()", x.count(1), 1);
        due("back(1)", x.back(1), 8);
        check.due("as it was", Seen.standing(x), first);
        due("nothing can be undone then", x.undo(), -4);
        due("nor gone through", x.through(0, 0, 1), NONE);
        x.cut(0, 8);
        due("what came behind can", x.count(12), 1);
        due("back(1) again", x.back(1), 8);
        check.due("as it was, again", Seen.standing(x), first);
        due("back(0)", x.back(0), 5);
        due("SPANS", x.count(2), 0);
        due("numbers given", x.count(4), 2);
        due("refused are told still", x.count(16), 1);
        check.head("promise 20: undo() leaves IMAGES");
        Check.type(x, "q", 0);
        due("image(1)", x.image(1), 6);
        due("undo()", x.undo(), 0);
        due("back(1)", x.back(1), 6);
        check.head("promise 22: the TAPE stays");
        Check.tape(x, "mn");
        due("back(0)", x.back(0), 5);
        check.due("the TAPE", Check.tapeOf(x), "mn");
        due("image() of the same twice", x.image(0) + x.image(1), 10);
        check.head("promises 21 and 22: an empty and a full text");
        StyledRuns y = new StyledRuns();
        due("image(0) of none", y.image(0), 0);
        Check.type(y, "a".repeat(200), 0);
        due("image(1) of 200", y.image(1), 200);
        due("back(0)", y.back(0), 0);
        due("letter(0)", y.letter(0), NONE);
        due("back(1)", y.back(1), 200);
        due("letter(199)", y.letter(199), 'a');
        check.head("promise 22: undo() of acts behind back()");
        y.paint(0, 1, 1, 0, NONE, 0);
        due("undo()", y.undo(), 7);
        due("style(0, 6)", y.style(0, 6), 4);
        due("no more", y.undo(), -4);
    }

    // ---- promises 23 to 29 ----

    private static void letterAndStyle() {
        check.head("promises 23 and 24: LETTER i; NONE for others");
        StyledRuns x = Check.marked("[b][c7][z9] [/z][/c][/b]b[s]~[/s]");
        due("letter(0)", x.letter(0), 32);
        due("letter(2)", x.letter(2), 126);
        x.lay(0, 1, 0, 14, 1, 2, -3, 0);
        int[] due = {14, 2, 6, 1, 7, 9, 1426};
        for (int what = 0; what < due.length; what++) {
            due("style(0, " + what + ")", x.style(0, what), due[what]);
        }
        due("style(2, 6)", x.style(2, 6), 804);
        for (int i : new int[] {-1, 3, LOWEST, HIGHEST}) {
            due("letter(" + i + ")", x.letter(i), NONE);
            for (int what = 0; what <= 6; what++) {
                due("style(" + i + ", " + what + ")", x.style(i, what), NONE);
            }
        }
        for (int what : new int[] {-1, 7, LOWEST, HIGHEST}) {
            due("style(0, " + what + ")", x.style(0, what), NONE);
        }
        StyledRuns most = Check.marked("[b][i][u][s][c7][z9]a[/z][/c][/s][/u][/i][/b]");
        due("the most", most.style(0, 6), 1579);
        due("the least", Check.marked("[z0]a[/z]").style(0, 6), 0);
    }

    private static void run() {
        check.head("promise 25: Of RUN k; NONE for others");
        StyledRuns x = Check.marked("[s][c7][z0]a[/z][/c][/s]bc[b]d[/b]");
        int[][] due = {{0, 1, 8, 7, 0}, {1, 2, 0, 0, 4}, {3, 1, 1, 0, 4}};
        for (int k = 0; k < due.length; k++) {
            for (int what = 0; what < 5; what++) {
                due("run(" + k + ", " + what + ")", x.run(k, what), due[k][what]);
            }
        }
        for (int k : new int[] {-1, 3, LOWEST, HIGHEST}) {
            for (int what = 0; what < 5; what++) {
                due("run(" + k + ", " + what + ")", x.run(k, what), NONE);
            }
        }
        for (int what : new int[] {-1, 5, LOWEST, HIGHEST}) {
            due("run(0, " + what + ")", x.run(0, what), NONE);
        }
        check.head("promise 25: how many LETTERS (1), to the end of the text");
        StyledRuns full = typed("a".repeat(200));
        due("200 LETTERS", full.run(0, 1), 200);
        full.cut(100, 200);
        due("100 were cut", full.run(0, 1), 100);
        full.paint(99, 100, 1, 0, NONE, 0);
        due("the last alone", full.run(1, 1), 1);
        due("all but the last", full.run(0, 1), 99);
    }

    private static void stackAndTells() {
        check.head("promise 26: The k-th SPAN over LETTER i (k 0 on). NONE");
        StyledRuns x = typed("ab");
        for (int k = 0; k < 16; k++) {
            x.lay(0, 1, 9 - k % 10, 1, 0, NONE, 0, 0);
        }
        int[] due = {9, 8, 7, 6, 5, 15, 4, 14, 3, 13, 2, 12, 1, 11, 0, 10};
        for (int k = 0; k < due.length; k++) {
            due("stack(0, " + k + ")", x.stack(0, k), due[k]);
        }
        due("stack(0, 16)", x.stack(0, 16), NONE);
        due("stack(0, -1)", x.stack(0, -1), NONE);
        due("stack(0, lowest)", x.stack(0, LOWEST), NONE);
        due("stack(0, highest)", x.stack(0, HIGHEST), NONE);
        due("stack(1, 0)", x.stack(1, 0), NONE);
        due("stack(2, 0)", x.stack(2, 0), NONE);
        due("stack(-1, 0)", x.stack(-1, 0), NONE);
        check.head("promise 27: NONE (its PAINT does; others)");
        due("tells(0, 2)", x.tells(0, 2), 10);
        due("tells(0, 0)", x.tells(0, 0), NONE);
        due("tells(0, 1)", x.tells(0, 1), NONE);
        StyledRuns y = typed("ab");
        y.lay(0, 2, 0, 15, 15, 0, 3, 0);
        for (int what = 0; what <= 5; what++) {
            due("tells(1, " + what + ")", y.tells(1, what), 0);
            due("tells(2, " + what + ")", y.tells(2, what), NONE);
            due("tells(-1, " + what + ")", y.tells(-1, what), NONE);
        }
        for (int what : new int[] {-1, 6, 7, 34, LOWEST, HIGHEST}) {
            due("tells(1, " + what + ")", y.tells(1, what), NONE);
        }
        for (int f = 0; f < 4; f++) {
            StyledRuns on = typed("a");
            on.lay(0, 1, 0, 1 << f, 0, NONE, 0, 0);
            on.lay(0, 1, 0, 0, 1 << f, NONE, 0, 0);
            on.lay(0, 1, 0, 15 - (1 << f), 0, NONE, 0, 0);
            for (int what = 2; what <= 5; what++) {
                due("FLAG " + (1 << f) + ", tells(0, " + what + ")", on.tells(0, what), what == f + 2 ? 1 : 2);
            }
        }
    }

    private static void span() {
        check.head("promise 28: RUNS that there would be without it (9), 1 if IDLE (8)");
        StyledRuns x = typed("abcdef");
        x.lay(0, 2, 0, 1, 0, NONE, 0, 0);
        x.lay(1, 4, 1, 0, 0, 2, 0, 0);
        x.lay(5, 6, 2, 0, 0, NONE, 0, 0);
        x.lay(4, 5, 3, 0, 0, NONE, 1, 0);
        int[] without = {4, 4, 5, 4};
        due("RUNS", x.count(1), 5);
        for (int k = 0; k < without.length; k++) {
            due("span(" + k + ", 9)", x.span(k, 9), without[k]);
            due("span(" + k + ", 8)", x.span(k, 8), k == 2 ? 1 : 0);
        }
        due("RUNS stay", x.count(1), 5);
        check.head("promise 28: without it the others stay on their LAYERS");
        StyledRuns z = typed("abc");
        z.lay(0, 3, 9, 0, 0, 1, 0, 0);
        z.lay(1, 2, 5, 0, 0, 2, 0, 0);
        z.lay(1, 2, 7, 0, 0, NONE, 0, 0);
        due("RUNS", z.count(1), 1);
        due("span(0, 9)", z.span(0, 9), 3);
        due("span(1, 9)", z.span(1, 9), 1);
        due("span(2, 9)", z.span(2, 9), 1);
        due("span(2, 8)", z.span(2, 8), 1);
        due("idle()", z.idle(), 6);
        check.head("promise 28: more RUNS without it");
        StyledRuns y = Check.marked("a[b]b[/b]c");
        y.lay(0, 3, 0, 0, 15, NONE, 0, 0);
        due("RUNS", y.count(1), 1);
        due("without it", y.span(0, 9), 3);
        check.head("promise 28: Integer.MIN_VALUE for others");
        for (int what : new int[] {-1, 10, LOWEST, HIGHEST}) {
            due("span(0, " + what + ")", x.span(0, what), LOWEST);
        }
        for (int what = 0; what <= 9; what++) {
            due("span(4, " + what + ")", x.span(4, what), LOWEST);
            due("span(-1, " + what + ")", x.span(-1, what), LOWEST);
        }
        StyledRuns sixteen = typed("ab");
        for (int k = 0; k < 16; k++) {
            sixteen.lay(k % 2, 2, k % 10, 0, 0, NONE, 0, 0);
        }
        due("span(15, 0)", sixteen.span(15, 0), 1);
        due("span(16, 0)", sixteen.span(16, 0), LOWEST);
    }

    private static void anchor() {
        check.head("promise 29: PLACE (what 0), LEAN (1), LOST (2). NONE for others");
        StyledRuns x = typed("abcdef");
        for (int k = 0; k < 12; k++) {
            x.pin(6 - k % 7, k % 2);
        }
        due("anchor(11, 0)", x.anchor(11, 0), 2);
        due("anchor(11, 1)", x.anchor(11, 1), 1);
        due("anchor(6, 0)", x.anchor(6, 0), 0);
        for (int what = 0; what <= 2; what++) {
            due("anchor(12, " + what + ")", x.anchor(12, what), NONE);
            due("anchor(-1, " + what + ")", x.anchor(-1, what), NONE);
        }
        for (int what : new int[] {-1, 3, LOWEST, HIGHEST}) {
            due("anchor(0, " + what + ")", x.anchor(0, what), NONE);
        }
        StyledRuns y = typed("abcdef");
        y.pin(1, 1);
        for (int times = 1; times <= 3; times++) {
            y.cut(0, 2);
            due("LOST " + times + " times", y.anchor(0, 2), times);
            Check.type(y, "X", 0);
            due("PLACE", y.anchor(0, 0), 1);
        }
    }

    // ---- promises 30 to 32 ----

    private static void find() {
        check.head("promise 30: The first PLACE from one on at which all bytes of the TAPE stand as LETTERS");
        StyledRuns x = typed("abcabcab");
        Check.tape(x, "abc");
        int[] due = {0, 3, 3, 3, NONE, NONE, NONE, NONE, NONE};
        for (int from = 0; from <= 8; from++) {
            due("find(" + from + ")", x.find(from), due[from]);
        }
        for (int from : new int[] {-1, 9, LOWEST, HIGHEST}) {
            due("find(" + from + ")", x.find(from), NONE);
        }
        check.due("the TAPE stays", Check.tapeOf(x), "abc");
        Check.tape(x, "b");
        due("the last of one", x.find(5), 7);
        due("from the last PLACE", x.find(8), NONE);
        Check.tape(x, "abcabcab");
        due("all", x.find(0), 0);
        due("all from 1", x.find(1), NONE);
        Check.tape(x, "abcabcabc");
        due("more than all", x.find(0), NONE);
        Check.tape(x, "");
        due("an empty TAPE", x.find(0), NONE);
        due("an empty TAPE at the end", x.find(8), NONE);
        Check.tape(x, "x".repeat(400));
        due("400 bytes", x.find(0), NONE);
        Check.tape(x, "a\0");
        due("a byte that is no LETTER", x.find(0), NONE);
        StyledRuns again = typed("aabaab");
        Check.tape(again, "aab");
        due("begun anew", again.find(0), 0);
        due("behind the first", again.find(1), 3);
        StyledRuns any = Check.marked("[b][i][u][s][c7][z0]a[/z][/c][/s][/u][/i][/b]b[z9]c[/z]");
        Check.tape(any, "abc");
        due("of any STYLE", any.find(0), 0);
        StyledRuns shorter = typed("abcd");
        shorter.cut(2, 4);
        Check.tape(shorter, "bc");
        due("not what was cut", shorter.find(0), NONE);
    }

    private static void findBy() {
        check.head("promise 31: FLAGS as in flags, of those in mask; COLOR; SIZE low to high");
        StyledRuns x = Check.marked("a[b]a[/b][i]a[/i][c7]a[/c][z0]a[/z][z9]a[/z][b][s]a[/s][/b]");
        Check.tape(x, "a");
        int[][] calls = {
            {0, 0, 0, NONE, 0, 9, 0}, {0, 1, 1, NONE, 0, 9, 1}, {0, 15, 15, NONE, 0, 9, NONE}, {0, 9, 9, NONE, 0, 9, 6},
            {0, 8, 15, NONE, 0, 9, 6}, {0, 3, 2, NONE, 0, 9, 2}, {2, 15, 0, NONE, 0, 9, 3}, {0, 0, 15, NONE, 0, 9, 0},
            {0, 0, 0, 7, 0, 9, 3}, {4, 0, 0, 7, 0, 9, NONE}, {3, 0, 0, 0, 0, 9, 4}, {0, 0, 0, NONE, 0, 0, 4},
            {0, 0, 0, NONE, 9, 9, 5}, {0, 0, 0, NONE, 5, 9, 5}, {0, 0, 0, NONE, 0, 3, 4}, {1, 0, 0, NONE, 4, 4, 1},
            {5, 0, 0, NONE, 5, 8, NONE}, {0, 0, 0, NONE, 5, 4, NONE}, {0, 0, 0, NONE, 9, 0, NONE}, {7, 0, 0, NONE, 0, 9, NONE},
            {-1, 0, 0, NONE, 0, 9, NONE}, {8, 0, 0, NONE, 0, 9, NONE}, {0, -1, 0, NONE, 0, 9, NONE},
            {0, 16, 0, NONE, 0, 9, NONE}, {0, 0, -1, NONE, 0, 9, NONE}, {0, 0, 16, NONE, 0, 9, NONE},
            {0, 0, 0, -2, 0, 9, NONE}, {0, 0, 0, 8, 0, 9, NONE}, {0, 0, 0, NONE, -1, 9, NONE}, {0, 0, 0, NONE, 0, 10, NONE},
            {0, 0, 0, NONE, 10, 9, NONE}, {0, 0, 0, NONE, 0, -1, NONE}, {0, LOWEST, 0, NONE, 0, 9, NONE},
            {0, 0, HIGHEST, NONE, 0, 9, NONE}, {0, 0, 0, LOWEST, 0, 9, NONE}, {0, 0, 0, NONE, LOWEST, 9, NONE},
            {0, 0, 0, NONE, 0, HIGHEST, NONE}, {LOWEST, 0, 0, NONE, 0, 9, NONE}, {HIGHEST, 0, 0, NONE, 0, 9, NONE}};
        for (int[] c : calls) {
            due("findBy() of " + java.util.Arrays.toString(c), x.findBy(c[0], c[1], c[2], c[3], c[4], c[5]), c[6]);
        }
        check.head("promise 31: all of these LETTERS");
        Check.tape(x, "aa");
        due("the second is not", x.findBy(0, 1, 1, NONE, 0, 9), NONE);
        due("both are", x.findBy(0, 1, 0, NONE, 0, 9), 2);
        due("SIZE of both", x.findBy(0, 0, 0, NONE, 0, 4), 0);
        due("SIZE of both, further", x.findBy(0, 0, 0, NONE, 5, 9), NONE);
        x.lay(5, 7, 0, 0, 0, NONE, 3, 0);
        due("of STYLES, not PAINT", x.findBy(0, 0, 0, NONE, 5, 9), 5);
        Check.tape(x, "");
        due("an empty TAPE", x.findBy(0, 0, 0, NONE, 0, 9), NONE);
    }

    private static void styled() {
        check.head("promise 32: the first (0), how many side by side (1), how many at all (2). NONE (none; others)");
        StyledRuns x = Check.marked("[b]ab[/b]c[b]d[c7]e[/c][/b]");
        int[][] calls = {
            {0, 1, 1, NONE, 0, 0}, {0, 1, 1, NONE, 1, 2}, {0, 1, 1, NONE, 2, 4}, {1, 1, 1, NONE, 0, 1}, {1, 1, 1, NONE, 1, 1},
            {1, 1, 1, NONE, 2, 3}, {2, 1, 1, NONE, 0, 3}, {2, 1, 1, NONE, 1, 2}, {2, 1, 1, NONE, 2, 2}, {4, 1, 1, NONE, 0, 4},
            {4, 1, 1, NONE, 1, 1}, {4, 1, 1, NONE, 2, 1}, {5, 1, 1, NONE, 0, NONE}, {5, 1, 1, NONE, 2, NONE},
            {6, 1, 1, NONE, 0, NONE}, {-1, 1, 1, NONE, 0, NONE}, {0, 1, 0, NONE, 0, 2}, {3, 1, 0, NONE, 0, NONE},
            {3, 1, 0, NONE, 1, NONE}, {3, 1, 0, NONE, 2, NONE}, {0, 0, 15, NONE, 1, 5}, {0, 15, 1, 7, 0, 4}, {0, 0, 0, 0, 2, 4},
            {0, 0, 0, 6, 0, NONE}, {0, -1, 0, NONE, 0, NONE}, {0, 16, 0, NONE, 0, NONE}, {0, 0, -1, NONE, 0, NONE},
            {0, 0, 16, NONE, 0, NONE}, {0, 0, 0, -2, 0, NONE}, {0, 0, 0, 8, 0, NONE}, {0, 0, 0, NONE, -1, NONE},
            {0, 0, 0, NONE, 3, NONE}, {LOWEST, 0, 0, NONE, 0, NONE}, {HIGHEST, 0, 0, NONE, 0, NONE},
            {0, HIGHEST, 0, NONE, 0, NONE}, {0, 0, LOWEST, NONE, 0, NONE}, {0, 0, 0, HIGHEST, 0, NONE},
            {0, 0, 0, NONE, LOWEST, NONE}};
        for (int[] c : calls) {
            due("styled() of " + java.util.Arrays.toString(c), x.styled(c[0], c[1], c[2], c[3], c[4]), c[5]);
        }
        x.lay(2, 3, 0, 1, 0, 7, 0, 0);
        due("by STYLE, not PAINT", x.styled(0, 1, 1, NONE, 1), 5);
        due("by STYLE, its COLOR", x.styled(0, 0, 0, 7, 2), 2);
        x.undo();
        due("undone", x.styled(0, 1, 1, NONE, 1), 2);
        StyledRuns full = typed("a".repeat(200));
        due("200 side by side", full.styled(0, 15, 0, 0, 1), 200);
        due("200 at all", full.styled(0, 15, 0, 0, 2), 200);
        due("the last", full.styled(199, 15, 0, 0, 0), 199);
    }

    // ---- promises 33 and 34 ----

    private static void follow() {
        check.head("promise 33: q LETTERS (1 .. 200) to come at a PLACE p");
        StyledRuns x = typed("abcde");
        for (int lean = 0; lean < 2; lean++) {
            due("q 1 at it", x.follow(3, lean, 3, 1, true), 3 + lean);
            due("q 200 at it", x.follow(3, lean, 3, 200, true), 3 + 200 * lean);
            due("q 200 ahead", x.follow(3, lean, 2, 200, true), 203);
            due("q 200 behind", x.follow(3, lean, 4, 200, true), 3);
            due("q 0", x.follow(3, lean, 3, 0, true), NONE);
            due("q 201", x.follow(3, lean, 3, 201, true), NONE);
            due("q -1", x.follow(3, lean, 3, -1, true), NONE);
            due("q highest", x.follow(3, lean, 3, HIGHEST, true), NONE);
            due("q lowest", x.follow(3, lean, 3, LOWEST, true), NONE);
            due("at 0", x.follow(0, lean, 0, 7, true), 7 * lean);
            due("at the end", x.follow(5, lean, 5, 7, true), 5 + 7 * lean);
        }
        check.head("promise 33: LETTERS p .. q less 1 to go");
        int[] go = {0, 1, 1, 1, 1, 2};
        for (int place = 0; place <= 5; place++) {
            due("go 1 .. 3 from " + place, x.follow(place, place % 2, 1, 4, false), go[place]);
            due("all go from " + place, x.follow(place, place % 2, 0, 5, false), 0);
            due("the last goes from " + place, x.follow(place, place % 2, 4, 5, false), Math.min(place, 4));
        }
        check.head("promise 33: NONE (no PLACES, p not below q; others)");
        int[][] wrong = {{5, 6}, {-1, 2}, {2, 2}, {3, 2}, {0, 0}, {5, 5}, {LOWEST, HIGHEST}, {HIGHEST, LOWEST}, {0, HIGHEST}, {LOWEST, 3}};
        for (int[] w : wrong) {
            due("go " + w[0] + ", " + w[1], x.follow(0, 0, w[0], w[1], false), NONE);
        }
        for (int p : new int[] {-1, 6, LOWEST, HIGHEST}) {
            due("PLACE " + p, x.follow(p, 0, 0, 1, true), NONE);
            due("PLACE " + p + ", go", x.follow(p, 0, 0, 1, false), NONE);
            due("come at " + p, x.follow(0, 0, p, 1, true), NONE);
        }
        for (int lean : new int[] {-1, 2, LOWEST, HIGHEST}) {
            due("lean " + lean, x.follow(0, lean, 0, 1, true), NONE);
            due("lean " + lean + ", go", x.follow(0, lean, 0, 1, false), NONE);
        }
    }

    private static void through() {
        check.head("promise 34: the latest n (1 .. 8) acts that can be undone. NONE (not so many)");
        StyledRuns x = new StyledRuns();
        for (int k = 1; k <= 10; k++) {
            Check.type(x, "a", 0);
            for (int n = 0; n <= 10; n++) {
                int want = n >= 1 && n <= Math.min(k, 8) ? n : NONE;
                due("n " + n + " of " + k, x.through(0, 1, n), want);
            }
        }
        check.head("promise 34: NONE (no PLACE then; others)");
        for (int n = 1; n <= 8; n++) {
            due("the last PLACE then, " + n, x.through(10 - n, 0, n), 10 - n == 0 ? 0 : 10);
            due("no PLACE then, " + n, x.through(11 - n, 0, n), NONE);
        }
        due("PLACE -1", x.through(-1, 0, 1), NONE);
        due("PLACE lowest", x.through(LOWEST, 0, 1), NONE);
        due("PLACE highest", x.through(HIGHEST, 0, 1), NONE);
        due("lean -1", x.through(0, -1, 1), NONE);
        due("lean 2", x.through(0, 2, 1), NONE);
        due("n lowest", x.through(0, 0, LOWEST), NONE);
        due("n highest", x.through(0, 0, HIGHEST), NONE);
        due("n -1", x.through(0, 0, -1), NONE);
        x.undo();
        due("n 8, one was undone", x.through(0, 0, 8), NONE);
        due("n 7", x.through(0, 1, 7), 7);
        check.head("promise 34: NONE (one of them was read())");
        StyledRuns y = typed("abc");
        Check.read(y, "abcd");
        y.fast();
        y.cut(0, 1);
        due("n 2, behind it", y.through(4, 0, 2), 3);
        due("n 3, read()", y.through(0, 0, 3), NONE);
        due("n 4, ahead of it", y.through(0, 0, 4), NONE);
    }

    /** Acts that put no LETTERS in, take none out, move none leave a PLACE where it is. */
    private static void throughEach() {
        check.head("promise 34: through each act");
        for (int lean = 0; lean < 2; lean++) {
            StyledRuns x = typed("abcdef");
            layOver(x, 1, 3);
            x.set(0, 0, 9);
            x.stretch(0, 2, 5);
            x.paint(0, 6, 1, 0, NONE, 0);
            x.pin(3, lean);
            x.fast();
            x.unpin(0);
            for (int place = 0; place <= 6; place++) {
                due("PLACE " + place + " stays", x.through(place, lean, 7), place);
            }
            due("PLACE 7", x.through(7, lean, 7), NONE);
            x.move(1, 3, 4);
            int[] moved = {0, 1, 3, 1, lean == 1 ? 4 : 2, 5, 6};
            for (int place = 0; place <= 6; place++) {
                due("move(1, 3, 4) from " + place, x.through(place, lean, 1), moved[place]);
            }
            Check.swap(x, "XY", 1, 3);
            int[] swapped = {0, 1, lean == 1 ? 3 : 1, 3, 4, 5, 6};
            for (int place = 0; place <= 6; place++) {
                due("swap(1, 3) from " + place, x.through(place, lean, 1), swapped[place]);
            }
        }
    }

    // ---- promises 35 to 38 ----

    private static void idleBits() {
        check.head("promise 35: IDLE SPANS, as bits");
        StyledRuns x = typed("ab");
        for (int k = 0; k < 16; k++) {
            due("idle() of " + k, x.idle(), (1 << k) - 1);
            x.lay(0, 2, k % 10, 0, 0, NONE, 0, 0);
        }
        due("idle() of 16", x.idle(), 0xFFFF);
        x.lift(15);
        x.lift(0);
        due("idle() of 14", x.idle(), 0x7FFE);
        x.set(3, 0, 0);
        due("a LAYER does not matter", x.idle(), 0x7FFE);
        StyledRuns y = typed("ab");
        for (int k = 0; k < 15; k++) {
            y.lay(0, 1, 0, 0, 0, NONE, 0, 0);
        }
        y.lay(1, 2, 0, 1, 0, NONE, 0, 0);
        due("15 is not", y.idle(), 0x7FFF);
        due("RUNS alike, STYLES not", allInOne().idle(), 0);
    }

    private static StyledRuns allInOne() {
        StyledRuns x = typed("ab");
        x.lay(0, 2, 0, 1, 0, NONE, 0, 0);
        return x;
    }

    private static void raisedAndBest() {
        check.head("promise 36: LAYER 0 .. 9 of a SPAN. NONE");
        StyledRuns x = typed("abc");
        x.lay(0, 3, 9, 0, 0, 1, 0, 0);
        x.lay(1, 2, 9, 0, 0, 2, 0, 0);
        x.lay(1, 2, 0, 0, 0, 3, 0, 0);
        for (int layer = 0; layer <= 9; layer++) {
            due("raised(1, " + layer + ")", x.raised(1, layer), layer == 9 ? 3 : 1);
            due("raised(0, " + layer + ")", x.raised(0, layer), 3);
            due("raised(2, " + layer + ")", x.raised(2, layer), 3);
        }
        for (int layer : new int[] {-1, 10, LOWEST, HIGHEST}) {
            due("raised(0, " + layer + ")", x.raised(0, layer), NONE);
        }
        due("raised(3, 0)", x.raised(3, 0), NONE);
        check.head("promise 37: the LAYER by which there are fewest RUNS (0; the least of these), how many (1). NONE");
        due("best(1, 0)", x.best(1, 0), 0);
        due("best(1, 1)", x.best(1, 1), 1);
        due("best(0, 0), all alike", x.best(0, 0), 0);
        due("best(0, 1)", x.best(0, 1), 3);
        for (int what : new int[] {-1, 2, LOWEST, HIGHEST}) {
            due("best(0, " + what + ")", x.best(0, what), NONE);
        }
        for (int span : new int[] {-1, 3, 16, LOWEST, HIGHEST}) {
            due("best(" + span + ", 1)", x.best(span, 1), NONE);
        }
        StyledRuns y = typed("abc");
        y.lay(0, 3, 0, 0, 0, 1, 0, 0);
        y.lay(1, 2, 8, 0, 0, 2, 0, 0);
        due("LAYER 9 alone", y.best(0, 0), 9);
        due("its RUNS", y.best(0, 1), 1);
        y.set(1, 0, 3);
        due("4, the least of 4 .. 9", y.best(0, 0), 4);
        y.set(1, 0, 0);
        due("1, the least of 1 .. 9", y.best(0, 0), 1);
        due("LAYER stays", y.span(0, 2), 0);
        StyledRuns z = typed("abc");
        z.lay(1, 2, 5, 0, 0, 2, 0, 0);
        due("fewer without it", z.span(0, 9), 1);
        due("all alike", z.best(0, 0), 0);
        due("RUNS with it", z.best(0, 1), 3);
        z.lay(0, 3, 0, 0, 0, 1, 0, 0);
        due("LAYER 0 alone", z.best(0, 0), 0);
        due("its RUNS", z.best(0, 1), 1);
    }

    private static void crossed() {
        check.head("promise 38: that lie over a LETTER both, none over all of the other's LETTERS");
        int[][] pairs = {
            {0, 3, 3, 6, 0}, {0, 3, 2, 6, 1}, {0, 3, 0, 3, 0}, {0, 3, 0, 4, 0}, {0, 4, 1, 4, 0}, {0, 6, 2, 3, 0}, {2, 3, 0, 6, 0},
            {2, 6, 0, 3, 1}, {3, 6, 0, 3, 0}, {0, 5, 1, 6, 1}, {1, 6, 0, 5, 1}, {0, 1, 1, 2, 0}, {0, 2, 1, 3, 1}, {0, 1, 5, 6, 0}};
        for (int[] p : pairs) {
            StyledRuns x = typed("abcdef");
            layOver(x, p[0], p[1]);
            layOver(x, p[2], p[3]);
            due(p[0] + " .. " + p[1] + " and " + p[2] + " .. " + p[3], x.crossed(), p[4] == 1 ? 1 : NONE);
        }
        check.head("promise 38: the first by the lesser number, then the other: 100 times the lesser and the other");
        StyledRuns x = typed("abcdef");
        due("one SPAN", layOver(x, 0, 6), 0);
        due("crossed()", x.crossed(), NONE);
        layOver(x, 0, 2);
        layOver(x, 3, 5);
        layOver(x, 4, 6);
        due("2 and 3", x.crossed(), 203);
        layOver(x, 1, 3);
        due("1 and 4", x.crossed(), 104);
        layOver(x, 1, 3);
        due("1 and 4, not 5", x.crossed(), 104);
        x.lift(4);
        due("1 and 5", x.crossed(), 105);
        x.stretch(0, 0, 1);
        due("0 is over none of theirs alone", x.crossed(), 105);
        x.stretch(0, 2, 4);
        due("0 and 2", x.crossed(), 2);
    }

    // ---- promises 39 and 40 ----

    private static void countsOfTheFull() {
        check.head("promise 39: of as much as there can be");
        StyledRuns x = typed("a".repeat(200));
        for (int k = 0; k < 16; k++) {
            x.lay(0, 200, 0, 0, 0, NONE, 0, 0);
        }
        for (int k = 0; k < 12; k++) {
            x.pin(1 + k, 0);
        }
        Check.tape(x, "a".repeat(400));
        int[] due = {200, 1, 16, 12, 16, 12, 200, 0, 1, 16, 0, 200, 8, 400, 0, 0, 0, 0, 0};
        for (int what = 0; what < due.length; what++) {
            due("count(" + what + ")", x.count(what), due[what]);
        }
        due("idle()", x.idle(), 0xFFFF);
        due("cut(0, 200)", x.cut(0, 200), 0);
        int[] cut = {0, 0, 0, 12, 16, 12, 0, NONE, 0, 0, 12, 0, 8, 400};
        for (int what = 0; what < cut.length; what++) {
            due("cut: count(" + what + ")", x.count(what), cut[what]);
        }
        due("unpin(0)", x.unpin(0), 0);
        due("ANCHORS", x.count(3), 11);
        due("numbers given", x.count(5), 12);
        due("LOST of those that are there", x.count(10), 11);
        for (int what : new int[] {-1, 19, LOWEST, HIGHEST}) {
            due("count(" + what + ")", x.count(what), NONE);
        }
        check.head("promise 39: bytes of write(), as if there were room");
        StyledRuns most = typed("a".repeat(200));
        for (int i = 0; i < 200; i += 2) {
            most.paint(i, i + 1, 15, 0, 7, 3);
        }
        due("count(11)", most.count(11), 200 + 100 * 44);
        due("write()", most.write(), -5);
    }

    private static void actsOnTheFull() {
        check.head("acts on as much as there can be");
        StyledRuns x = typed("a".repeat(199));
        for (int k = 0; k < 16; k++) {
            x.lay(k, 199 - k, k % 10, 1 << k % 4, 0, k % 8, 0, k % 4);
        }
        for (int k = 0; k < 12; k++) {
            x.pin(199 - k, k % 2);
        }
        due("type() ahead of all", Check.type(x, "b", 0), 200);
        due("the last ANCHOR", x.anchor(11, 0), 189);
        due("the last SPAN", x.span(15, 1), 185);
        due("move() to the end", x.move(0, 1, 200), 0);
        due("the last ANCHOR", x.anchor(11, 0), 188);
        due("the last SPAN", x.span(15, 0), 15);
        due("swap() is above", Check.swap(x, "c", 0, 200), -5);
        due("cut() of one", x.cut(0, 1), 199);
        due("the last ANCHOR", x.anchor(11, 0), 187);
        due("swap() of all", Check.swap(x, "c", 0, 199), 1);
        due("undo()", x.undo(), 12);
        due("undo()", x.undo(), 1);
        due("paint()", x.paint(0, 200, 0, 0, 3, 0), 200);
        due("image()", x.image(0), 200);
        due("fast()", x.fast(), 16);
        due("SPANS", x.count(2), 0);
        due("back()", x.back(0), 200);
        due("SPANS", x.count(2), 16);
        due("lift() of the last", x.lift(15), 15);
        due("unpin() of the last", x.unpin(11), 188);
    }

    private static void countsOfRuns() {
        check.head("promise 39: 6 LETTERS in the longest RUN, 7 the RUN that is, the first; 8 unlike STYLES; 9 the most SPANS");
        StyledRuns x = Check.marked("a[b]bc[/b]d[i]ef[/i]gh");
        due("the longest", x.count(6), 2);
        due("the first of three", x.count(7), 1);
        due("RUNS", x.count(1), 5);
        due("unlike STYLES", x.count(8), 3);
        StyledRuns first = Check.marked("ab[b]c[/b]de");
        due("the first RUN", first.count(7), 0);
        StyledRuns last = Check.marked("ab[b]c[/b]def");
        due("the last RUN", last.count(7), 2);
        due("its LETTERS", last.count(6), 3);
        due("one LETTER", typed("a").count(6), 1);
        due("its RUN", typed("a").count(7), 0);
        due("its STYLES", typed("a").count(8), 1);
        StyledRuns y = typed("abc");
        due("no SPANS", y.count(9), 0);
        layOver(y, 0, 1);
        layOver(y, 1, 2);
        due("one over each", y.count(9), 1);
        layOver(y, 2, 3);
        layOver(y, 2, 3);
        due("two over the last", y.count(9), 2);
        y.lift(3);
        due("one again", y.count(9), 1);
        layOver(y, 0, 1);
        due("two over the first", y.count(9), 2);
    }

    /** Refused, then not, by each of the sixteen calls; other calls leave what is told. */
    private static void statusOfEach() {
        check.head("promise 40: What the latest call .. was REFUSED by; 0 if it was not");
        granted("type()", x -> Check.type(x, "x", 0));
        granted("cut()", x -> x.cut(0, 1));
        granted("swap()", x -> Check.swap(x, "x", 0, 1));
        granted("move()", x -> x.move(0, 1, 3));
        granted("lay()", x -> layOver(x, 0, 1));
        granted("lift()", x -> x.lift(0));
        granted("set()", x -> x.set(0, 0, 3));
        granted("stretch()", x -> x.stretch(0, 0, 1));
        granted("paint()", x -> x.paint(0, 1, 1, 0, NONE, 0));
        granted("pin()", x -> x.pin(0, 0));
        granted("unpin()", x -> x.unpin(0));
        granted("read()", x -> Check.read(x, "x"));
        granted("write()", StyledRuns::write);
        granted("undo()", StyledRuns::undo);
        granted("image()", x -> x.image(0));
        granted("back()", x -> x.back(0));
        check.head("promise 40: other calls are not among them");
        int[] grounds = {-1, -2, -4};
        for (int by : grounds) {
            StyledRuns x = refusedBy(by);
            x.fast();
            x.feed(0, 0, 0, 0, 0);
            x.end(0);
            x.end(-1);
            x.tape(-1);
            x.letter(-1);
            x.span(-1, 0);
            x.count(-1);
            x.find(-1);
            x.fault();
            x.raised(0, 0);
            due("status() stays", x.status(), by);
            due("status() of status()", x.status(), by);
        }
    }

    private static StyledRuns refusedBy(int by) {
        StyledRuns x = fiveActs();
        int got = by == -1 ? x.cut(0, 0) : by == -2 ? x.lift(9) : x.move(0, 1, 1);
        due("refused", got, by);
        due("status()", x.status(), by);
        return x;
    }

    private static void granted(String call, ToIntFunction<StyledRuns> act) {
        for (int by : new int[] {-1, -2, -4}) {
            StyledRuns x = refusedBy(by);
            int answer = act.applyAsInt(x);
            due(call + " answered " + answer, answer >= 0 ? 1 : 0, 1);
            due(call + ", status()", x.status(), 0);
            for (int k = 0; k < 5; k++) {
                due(call + ", count(" + (14 + k) + ")", x.count(14 + k), new int[] {-1, -2, -4, -5, -6}[k] == by ? 1 : 0);
            }
        }
    }
}
