import java.util.function.Supplier;
import java.util.function.ToIntFunction;

/**
 * Terms I: "REFUSED by .. The first of these in that order. What is REFUSED changes nothing but what is told of it."
 * Each call that can be refused, by each ground, with numbers that are too small or too large by one and at the ends
 * of int; and each call that answers NONE or Integer.MIN_VALUE: it is not refused, and leaves all as it was.
 */
public final class RefusedTest {
    private static final int NONE = StyledRuns.NONE;
    private static final int LOWEST = Integer.MIN_VALUE;
    private static final int HIGHEST = Integer.MAX_VALUE;
    private static final int[] GROUNDS = {-1, -2, -4, -5, -6};
    private static final Check check = new Check();

    /** rich() has eight LETTERS: no PLACES, and no pairs of PLACES with the first below the second. */
    private static final int[] NO_PLACES = {-1, 9, LOWEST, HIGHEST};
    private static final int[][] NO_RANGES = {
        {-1, 3}, {0, 9}, {3, 3}, {4, 3}, {0, 0}, {8, 8}, {8, 9}, {9, 10}, {-1, 0}, {-2, -1}, {8, 0}, {0, HIGHEST},
        {LOWEST, 3}, {LOWEST, HIGHEST}, {HIGHEST, LOWEST}, {LOWEST, LOWEST}, {HIGHEST, HIGHEST}, {HIGHEST, 3}};
    /** rich() has SPANS 0, 2, 3 and ANCHORS 0, 2. */
    private static final int[] NO_SPANS = {-1, 1, 4, 15, 16, LOWEST, HIGHEST};
    private static final int[] NO_ANCHORS = {-1, 1, 3, 11, 12, LOWEST, HIGHEST};

    public static void main(String[] args) {
        typeAndSwap();
        cutAndMove();
        lay();
        paint();
        pin();
        setAndStretch();
        numbersThatAreNotThere();
        images();
        fullTexts();
        fullSpans();
        fullAnchors();
        writeBeyond();
        nothingToUndo();
        unreadable();
        firstInOrder();
        tapeCallsThatAnswerNone();
        askedOfNothing();
        askedOfWhatStands();
        check.close();
    }

    /** Painted letters, spans and anchors of which some are gone, thirteen acts, image 0, a FAULT, a tape. */
    private static StyledRuns rich() {
        StyledRuns x = Check.marked("ab[b]cd[/b]e[c3][z7]fg[/z][/c]hij");
        x.image(0);
        x.lay(1, 4, 5, 1, 2, 3, 1, 1);
        x.lay(0, 10, 2, 4, 0, NONE, -2, 0);
        x.pin(3, 1);
        x.pin(5, 0);
        x.lift(1);
        x.unpin(1);
        x.lay(3, 9, 5, 2, 1, 0, 3, 3);
        x.lay(6, 8, 0, 8, 0, 6, 0, 2);
        x.pin(6, 0);
        x.cut(5, 7);
        x.paint(0, 2, 2, 0, 5, 1);
        Check.tape(x, "a[");
        x.read();
        x.set(2, 0, 6);
        Check.tape(x, "xy");
        return x;
    }

    private static StyledRuns richWith(String tape) {
        StyledRuns x = rich();
        Check.tape(x, tape);
        return x;
    }

    /** Refused by that, counted once as that, told by status(), and all else is as on a twin that was not asked. */
    private static void refused(Supplier<StyledRuns> maker, int by, String call, ToIntFunction<StyledRuns> act) {
        StyledRuns x = maker.get();
        StyledRuns twin = maker.get();
        check.due(call, act.applyAsInt(x), by);
        toldOnce(x, twin, by, call);
        check.due(call + ", fault()", x.fault(), twin.fault());
        check.due(call + " leaves", Seen.now(x), Seen.now(twin));
        check.due(call + " leaves kept", Seen.kept(x), Seen.kept(twin));
    }

    private static void refused(int by, String call, ToIntFunction<StyledRuns> act) {
        refused(RefusedTest::rich, by, call, act);
    }

    private static void toldOnce(StyledRuns x, StyledRuns twin, int by, String call) {
        check.due(call + ", status()", x.status(), by);
        for (int k = 0; k < GROUNDS.length; k++) {
            int more = GROUNDS[k] == by ? 1 : 0;
            check.due(call + ", refused by " + GROUNDS[k], x.count(14 + k), twin.count(14 + k) + more);
        }
    }

    /** Answers that, and is not told of as refused; all is as on a twin that was not asked. */
    private static void leaves(Supplier<StyledRuns> maker, int want, String call, ToIntFunction<StyledRuns> act) {
        StyledRuns x = maker.get();
        StyledRuns twin = maker.get();
        check.due(call, act.applyAsInt(x), want);
        check.due(call + ", fault()", x.fault(), twin.fault());
        check.due(call + " leaves", Seen.refusals(x), Seen.refusals(twin));
        check.due(call + " leaves", Seen.now(x), Seen.now(twin));
        check.due(call + " leaves kept", Seen.kept(x), Seen.kept(twin));
    }

    private static void leaves(int want, String call, ToIntFunction<StyledRuns> act) {
        leaves(RefusedTest::rich, want, call, act);
    }

    private static String named(String call, int... numbers) {
        StringBuilder out = new StringBuilder(call).append('(');
        for (int k = 0; k < numbers.length; k++) {
            out.append(k == 0 ? "" : ", ").append(numbers[k]);
        }
        return out.append(')').toString();
    }

    private static void typeAndSwap() {
        check.head("promises 5 and 7: -1 (PLACES; a byte that is none); -4 (the TAPE is empty)");
        for (int p : NO_PLACES) {
            refused(-1, named("type", p), x -> x.type(p));
        }
        for (int[] r : NO_RANGES) {
            refused(-1, named("swap", r), x -> x.swap(r[0], r[1]));
        }
        String[] tapes = {"[", "]", "x[", "]x", "x\037y", "\177", "x\200", "\377xy", "\0", "[b]x[/b]"};
        for (String tape : tapes) {
            refused(() -> richWith(tape), -1, "type() of bytes that are none", x -> x.type(8));
            refused(() -> richWith(tape), -1, "swap() of bytes that are none", x -> x.swap(0, 8));
        }
        refused(() -> richWith(""), -4, "type() of an empty TAPE", x -> x.type(0));
        refused(() -> richWith(""), -4, "type() of an empty TAPE at the end", x -> x.type(8));
        refused(() -> richWith(""), -4, "swap() of an empty TAPE", x -> x.swap(0, 1));
        refused(() -> richWith(""), -4, "swap() of all by an empty TAPE", x -> x.swap(0, 8));
    }

    private static void cutAndMove() {
        check.head("promises 6 and 8: -1 (PLACES, from not below to); -4 (at between from and to, both, too)");
        for (int[] r : NO_RANGES) {
            refused(-1, named("cut", r), x -> x.cut(r[0], r[1]));
            refused(-1, named("move", r[0], r[1], 6), x -> x.move(r[0], r[1], 6));
            refused(-1, named("move", r[0], r[1], r[0]), x -> x.move(r[0], r[1], r[0]));
        }
        for (int p : NO_PLACES) {
            refused(-1, named("move", 2, 4, p), x -> x.move(2, 4, p));
            refused(-1, named("move", 0, 8, p), x -> x.move(0, 8, p));
        }
        for (int at = 2; at <= 5; at++) {
            int place = at;
            refused(-4, named("move", 2, 5, place), x -> x.move(2, 5, place));
        }
        for (int at = 0; at <= 8; at++) {
            int place = at;
            refused(-4, named("move", 0, 8, place), x -> x.move(0, 8, place));
        }
        refused(-4, "move(0, 1, 0)", x -> x.move(0, 1, 0));
        refused(-4, "move(0, 1, 1)", x -> x.move(0, 1, 1));
        refused(-4, "move(7, 8, 7)", x -> x.move(7, 8, 7));
        refused(-4, "move(7, 8, 8)", x -> x.move(7, 8, 8));
    }

    /** What lay() takes, number by number: below and above it. */
    private static void lay() {
        check.head("promise 9: -1 (PLACES, from not below to; others)");
        for (int[] r : NO_RANGES) {
            refused(-1, named("lay", r), x -> x.lay(r[0], r[1], 0, 1, 0, NONE, 0, 0));
        }
        int[][] ends = {{-1, 10}, {-1, 16}, {-1, 16}, {-2, 8}, {-4, 4}, {-1, 4}};
        for (int k = 0; k < ends.length; k++) {
            for (int wrong : new int[] {ends[k][0], ends[k][1], LOWEST, HIGHEST}) {
                int[] a = {2, 4, 1, 1, 1, 1, 1, 1};
                a[2 + k] = wrong;
                refused(-1, named("lay", a), x -> x.lay(a[0], a[1], a[2], a[3], a[4], a[5], a[6], a[7]));
            }
        }
    }

    private static void paint() {
        check.head("promise 13: -1 (as lay(), but for LAYER, SIDES)");
        for (int[] r : NO_RANGES) {
            refused(-1, named("paint", r), x -> x.paint(r[0], r[1], 4, 0, NONE, 0));
        }
        int[][] ends = {{-1, 16}, {-1, 16}, {-2, 8}, {-4, 4}};
        for (int k = 0; k < ends.length; k++) {
            for (int wrong : new int[] {ends[k][0], ends[k][1], LOWEST, HIGHEST}) {
                int[] a = {2, 4, 4, 1, 1, 1};
                a[2 + k] = wrong;
                refused(-1, named("paint", a), x -> x.paint(a[0], a[1], a[2], a[3], a[4], a[5]));
            }
        }
    }

    private static void pin() {
        check.head("promise 15: -1");
        for (int p : NO_PLACES) {
            refused(-1, named("pin", p, 0), x -> x.pin(p, 0));
        }
        for (int lean : new int[] {-1, 2, LOWEST, HIGHEST}) {
            refused(-1, named("pin", 0, lean), x -> x.pin(0, lean));
        }
    }

    private static void setAndStretch() {
        check.head("promises 11 and 12: -1");
        for (int what : new int[] {-1, 2, LOWEST, HIGHEST}) {
            refused(-1, named("set", 0, what, 0), x -> x.set(0, what, 0));
        }
        for (int v : new int[] {-1, 10, LOWEST, HIGHEST}) {
            refused(-1, named("set", 0, 0, v), x -> x.set(0, 0, v));
        }
        for (int v : new int[] {-1, 4, LOWEST, HIGHEST}) {
            refused(-1, named("set", 0, 1, v), x -> x.set(0, 1, v));
        }
        for (int[] r : NO_RANGES) {
            refused(-1, named("stretch", 0, r[0], r[1]), x -> x.stretch(0, r[0], r[1]));
        }
    }

    private static void numbersThatAreNotThere() {
        check.head("promises 10, 11, 12 and 16: -2");
        for (int k : NO_SPANS) {
            refused(-2, named("lift", k), x -> x.lift(k));
            refused(-2, named("set", k, 0, 0), x -> x.set(k, 0, 0));
            refused(-2, named("set", k, 1, 3), x -> x.set(k, 1, 3));
            refused(-2, named("stretch", k, 0, 8), x -> x.stretch(k, 0, 8));
        }
        for (int k : NO_ANCHORS) {
            refused(-2, named("unpin", k), x -> x.unpin(k));
        }
        refused(StyledRuns::new, -2, "lift(0) of none", x -> x.lift(0));
        refused(StyledRuns::new, -2, "set(0, 0, 0) of none", x -> x.set(0, 0, 0));
        refused(StyledRuns::new, -2, "unpin(0) of none", x -> x.unpin(0));
        refused(() -> Check.typed("ab"), -2, "stretch(0, 0, 1) of none", x -> x.stretch(0, 0, 1));
        check.head("-2: SPANS that went by cut(), swap(), fast(), read(), undo(), back()");
        goneBy("cut()", x -> x.cut(2, 4));
        goneBy("fast()", StyledRuns::fast);
        goneBy("undo()", StyledRuns::undo);
        goneBy("back()", x -> x.back(0));
        goneBy("swap()", x -> typedOver(x, "z", 2, 4));
        goneBy("read()", x -> Check.read(x, "abcdef"));
    }

    /** SPAN 0 is over LETTERS 2 and 3 alone; whatever made it go, it is not there any more. */
    private static void goneBy(String way, ToIntFunction<StyledRuns> act) {
        Supplier<StyledRuns> maker = () -> {
            StyledRuns x = Check.typed("abcdef");
            x.image(0);
            x.lay(2, 4, 0, 1, 0, NONE, 0, 0);
            act.applyAsInt(x);
            return x;
        };
        check.due("gone by " + way, maker.get().count(2), 0);
        refused(maker, -2, "lift(0) behind " + way, x -> x.lift(0));
        refused(maker, -2, "set(0, 0, 1) behind " + way, x -> x.set(0, 0, 1));
        refused(maker, -2, "stretch(0, 0, 2) behind " + way, x -> x.stretch(0, 0, 2));
        leaves(maker, LOWEST, "span(0, 0) behind " + way, x -> x.span(0, 0));
        leaves(maker, NONE, "raised(0, 0) behind " + way, x -> x.raised(0, 0));
        leaves(maker, NONE, "best(0, 0) behind " + way, x -> x.best(0, 0));
    }

    /** By two swaps, since by one the new LETTERS lie under the SPAN. */
    private static int typedOver(StyledRuns x, String text, int from, int to) {
        Check.swap(x, text, from, to);
        return Check.swap(x, text, from, from + 1);
    }

    private static void images() {
        check.head("promises 21 and 22: -1; -2 (it was not kept)");
        for (int k : new int[] {-1, 2, LOWEST, HIGHEST}) {
            refused(-1, named("image", k), x -> x.image(k));
            refused(-1, named("back", k), x -> x.back(k));
        }
        refused(-2, "back(1)", x -> x.back(1));
        refused(StyledRuns::new, -2, "back(0) of a new object", x -> x.back(0));
        refused(StyledRuns::new, -2, "back(1) of a new object", x -> x.back(1));
        refused(() -> withImageOne("abc"), -2, "back(0), 1 is kept", x -> x.back(0));
    }

    private static StyledRuns withImageOne(String letters) {
        StyledRuns x = Check.typed(letters);
        x.image(1);
        return x;
    }

    private static StyledRuns fullWith(int letters, int bytes) {
        StyledRuns x = letters == 0 ? new StyledRuns() : Check.typed("a".repeat(letters));
        Check.tape(x, "x".repeat(bytes));
        return x;
    }

    private static void fullTexts() {
        check.head("promises 5 and 7: -5 (above 200 when they have come)");
        int[][] above = {{200, 1}, {199, 2}, {1, 200}, {200, 200}, {200, 400}, {100, 101}};
        for (int[] a : above) {
            Supplier<StyledRuns> maker = () -> fullWith(a[0], a[1]);
            refused(maker, -5, named("type() onto", a), x -> x.type(0));
            refused(maker, -5, named("type() behind", a), x -> x.type(a[0]));
            refused(maker, -5, named("swap() of one", a), x -> x.swap(0, 1));
            refused(maker, -5, named("swap() of all", a), x -> x.swap(0, a[0]));
        }
        refused(() -> fullWith(0, 201), -5, "type() of 201", x -> x.type(0));
        refused(() -> fullWith(0, 400), -5, "type() of 400", x -> x.type(0));
    }

    private static StyledRuns withSpans(int many) {
        StyledRuns x = Check.typed("abcdef");
        for (int k = 0; k < many; k++) {
            x.lay(k % 5, k % 5 + 1, k % 10, 1, 0, NONE, 0, 0);
        }
        return x;
    }

    private static StyledRuns withAnchors(int many) {
        StyledRuns x = Check.typed("abcdef");
        for (int k = 0; k < many; k++) {
            x.pin(k % 7, k % 2);
        }
        return x;
    }

    private static StyledRuns after(StyledRuns x, ToIntFunction<StyledRuns> act) {
        act.applyAsInt(x);
        return x;
    }

    private static void fullSpans() {
        check.head("promise 9: -5 (SPANS 0 .. 15; a number that is gone is not given again)");
        ToIntFunction<StyledRuns> more = x -> x.lay(0, 1, 0, 0, 0, NONE, 0, 0);
        refused(() -> withSpans(16), -5, "a 17th", more);
        refused(() -> after(withSpans(16), x -> x.lift(0)), -5, "a 17th, 0 was lifted", more);
        refused(() -> after(withSpans(16), x -> x.lift(15)), -5, "a 17th, 15 was lifted", more);
        refused(() -> after(withSpans(16), x -> x.cut(0, 5)), -5, "a 17th, all were cut", more);
        refused(() -> after(withSpans(16), StyledRuns::fast), -5, "a 17th, all went by fast()", more);
        leavesNothingRefused(withSpans(15), "a 16th", more, 15);
        leavesNothingRefused(after(withSpans(16), StyledRuns::undo), "a 16th again, 15 was undone", more, 15);
        leavesNothingRefused(after(withSpans(16), x -> Check.read(x, "ab")), "the first behind read()", more, 0);
    }

    private static void fullAnchors() {
        check.head("promise 15: -5 (ANCHORS 0 .. 11; a number that is gone is not given again)");
        ToIntFunction<StyledRuns> more = x -> x.pin(0, 0);
        refused(() -> withAnchors(12), -5, "a 13th", more);
        refused(() -> after(withAnchors(12), x -> x.unpin(0)), -5, "a 13th, 0 was unpinned", more);
        refused(() -> after(withAnchors(12), x -> x.unpin(11)), -5, "a 13th, 11 was unpinned", more);
        leavesNothingRefused(withAnchors(11), "a 12th", more, 11);
        leavesNothingRefused(after(withAnchors(12), StyledRuns::undo), "a 12th again, 11 was undone", more, 11);
        leavesNothingRefused(after(withAnchors(12), x -> Check.read(x, "ab")), "the first behind read()", more, 0);
    }

    private static void leavesNothingRefused(StyledRuns x, String call, ToIntFunction<StyledRuns> act, int want) {
        check.due(call, act.applyAsInt(x), want);
        check.due(call, Seen.refusals(x), "refused 0 0 0 0 0 0");
    }

    /** 199 letters and 201 bytes of marks: 400. */
    private static String fourHundred() {
        return "[b]x[/b]y".repeat(23) + "[c1]x[/c]y".repeat(5) + "z".repeat(143);
    }

    private static StyledRuns beyondFourHundred() {
        StyledRuns x = Check.marked(fourHundred());
        Check.tape(x, "z");
        x.type(199);
        Check.tape(x, "mn");
        return x;
    }

    private static StyledRuns farBeyond() {
        StyledRuns x = Check.typed("a".repeat(200));
        for (int i = 0; i < 200; i += 4) {
            x.paint(i, i + 1, 15, 0, 7, 3);
        }
        return x;
    }

    private static void writeBeyond() {
        check.head("promise 19: -5 (more than 400)");
        check.due("400 bytes", fourHundred().length(), 400);
        StyledRuns most = Check.marked(fourHundred());
        check.due("write() of 400", most.write(), 400);
        check.due("400 and status()", most.status(), 0);
        check.due("count(11) of 401", beyondFourHundred().count(11), 401);
        refused(RefusedTest::beyondFourHundred, -5, "write() of 401", StyledRuns::write);
        check.due("count(11) far beyond", farBeyond().count(11), 200 + 50 * 44);
        refused(RefusedTest::farBeyond, -5, "write() far beyond", StyledRuns::write);
    }

    private static void nothingToUndo() {
        check.head("promise 20: -4 there is none");
        refused(StyledRuns::new, -4, "undo() of a new object", StyledRuns::undo);
        refused(() -> after(Check.typed("ab"), StyledRuns::undo), -4, "undo() again", StyledRuns::undo);
        refused(() -> after(rich(), x -> x.back(0)), -4, "undo() behind back()", StyledRuns::undo);
        refused(() -> after(new StyledRuns(), x -> x.cut(0, 1)), -4, "undo() behind a refused call", StyledRuns::undo);
        refused(() -> after(new StyledRuns(), StyledRuns::write), -4, "undo() behind write()", StyledRuns::undo);
        refused(() -> after(new StyledRuns(), x -> x.image(0)), -4, "undo() behind image()", StyledRuns::undo);
    }

    /** The TAPE is empty then, and FAULT is told: all else stays. */
    private static void unreadable() {
        check.head("promise 17: -6");
        String[] texts = {"]", "a]", "\n", "[", "[b", "[b]", "[b]a", "[/b]", "[b]a[/i]", "[c8]a[/c]", "[q]", "a\377",
            "[b]".repeat(9), "a".repeat(201), "[/", "[]"};
        for (String text : texts) {
            StyledRuns x = richWith(text);
            StyledRuns twin = richWith("");
            check.due("read() of " + text, x.read(), -6);
            toldOnce(x, twin, -6, "read() of " + text);
            check.due("the TAPE of " + text, x.count(13), 0);
            check.due("read() of " + text + " leaves", Seen.now(x), Seen.now(twin));
            check.due("read() of " + text + " leaves kept", Seen.kept(x), Seen.kept(twin));
        }
    }

    private static void firstInOrder() {
        check.head("Terms I: the first of these in that order");
        refused(() -> richWith(""), -1, "type(9) of an empty TAPE, -1 ahead of -4", x -> x.type(9));
        refused(() -> richWith(""), -1, "swap(3, 3) of an empty TAPE, -1 ahead of -4", x -> x.swap(3, 3));
        Supplier<StyledRuns> full = () -> fullWith(200, 1);
        refused(full, -1, "type(201), full, -1 ahead of -5", x -> x.type(201));
        refused(full, -1, "swap(0, 201), full, -1 ahead of -5", x -> x.swap(0, 201));
        Supplier<StyledRuns> badAndFull = () -> after(fullWith(200, 0), x -> fedOne(x, ']'));
        refused(badAndFull, -1, "type() of no LETTER, full, -1 ahead of -5", x -> x.type(0));
        refused(badAndFull, -1, "swap() by no LETTER, full, -1 ahead of -5", x -> x.swap(0, 200));
        refused(() -> fullWith(200, 0), -4, "type() of an empty TAPE, full, -4", x -> x.type(0));
        refused(-1, "move(0, 9, 4), -1 ahead of -4", x -> x.move(0, 9, 4));
        refused(-1, "move(4, 4, 4), -1 ahead of -4", x -> x.move(4, 4, 4));
        refused(-1, "move(5, 3, 4), -1 ahead of -4", x -> x.move(5, 3, 4));
        refused(() -> withSpans(16), -1, "lay(), LAYER 10, -1 ahead of -5", x -> x.lay(0, 1, 10, 0, 0, NONE, 0, 0));
        refused(() -> withSpans(16), -1, "lay(), SIDES 4, -1 ahead of -5", x -> x.lay(0, 1, 0, 0, 0, NONE, 0, 4));
        refused(() -> withSpans(16), -1, "lay(1, 1), -1 ahead of -5", x -> x.lay(1, 1, 0, 0, 0, NONE, 0, 0));
        refused(() -> withAnchors(12), -1, "pin(7, 0), -1 ahead of -5", x -> x.pin(7, 0));
        refused(() -> withAnchors(12), -1, "pin(0, 2), -1 ahead of -5", x -> x.pin(0, 2));
        refused(-1, "set(1, 2, 0), -1 ahead of -2", x -> x.set(1, 2, 0));
        refused(-1, "set(1, 0, 10), -1 ahead of -2", x -> x.set(1, 0, 10));
        refused(-1, "set(16, 1, 4), -1 ahead of -2", x -> x.set(16, 1, 4));
        refused(-1, "stretch(1, 3, 3), -1 ahead of -2", x -> x.stretch(1, 3, 3));
        refused(-1, "stretch(-1, 0, 9), -1 ahead of -2", x -> x.stretch(-1, 0, 9));
        refused(StyledRuns::new, -1, "back(2) of a new object, -1 ahead of -2", x -> x.back(2));
    }

    private static int fedOne(StyledRuns x, char sign) {
        Check.tape(x, String.valueOf(sign));
        return x.count(13);
    }

    private static void tapeCallsThatAnswerNone() {
        check.head("promises 2 to 4: NONE is not REFUSED");
        for (int bytes = 381; bytes <= 400; bytes += 19) {
            int many = bytes;
            leaves(() -> fullWith(3, many), NONE, named("feed() behind", many), x -> x.feed(1, 2, 3, 4, 5));
        }
        for (int n : new int[] {-1, 3, LOWEST, HIGHEST}) {
            leaves(NONE, named("end", n), x -> x.end(n));
        }
        for (int i : new int[] {-1, 2, 399, 400, LOWEST, HIGHEST}) {
            leaves(NONE, named("tape", i), x -> x.tape(i));
        }
        leaves(StyledRuns::new, NONE, "end(1) of a new object", x -> x.end(1));
        leaves(StyledRuns::new, NONE, "tape(0) of a new object", x -> x.tape(0));
        leaves(StyledRuns::new, 0, "end(0) of a new object", x -> x.end(0));
    }

    private static void askedOfNothing() {
        check.head("promises 23 to 39: NONE, Integer.MIN_VALUE are not REFUSED");
        for (int i : new int[] {-1, 8, LOWEST, HIGHEST}) {
            leaves(NONE, named("letter", i), x -> x.letter(i));
            leaves(NONE, named("style", i, 6), x -> x.style(i, 6));
            leaves(NONE, named("run", i, 0), x -> x.run(i, 0));
            leaves(NONE, named("stack", i, 0), x -> x.stack(i, 0));
            leaves(NONE, named("tells", i, 0), x -> x.tells(i, 0));
            leaves(NONE, named("styled", i, 0, 0, NONE, 0), x -> x.styled(i, 0, 0, NONE, 0));
        }
        for (int p : NO_PLACES) {
            leaves(NONE, named("find", p), x -> x.find(p));
            leaves(NONE, named("findBy", p, 0, 0, NONE, 0, 9), x -> x.findBy(p, 0, 0, NONE, 0, 9));
            leaves(NONE, named("follow", p, 0, 0, 1), x -> x.follow(p, 0, 0, 1, true));
        }
        for (int k : NO_SPANS) {
            leaves(LOWEST, named("span", k, 0), x -> x.span(k, 0));
            leaves(NONE, named("raised", k, 0), x -> x.raised(k, 0));
            leaves(NONE, named("best", k, 0), x -> x.best(k, 0));
        }
        for (int k : NO_ANCHORS) {
            leaves(NONE, named("anchor", k, 0), x -> x.anchor(k, 0));
        }
        for (int what : new int[] {-1, 19, LOWEST, HIGHEST}) {
            leaves(NONE, named("count", what), x -> x.count(what));
        }
        leaves(NONE, "through(0, 0, 9)", x -> x.through(0, 0, 9));
        leaves(NONE, "through(11, 0, 8)", x -> x.through(11, 0, 8));
    }

    /** Questions that think of other layers, of spans away, of letters that come: all of them leave what stands. */
    private static void askedOfWhatStands() {
        check.head("promises 23 to 40: what is asked changes nothing");
        leaves(8, "count(0)", x -> x.count(0));
        leaves(0, "status()", StyledRuns::status);
        leaves(2, "fault()", StyledRuns::fault);
        leaves('x', "tape(0)", x -> x.tape(0));
        leaves(2, "end(2)", x -> x.end(2));
        leaves(NONE, "find(0)", x -> x.find(0));
        leaves(9, "follow(8, 0, 3, 1, true)", x -> x.follow(8, 0, 3, 1, true));
        leaves(7, "follow(8, 0, 3, 4, false)", x -> x.follow(8, 0, 3, 4, false));
        leaves(8, "through(10, 0, 8)", x -> x.through(10, 0, 8));
        for (int layer = 0; layer <= 9; layer++) {
            int to = layer;
            leaves(rich().raised(2, to), named("raised", 2, to), x -> x.raised(2, to));
        }
        leaves(rich().best(2, 0), "best(2, 0)", x -> x.best(2, 0));
        leaves(rich().span(2, 8), "span(2, 8)", x -> x.span(2, 8));
        leaves(rich().span(2, 9), "span(2, 9)", x -> x.span(2, 9));
        leaves(rich().idle(), "idle()", StyledRuns::idle);
        leaves(rich().crossed(), "crossed()", StyledRuns::crossed);
        leaves(rich().count(11), "count(11)", x -> x.count(11));
        leaves(rich().styled(0, 0, 0, NONE, 2), "styled()", x -> x.styled(0, 0, 0, NONE, 2));
        leaves(() -> richWith("bc"), 1, "find(0) of bc", x -> x.find(0));
        leaves(() -> richWith("bc"), 1, "findBy(0) of bc", x -> x.findBy(0, 0, 0, NONE, 0, 9));
    }
}
