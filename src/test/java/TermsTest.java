/** Terms I to III, sentence by sentence: each that names a boundary has a test of its own. */
public final class TermsTest {
    private static final int NONE = StyledRuns.NONE;
    private static final int LOWEST = Integer.MIN_VALUE;
    private static final Check check = new Check();

    public static void main(String[] args) {
        whichBytesAreLetters();
        lettersAndPlaces();
        stylesAtTheirEnds();
        spansAsTheyCome();
        spansLieOver();
        styleOfALetter();
        sizeAtEach();
        anchorsAsTheyCome();
        runsAreAsLongAsCanBe();
        lettersCome();
        newLettersHavePaint();
        lettersGo();
        anchorsAreLost();
        movedOn();
        movedBack();
        movedBeside();
        painted();
        fast();
        tells();
        idle();
        marksThatOpen();
        marksThatClose();
        eightOpen();
        faultOfBytes();
        faultOfMarks();
        faultOfTheLength();
        faultOfLettersBeyond();
        written();
        check.close();
    }

    private static void due(String call, long got, long want) {
        check.due(call, got, want);
    }

    private static void duePlaces(String call, StyledRuns x, int span, int from, int to) {
        due(call + ", FROM", x.span(span, 0), from);
        due(call + ", TO", x.span(span, 1), to);
    }

    private static int paintOf(StyledRuns x, int i) {
        return 100 * x.style(i, 3) + 10 * x.style(i, 4) + x.style(i, 5);
    }

    private static StyledRuns withTape(String letters, String tape) {
        StyledRuns x = letters.isEmpty() ? new StyledRuns() : Check.typed(letters);
        Check.tape(x, tape);
        return x;
    }

    private static StyledRuns typedAt(String letters, String more, int place) {
        StyledRuns x = withTape(letters, more);
        x.type(place);
        return x;
    }

    // ---- Terms I ----

    private static void whichBytesAreLetters() {
        check.head("I: LETTERS: bytes 32 .. 126 but [ and ]");
        for (int value = 0; value < 256; value++) {
            String text = String.valueOf((char) value);
            boolean isLetter = value >= 32 && value <= 126 && value != 91 && value != 93;
            StyledRuns typed = withTape("", text);
            due("type() of byte " + value, typed.type(0), isLetter ? 1 : -1);
            due("letter(0) of byte " + value, typed.letter(0), isLetter ? value : NONE);
            StyledRuns swapped = withTape("a", text);
            due("swap() by byte " + value, swapped.swap(0, 1), isLetter ? 1 : -1);
            due("letter(0) by byte " + value, swapped.letter(0), isLetter ? value : 'a');
            StyledRuns read = withTape("", text);
            due("read() of byte " + value, read.read(), isLetter ? 1 : -6);
            due("fault() of byte " + value, read.fault(), isLetter ? NONE : value == 91 ? 1 : 0);
        }
    }

    private static void lettersAndPlaces() {
        check.head("I: LETTERS, 200 at most, numbered from 0 on");
        StyledRuns full = withTape("", "ab".repeat(100));
        due("type() of 200", full.type(0), 200);
        due("letter(0)", full.letter(0), 'a');
        due("letter(199)", full.letter(199), 'b');
        due("letter(200)", full.letter(200), NONE);
        due("letter(-1)", full.letter(-1), NONE);
        check.head("I: PLACES 0 .. how many there are (PLACE p is ahead of LETTER p)");
        String[] due = {"Xabc", "aXbc", "abXc", "abcX"};
        for (int place = 0; place <= 3; place++) {
            check.due("type(" + place + ")", Check.lettersOf(typedAt("abc", "X", place)), due[place]);
            StyledRuns x = Check.typed("abc");
            due("pin(" + place + ", 0)", x.pin(place, 0), 0);
            due("its PLACE", x.anchor(0, 0), place);
        }
        due("PLACE 0 of none", new StyledRuns().pin(0, 1), 0);
        due("PLACE 1 of none", new StyledRuns().pin(1, 1), -1);
    }

    private static void stylesAtTheirEnds() {
        check.head("I: FLAGS 0 .. 15 (bits: 1 b, 2 i, 4 u, 8 s), COLOR 0 .. 7, SIZE 0 .. 9; PLAIN is 0, 0, 4");
        due("PLAIN", Check.typed("a").style(0, 6), 4);
        String[] marks = {"b", "i", "u", "s"};
        for (int k = 0; k < 4; k++) {
            StyledRuns x = Check.marked("[" + marks[k] + "]a[/" + marks[k] + "]");
            due("FLAGS of " + marks[k], x.style(0, 0), 1 << k);
        }
        for (int flags = 0; flags <= 15; flags++) {
            StyledRuns x = Check.typed("a");
            x.lay(0, 1, 0, flags, 0, NONE, 0, 0);
            due("ON " + flags, x.style(0, 6), 100 * flags + 4);
            StyledRuns y = Check.marked("[b][i][u][s]a[/s][/u][/i][/b]");
            y.lay(0, 1, 0, 0, flags, NONE, 0, 0);
            due("OFF " + flags, y.style(0, 6), 100 * (15 - flags) + 4);
        }
        for (int color = 0; color <= 7; color++) {
            StyledRuns x = Check.marked("[c5]a[/c]");
            x.lay(0, 1, 0, 0, 0, color, 0, 0);
            due("COLOR " + color, x.style(0, 6), 10 * color + 4);
        }
        for (int size = 0; size <= 9; size++) {
            due("SIZE " + size, Check.marked("[z" + size + "]a[/z]").style(0, 6), size);
        }
        for (int grows = -3; grows <= 3; grows++) {
            StyledRuns x = Check.typed("a");
            x.lay(0, 1, 0, 0, 0, NONE, grows, 0);
            due("GROWS " + grows, x.style(0, 6), 4 + grows);
        }
    }

    private static void spansAsTheyCome() {
        check.head("I: SPANS 0 .. 15, as they come (their numbers stay)");
        StyledRuns x = Check.typed("abcdefghijklmnopq");
        for (int k = 0; k < 16; k++) {
            due("lay() " + k, x.lay(k, k + 1, k % 10, 0, 0, NONE, 0, k % 4), k);
        }
        due("lift(0)", x.lift(0), 15);
        due("lift(7)", x.lift(7), 14);
        for (int k = 0; k < 16; k++) {
            due("FROM of " + k, x.span(k, 0), k == 0 || k == 7 ? LOWEST : k);
        }
        due("numbers given", x.count(4), 16);
        check.head("I: a number of a SPAN that is gone is not given again");
        StyledRuns y = Check.typed("abcdef");
        y.lay(0, 1, 0, 0, 0, NONE, 0, 0);
        y.lift(0);
        due("behind lift()", y.lay(1, 2, 0, 0, 0, NONE, 0, 0), 1);
        y.cut(1, 2);
        due("behind cut()", y.lay(1, 2, 0, 0, 0, NONE, 0, 0), 2);
        Check.tape(y, "X");
        y.swap(1, 2);
        due("by swap() it went", y.count(2), 0);
        due("behind swap()", y.lay(1, 2, 0, 0, 0, NONE, 0, 0), 3);
        y.fast();
        due("behind fast()", y.lay(1, 2, 0, 0, 0, NONE, 0, 0), 4);
        due("numbers given", y.count(4), 5);
        due("SPANS", y.count(2), 1);
    }

    private static void spansLieOver() {
        check.head("I: a SPAN lies over LETTERS FROM .. TO less 1");
        int[][] ranges = {{0, 1}, {2, 4}, {5, 6}, {0, 6}};
        for (int[] r : ranges) {
            StyledRuns x = Check.typed("abcdef");
            due("lay()", x.lay(r[0], r[1], 0, 1, 0, NONE, 0, 0), 0);
            duePlaces("lay()", x, 0, r[0], r[1]);
            for (int i = 0; i < 6; i++) {
                boolean over = r[0] <= i && i < r[1];
                due("style(" + i + ")", x.style(i, 0), over ? 1 : 0);
                due("stack(" + i + ")", x.stack(i, 0), over ? 0 : NONE);
            }
        }
    }

    private static void styleOfALetter() {
        check.head("I: by rising LAYERS, then numbers");
        StyledRuns x = Check.typed("a");
        x.lay(0, 1, 9, 0, 0, 1, 0, 0);
        due("LAYER 9", x.style(0, 1), 1);
        x.lay(0, 1, 0, 0, 0, 2, 0, 0);
        due("LAYER 0 is below it", x.style(0, 1), 1);
        x.lay(0, 1, 9, 0, 0, 3, 0, 0);
        due("of one LAYER the greater number", x.style(0, 1), 3);
        x.lay(0, 1, 8, 0, 0, 4, 0, 0);
        due("LAYER 8 is below it", x.style(0, 1), 3);
        due("the lowest of all", x.stack(0, 0), 1);
        due("LAYER 8", x.stack(0, 1), 3);
        due("LAYER 9, the lesser", x.stack(0, 2), 0);
        due("LAYER 9, the greater", x.stack(0, 3), 2);
        check.head("I: FLAGS with ON, without OFF (ON ahead of OFF)");
        StyledRuns y = Check.marked("[i]a[/i]");
        y.lay(0, 1, 0, 5, 6, NONE, 0, 0);
        due("ON 5, OFF 6 of 2", y.style(0, 0), 1);
        y.lay(0, 1, 0, 15, 15, NONE, 0, 0);
        due("ON 15, OFF 15", y.style(0, 0), 0);
        y.lay(0, 1, 0, 15, 0, NONE, 0, 0);
        due("the next ON 15", y.style(0, 0), 15);
        check.head("I: its COLOR, if it has one");
        StyledRuns z = Check.marked("[c6]a[/c]");
        z.lay(0, 1, 0, 0, 0, NONE, 0, 0);
        due("none", z.style(0, 1), 6);
        z.lay(0, 1, 0, 0, 0, 0, 0, 0);
        due("COLOR 0 is one", z.style(0, 1), 0);
    }

    private static void sizeAtEach() {
        check.head("I: SIZE more by GROWS, 0 .. 9, the nearest, at each");
        int[][] grows = {{3, 3, -3}, {-3, -3, 3}, {3, 2, -3}, {3, 2, 1}, {-3, -1, 2}, {-3, -2, 1}, {3, 3, 3}, {-3, -3, -3}};
        int[] sizes = {6, 3, 6, 9, 2, 1, 9, 0};
        for (int k = 0; k < grows.length; k++) {
            StyledRuns x = Check.typed("a");
            StyledRuns painted = Check.typed("a");
            for (int by : grows[k]) {
                x.lay(0, 1, 0, 0, 0, NONE, by, 0);
                painted.paint(0, 1, 0, 0, NONE, by);
            }
            due("SIZE by SPANS " + k, x.style(0, 2), sizes[k]);
            due("SIZE by paint() " + k, painted.style(0, 5), sizes[k]);
        }
    }

    private static void anchorsAsTheyCome() {
        check.head("I: ANCHORS 0 .. 11, as they come (their numbers stay): a PLACE, a LEAN 0, 1");
        StyledRuns x = Check.typed("abcdefghijk");
        for (int k = 0; k < 12; k++) {
            due("pin() " + k, x.pin(k, k % 2), k);
        }
        due("unpin(0)", x.unpin(0), 0);
        due("unpin(5)", x.unpin(5), 5);
        for (int k = 0; k < 12; k++) {
            boolean gone = k == 0 || k == 5;
            due("PLACE of " + k, x.anchor(k, 0), gone ? NONE : k);
            due("LEAN of " + k, x.anchor(k, 1), gone ? NONE : k % 2);
        }
        check.head("I: a number of an ANCHOR that is gone is not given again");
        StyledRuns y = Check.typed("ab");
        y.pin(0, 0);
        y.unpin(0);
        due("behind unpin()", y.pin(1, 0), 1);
        y.cut(0, 2);
        due("ANCHORS stay when LETTERS go", y.count(3), 1);
        due("the next", y.pin(0, 0), 2);
    }

    private static void runsAreAsLongAsCanBe() {
        check.head("I: RUNS: LETTERS side by side of like STYLE, as many as can be each, from the left");
        due("without LETTERS", new StyledRuns().count(1), 0);
        due("one LETTER", Check.typed("a").count(1), 1);
        due("200 LETTERS alike", Check.typed("a".repeat(200)).count(1), 1);
        due("unlike by a FLAG", Check.marked("a[s]b[/s]").count(1), 2);
        due("unlike by COLOR", Check.marked("a[c1]b[/c]").count(1), 2);
        due("unlike by SIZE", Check.marked("a[z5]b[/z]").count(1), 2);
        due("alike beyond another", Check.marked("a[b]b[/b]c").count(1), 3);
        StyledRuns x = Check.marked("[b]ab[/b]cd");
        x.lay(2, 3, 0, 1, 0, NONE, 0, 0);
        due("alike by PAINT and by a SPAN", x.run(0, 1), 3);
        StyledRuns each = Check.typed("a".repeat(200));
        for (int i = 0; i < 200; i += 2) {
            each.paint(i, i + 1, 1, 0, NONE, 0);
        }
        due("each LETTER a RUN", each.count(1), 200);
        due("the last RUN", each.run(199, 0), 199);
        due("none behind it", each.run(200, 0), NONE);
    }

    // ---- Terms II: letters that come ----

    /** Two letters come at PLACE 3 of six: what is ahead of it, at it, behind it, by each side and lean. */
    private static void lettersCome() {
        check.head("II: FROM, TO at p: it goes on, too, if its bit of SIDES is 1 (0: it stays)");
        for (int sides = 0; sides < 4; sides++) {
            StyledRuns x = Check.typed("abcdef");
            for (int[] r : new int[][] {{2, 4}, {3, 6}, {4, 5}, {0, 2}, {1, 3}}) {
                x.lay(r[0], r[1], 0, 1, 0, NONE, 0, sides);
            }
            Check.tape(x, "XY");
            due("type(3)", x.type(3), 8);
            String name = "sides " + sides;
            duePlaces(name + " about it", x, 0, 2, 6);
            duePlaces(name + " FROM at it", x, 1, sides % 2 == 1 ? 5 : 3, 8);
            duePlaces(name + " behind it", x, 2, 6, 7);
            duePlaces(name + " ahead of it", x, 3, 0, 2);
            duePlaces(name + " TO at it", x, 4, 1, sides >= 2 ? 5 : 3);
        }
        check.head("II: FROM at PLACE 0, TO at the last PLACE");
        for (int sides = 0; sides < 4; sides++) {
            StyledRuns x = Check.typed("abc");
            x.lay(0, 3, 0, 1, 0, NONE, 0, sides);
            Check.type(x, "X", 0);
            duePlaces("sides " + sides + ", at 0", x, 0, sides % 2, 4);
            Check.type(x, "Y", 4);
            duePlaces("sides " + sides + ", at the end", x, 0, sides % 2, sides >= 2 ? 5 : 4);
        }
        check.head("II: an ANCHOR at p goes on if its LEAN is 1");
        for (int lean = 0; lean < 2; lean++) {
            StyledRuns x = Check.typed("abcdef");
            for (int place = 0; place <= 6; place++) {
                x.pin(place, lean);
            }
            Check.type(x, "XY", 3);
            int[] due = {0, 1, 2, 3 + 2 * lean, 6, 7, 8};
            for (int k = 0; k < due.length; k++) {
                due("PLACE " + k + ", lean " + lean, x.anchor(k, 0), due[k]);
                due("LOST " + k, x.anchor(k, 2), 0);
            }
        }
    }

    private static void newLettersHavePaint() {
        check.head("II: New LETTERS have the PAINT of the LETTER ahead of p, PLAIN without one");
        StyledRuns x = Check.marked("[b][c2][z9]a[/z][/c][/b][i]b[/i]");
        Check.type(x, "XY", 0);
        due("at 0, PLAIN", paintOf(x, 0), 4);
        due("at 0, the second", paintOf(x, 1), 4);
        due("what was there", paintOf(x, 2), 129);
        Check.type(x, "XY", 3);
        due("behind the painted one", paintOf(x, 3), 129);
        due("the second", paintOf(x, 4), 129);
        due("what was behind", paintOf(x, 5), 204);
        Check.type(x, "X", 6);
        due("at the end", paintOf(x, 6), 204);
        StyledRuns y = Check.typed("ab");
        y.lay(0, 1, 0, 1, 0, 3, 1, 0);
        Check.type(y, "X", 1);
        due("PAINT, not STYLE", y.style(1, 6), 4);
        StyledRuns z = Check.marked("[u]a[/u]b");
        Check.type(z, "X", 1);
        due("at 1, of LETTER 0", paintOf(z, 1), 404);
        due("what was at 1", paintOf(z, 2), 4);
        due("onto a text that was emptied", emptiedAndTyped().style(0, 6), 4);
    }

    private static StyledRuns emptiedAndTyped() {
        StyledRuns x = Check.marked("[b]ab[/b]");
        x.cut(0, 2);
        Check.type(x, "c", 0);
        return x;
    }

    // ---- Terms II: letters that go ----

    private static void lettersGo() {
        check.head("II: FROM, TO between (p to q) is p; a SPAN over no LETTER any more goes");
        int[][] laid = {
            {3, 5}, {3, 4}, {4, 5}, {2, 5}, {3, 6}, {2, 4}, {4, 6}, {0, 8}, {0, 3}, {5, 8}, {2, 3}, {5, 6}};
        int[][] due = {
            {LOWEST, LOWEST}, {LOWEST, LOWEST}, {LOWEST, LOWEST}, {2, 3}, {3, 4}, {2, 3}, {3, 4}, {0, 6}, {0, 3}, {3, 6},
            {2, 3}, {3, 4}};
        for (int sides = 0; sides < 4; sides++) {
            StyledRuns x = Check.typed("abcdefgh");
            for (int[] r : laid) {
                x.lay(r[0], r[1], 0, 1, 0, NONE, 0, sides);
            }
            due("cut(3, 5)", x.cut(3, 5), 6);
            for (int k = 0; k < due.length; k++) {
                duePlaces("SPAN " + laid[k][0] + " .. " + laid[k][1], x, k, due[k][0], due[k][1]);
            }
            due("SPANS", x.count(2), 9);
        }
        check.head("II: LETTERS go at the ends");
        StyledRuns x = Check.typed("abcd");
        x.lay(0, 1, 0, 1, 0, NONE, 0, 0);
        x.lay(3, 4, 0, 1, 0, NONE, 0, 0);
        x.lay(0, 4, 0, 1, 0, NONE, 0, 0);
        due("cut(0, 1)", x.cut(0, 1), 3);
        due("cut(2, 3)", x.cut(2, 3), 2);
        check.due("letters", Check.lettersOf(x), "bc");
        due("SPANS", x.count(2), 1);
        duePlaces("over all", x, 2, 0, 2);
        due("cut(0, 2)", x.cut(0, 2), 0);
        due("SPANS", x.count(2), 0);
    }

    private static void anchorsAreLost() {
        check.head("II: Of ANCHORS with p below their PLACE below q LOST is 1 more");
        StyledRuns x = Check.typed("abcdefgh");
        for (int place = 1; place <= 7; place++) {
            x.pin(place, place % 2);
        }
        due("cut(3, 6)", x.cut(3, 6), 5);
        int[] places = {1, 2, 3, 3, 3, 3, 4};
        int[] lost = {0, 0, 0, 1, 1, 0, 0};
        for (int k = 0; k < places.length; k++) {
            due("PLACE of " + k, x.anchor(k, 0), places[k]);
            due("LOST of " + k, x.anchor(k, 2), lost[k]);
        }
        due("cut(3, 4): none between", x.cut(3, 4), 4);
        due("LOST of all", x.count(10), 2);
        due("cut(2, 4)", x.cut(2, 4), 2);
        int[] again = {0, 0, 1, 2, 2, 1, 1};
        for (int k = 0; k < again.length; k++) {
            due("LOST again of " + k, x.anchor(k, 2), again[k]);
        }
        due("cut(0, 2)", x.cut(0, 2), 0);
        due("LOST of the one between", x.anchor(0, 2), 1);
        due("of the one at q", x.anchor(1, 2), 0);
    }

    // ---- Terms II: letters that are moved ----

    /** LETTERS 3 and 4 of ten are moved behind LETTER 7: abcfgh de ij. */
    private static void movedOn() {
        check.head("II: MOVED to a PLACE r behind them");
        int[][] laid = {{3, 5}, {3, 4}, {4, 5}, {2, 5}, {3, 6}, {4, 6}, {2, 4}, {0, 10}, {5, 8}, {8, 9}};
        for (int sides = 0; sides < 4; sides++) {
            int at = sides % 2 == 1 ? 8 : 6;
            int[][] due = {
                {6, 8}, {6, 7}, {7, 8}, {2, 3}, {3, 4}, {3, 4}, {2, 3}, {0, 10}, {3, sides >= 2 ? 8 : 6}, {at, 9}};
            StyledRuns x = Check.typed("abcdefghij");
            for (int[] r : laid) {
                x.lay(r[0], r[1], 0, 1, 0, NONE, 0, sides);
            }
            due("move(3, 5, 8)", x.move(3, 5, 8), 3);
            check.due("letters", Check.lettersOf(x), "abcfghdeij");
            for (int k = 0; k < due.length; k++) {
                duePlaces("sides " + sides + ", SPAN " + laid[k][0] + " .. " + laid[k][1], x, k, due[k][0], due[k][1]);
            }
        }
        check.head("II: ANCHORS with p below their PLACE below q go with them; none is LOST");
        for (int lean = 0; lean < 2; lean++) {
            StyledRuns x = Check.typed("abcdefghij");
            int[] pins = {6, 2, 3, 4, 5, 7, 8, 9};
            int[] due = {4, 2, 3, 7, 3, 5, 6 + 2 * lean, 9};
            anchorsMoved(x, pins, due, lean, 3, 5, 8);
        }
    }

    private static void anchorsMoved(StyledRuns x, int[] pins, int[] due, int lean, int from, int to, int at) {
        for (int place : pins) {
            x.pin(place, lean);
        }
        due("move(" + from + ", " + to + ", " + at + ")", x.move(from, to, at), 0);
        for (int k = 0; k < pins.length; k++) {
            due("lean " + lean + ", PLACE " + pins[k], x.anchor(k, 0), due[k]);
            due("LOST of PLACE " + pins[k], x.anchor(k, 2), 0);
        }
        due("LOST of all", x.count(10), 0);
    }

    /** LETTERS 5 to 7 of ten are moved ahead of LETTER 2: ab fgh cde ij. */
    private static void movedBack() {
        check.head("II: MOVED to a PLACE r ahead of them");
        int[][] laid = {{5, 8}, {6, 7}, {4, 8}, {5, 9}, {4, 6}, {7, 9}, {0, 2}, {2, 5}, {2, 3}, {8, 10}};
        for (int sides = 0; sides < 4; sides++) {
            int on = sides % 2 == 1 ? 5 : 2;
            int[][] due = {
                {2, 5}, {3, 4}, {7, 8}, {8, 9}, {7, 8}, {8, 9}, {0, sides >= 2 ? 5 : 2}, {on, 8}, {on, 6}, {8, 10}};
            StyledRuns x = Check.typed("abcdefghij");
            for (int[] r : laid) {
                x.lay(r[0], r[1], 0, 1, 0, NONE, 0, sides);
            }
            due("move(5, 8, 2)", x.move(5, 8, 2), 2);
            check.due("letters", Check.lettersOf(x), "abfghcdeij");
            for (int k = 0; k < due.length; k++) {
                duePlaces("sides " + sides + ", SPAN " + laid[k][0] + " .. " + laid[k][1], x, k, due[k][0], due[k][1]);
            }
        }
        for (int lean = 0; lean < 2; lean++) {
            StyledRuns x = Check.typed("abcdefghij");
            int[] pins = {1, 2, 3, 5, 6, 7, 8, 9};
            int[] due = {1, 2 + 3 * lean, 6, 8, 3, 4, 8, 9};
            anchorsMoved(x, pins, due, lean, 5, 8, 2);
        }
    }

    private static void movedBeside() {
        check.head("II: MOVED by one LETTER, to the ends, with their PAINT");
        StyledRuns x = Check.marked("[b]a[/b]bc[c3]d[/c]");
        due("move(0, 1, 2)", x.move(0, 1, 2), 0);
        check.due("letters", Check.lettersOf(x), "bacd");
        due("its PAINT", paintOf(x, 1), 104);
        due("of the other", paintOf(x, 0), 4);
        due("move(1, 2, 0)", x.move(1, 2, 0), 0);
        check.due("letters", Check.lettersOf(x), "abcd");
        due("move(3, 4, 0)", x.move(3, 4, 0), 0);
        check.due("letters", Check.lettersOf(x), "dabc");
        due("PAINT at 0", paintOf(x, 0), 34);
        due("PAINT at 1", paintOf(x, 1), 104);
        due("move(0, 3, 4)", x.move(0, 3, 4), 0);
        check.due("letters", Check.lettersOf(x), "cdab");
        due("PAINT at 1", paintOf(x, 1), 34);
        due("PAINT at 3", paintOf(x, 3), 4);
        StyledRuns full = Check.typed("a".repeat(199) + "z");
        due("move() of 200", full.move(199, 200, 0), 0);
        due("LETTERS", full.count(0), 200);
        due("letter(0)", full.letter(0), 'z');
        due("letter(199)", full.letter(199), 'a');
    }

    // ---- Terms II: painted, fast, what tells ----

    private static void painted() {
        check.head("II: PAINTED: the PAINT of LETTERS p .. q less 1 is what a SPAN would make of it");
        StyledRuns x = Check.marked("a[i][z8]bcd[/z][/i]e");
        due("paint(1, 3)", x.paint(1, 3, 5, 6, 3, 3), 2);
        int[] due = {4, 139, 139, 208, 4};
        for (int i = 0; i < due.length; i++) {
            due("PAINT of " + i, paintOf(x, i), due[i]);
        }
        StyledRuns y = Check.marked("a[i][z8]bcd[/z][/i]e");
        y.lay(1, 3, 0, 5, 6, 3, 3, 0);
        for (int i = 0; i < due.length; i++) {
            due("STYLE by a SPAN, " + i, y.style(i, 6), due[i]);
        }
    }

    private static void fast() {
        check.head("II: FAST: the PAINT of all is their STYLE, all SPANS go");
        StyledRuns x = Check.marked("[c7]a[/c]bc");
        x.lay(0, 1, 3, 1, 0, NONE, -3, 0);
        x.lay(2, 3, 4, 0, 0, 2, 3, 0);
        x.lay(2, 3, 9, 15, 0, NONE, 3, 0);
        due("fast()", x.fast(), 3);
        int[] due = {171, 4, 1529};
        for (int i = 0; i < due.length; i++) {
            due("PAINT of " + i, paintOf(x, i), due[i]);
            due("STYLE of " + i, x.style(i, 6), due[i]);
        }
        due("SPANS", x.count(2), 0);
        due("over a LETTER", x.stack(2, 0), NONE);
        due("tells()", x.tells(2, 0), NONE);
        due("fast() without LETTERS", new StyledRuns().fast(), 0);
    }

    private static void tells() {
        check.head("II: TELLS: that has a COLOR (GROWS not 0; has f in ON or OFF), the last over it");
        StyledRuns x = Check.marked("[z9][c4][b]a[/b][/c][/z]b");
        x.lay(0, 1, 1, 0, 0, 4, 0, 0);
        due("a COLOR that is as it was", x.tells(0, 0), 0);
        x.lay(0, 1, 1, 0, 0, NONE, 3, 0);
        due("GROWS beyond SIZE 9", x.tells(0, 1), 1);
        x.lay(0, 1, 1, 1, 0, NONE, 0, 0);
        due("a FLAG that is on", x.tells(0, 2), 2);
        x.lay(0, 1, 1, 0, 8, NONE, 0, 0);
        due("a FLAG that is off", x.tells(0, 5), 3);
        x.lay(0, 1, 0, 15, 0, 5, 1, 0);
        int[] due = {0, 1, 2, 4, 4, 3};
        for (int what = 0; what < due.length; what++) {
            due("a lower LAYER is not the last, " + what, x.tells(0, what), due[what]);
        }
        x.lay(0, 1, 9, 0, 0, NONE, 0, 0);
        for (int what = 0; what < due.length; what++) {
            due("one that tells nothing, " + what, x.tells(0, what), due[what]);
            due("over another LETTER, " + what, x.tells(1, what), NONE);
        }
        x.lay(0, 1, 1, 6, 6, 0, -1, 0);
        int[] last = {6, 6, 2, 6, 6, 3};
        for (int what = 0; what < last.length; what++) {
            due("the greater number of a LAYER, " + what, x.tells(0, what), last[what]);
        }
        due("PAINT does", Check.marked("[c4]a[/c]").tells(0, 0), NONE);
    }

    private static void idle() {
        check.head("II: IDLE: a SPAN without which the STYLE of each LETTER is as it is");
        StyledRuns x = Check.marked("[z9]a[/z]b[z0]c[/z]");
        x.lay(0, 1, 0, 0, 0, NONE, 3, 0);
        x.lay(2, 3, 0, 0, 0, NONE, -1, 0);
        x.lay(0, 3, 0, 0, 15, 0, 0, 0);
        due("SIZE stays at 9, at 0; all as it is", x.idle(), 7);
        x.lay(1, 2, 0, 1, 0, NONE, 0, 0);
        due("one that makes a LETTER another", x.idle(), 7);
        x.lay(0, 3, 1, 0, 1, NONE, 0, 0);
        due("made as it was by a higher one", x.idle(), 15);
        x.lay(0, 2, 0, 0, 0, NONE, 1, 0);
        due("one of two LETTERS another", x.idle(), 15);
        due("span(5, 8)", x.span(5, 8), 0);
        due("span(4, 8)", x.span(4, 8), 0);
        due("span(3, 8)", x.span(3, 8), 1);
        StyledRuns ends = Check.typed("abc");
        ends.paint(1, 3, 1, 0, NONE, 0);
        ends.lay(0, 3, 0, 1, 0, NONE, 0, 0);
        due("LETTER 0 alone another", ends.idle(), 0);
        ends.paint(0, 2, 1, 0, NONE, 0);
        ends.paint(2, 3, 0, 1, NONE, 0);
        due("the last alone another", ends.idle(), 0);
        ends.paint(2, 3, 1, 0, NONE, 0);
        due("none another", ends.idle(), 1);
    }

    // ---- Terms III: marks ----

    private static void marksThatOpen() {
        check.head("III: w is b, i, u, s, or c and a digit 0 .. 7, or z and a digit 0 .. 9");
        for (int value = 0; value < 256; value++) {
            char w = (char) value;
            boolean isFlag = "bius".indexOf(w) >= 0;
            StyledRuns x = withTape("", "[" + w + "]a[/" + w + "]");
            due("read() of w " + value, x.read(), isFlag ? 1 : -6);
            due("fault() of w " + value, x.fault(), isFlag ? NONE : "cz/".indexOf(w) >= 0 ? 2 : 1);
            StyledRuns color = withTape("", "[c" + w + "]a[/c]");
            boolean isColor = w >= '0' && w <= '7';
            due("read() of c " + value, color.read(), isColor ? 1 : -6);
            due("fault() of c " + value, color.fault(), isColor ? NONE : 2);
            due("COLOR of c " + value, color.style(0, 1), isColor ? w - '0' : NONE);
            StyledRuns size = withTape("", "[z" + w + "]a[/z]");
            boolean isSize = w >= '0' && w <= '9';
            due("read() of z " + value, size.read(), isSize ? 1 : -6);
            due("fault() of z " + value, size.fault(), isSize ? NONE : 2);
            due("SIZE of z " + value, size.style(0, 2), isSize ? w - '0' : NONE);
        }
        check.head("III: the PAINT: by all marks that are open, the eldest first");
        due("the later COLOR", Check.marked("[c7][c0]a[/c][/c]").style(0, 1), 0);
        due("the later SIZE", Check.marked("[z0][z9]a[/z][/z]").style(0, 2), 9);
        StyledRuns x = Check.marked("[c7][c2]a[/c]b[/c]c");
        due("of both", x.style(0, 1), 2);
        due("of the elder", x.style(1, 1), 7);
        due("of none", x.style(2, 1), 0);
        due("a FLAG twice", Check.marked("[b][b]a[/b]b[/b]").count(1), 1);
    }

    private static void marksThatClose() {
        check.head("III: [ / w ] closes the latest that is open, which must be of that w (closed as [/c], [/z])");
        String[] opens = {"b", "i", "u", "s", "c7", "z0"};
        String[] closes = {"b", "i", "u", "s", "c", "z"};
        for (int k = 0; k < opens.length; k++) {
            for (int j = 0; j < closes.length; j++) {
                StyledRuns x = withTape("", "[" + opens[k] + "]a[/" + closes[j] + "]");
                due("[" + opens[k] + "] by [/" + closes[j] + "]", x.read(), k == j ? 1 : -6);
                due("its fault()", x.fault(), k == j ? NONE : opens[k].length() + 3);
            }
        }
        String[] texts = {"[c1]a[/c1]", "[z9]a[/z9]", "[b][i]a[/b][/i]", "[c1][c2]a[/c][/c][/c]", "[b]a[/b ]", "[b]a[ /b]",
            "[b]a[/ b]"};
        int[] faults = {8, 8, 7, 17, 7, 5, 6};
        for (int k = 0; k < texts.length; k++) {
            StyledRuns x = withTape("", texts[k]);
            due("read() of " + texts[k], x.read(), -6);
            due("fault() of " + texts[k], x.fault(), faults[k]);
        }
    }

    private static void eightOpen() {
        check.head("III: 8 open at once at most");
        String[] opens = {"[b]", "[i]", "[u]", "[s]", "[c1]", "[z1]", "[c2]", "[z2]"};
        String all = String.join("", opens);
        String closed = "[/z][/c][/z][/c][/s][/u][/i][/b]";
        StyledRuns x = Check.marked(all + "a" + closed);
        due("8 open", x.style(0, 6), 1522);
        due("its fault()", x.fault(), NONE);
        StyledRuns nine = withTape("", all + "[b]a[/b]" + closed);
        due("9 open", nine.read(), -6);
        due("its [", nine.fault(), all.length());
        StyledRuns again = withTape("", all + "[/z]a[z3]b[/z]" + closed.substring(4));
        due("8 open, again", again.read(), 2);
        StyledRuns many = withTape("", "[b][/b]".repeat(9) + "a");
        due("9, one behind the other", many.read(), 1);
        StyledRuns ninth = withTape("", all + "[/z][z3][i]");
        due("8 again, then a 9th", ninth.read(), -6);
        due("its [", ninth.fault(), all.length() + 8);
    }

    // ---- Terms III: FAULT ----

    private static void faultOf(String text, int want) {
        StyledRuns x = withTape("", text);
        due("read() of " + text, x.read(), -6);
        due("fault() of " + text, x.fault(), want);
        due("the TAPE behind " + text, x.count(13), 0);
    }

    private static void faultOfBytes() {
        check.head("III: FAULT: the place of the first byte that can't stand there");
        faultOf("]", 0);
        faultOf("ab]", 2);
        faultOf("a\nb]", 1);
        faultOf("[b]\177[/b]", 3);
        faultOf("[]", 1);
        faultOf("[[b]", 1);
        faultOf("[ b]", 1);
        faultOf("[b ]", 2);
        faultOf("[b[", 2);
        faultOf("[bi]", 2);
        faultOf("[c]a[/c]", 2);
        faultOf("[c12]a", 3);
        faultOf("[c1 ]a", 3);
        faultOf("[z10]a", 3);
        faultOf("[B]", 1);
        faultOf("[/]", 2);
        faultOf("[//b]", 2);
        faultOf("[b]a[/b1]", 7);
        faultOf("[b]a[/B]", 6);
        faultOf("]" + "a".repeat(399), 0);
        faultOf("a".repeat(199) + "]" + "a".repeat(200), 199);
        check.head("III: FAULT, the first of several");
        faultOf("a][/b]", 1);
        faultOf("[/b]]", 0);
        faultOf("[b][/i]]", 3);
    }

    private static void faultOfMarks() {
        check.head("III: FAULT: of a mark's [, if it closes none, another one, opens a 9th one");
        faultOf("[/b]", 0);
        faultOf("ab[/z]", 2);
        faultOf("[b]a[/b][/b]", 8);
        faultOf("[b]a[/i]", 4);
        faultOf("[c1][z1]a[/c][/z]", 9);
        faultOf("[i]".repeat(9), 24);
        faultOf("a" + "[i]".repeat(8) + "b[c1]", 26);
        check.head("III: FAULT of a mark's bytes is ahead of its end");
        faultOf("[i]".repeat(8) + "[q]", 25);
        faultOf("[i]".repeat(8) + "[ix", 26);
        faultOf("[/bx", 3);
        faultOf("[i]a[/bx", 7);
    }

    private static void faultOfTheLength() {
        check.head("III: FAULT: the length, if it ends too soon");
        String[] soon = {"[", "[b", "[c", "[c1", "[z9", "[/", "[/b", "[b]a[", "[b]a[/", "[b]a[/b", "ab[", "a".repeat(200) + "["};
        for (String text : soon) {
            faultOf(text, text.length());
        }
        check.head("III: FAULT: the length, if marks are open");
        String[] open = {"[b]", "[b]a", "[b][i]a[/i]", "a[c1]", "[i]".repeat(8), "a".repeat(200) + "[b]", "[b]" + "a".repeat(200)};
        for (String text : open) {
            faultOf(text, text.length());
        }
        faultOf("[b]" + "[i][/i]".repeat(56) + "abcde", 400);
    }

    private static void faultOfLettersBeyond() {
        check.head("III: FAULT: of a LETTER beyond 200");
        faultOf("a".repeat(201), 200);
        faultOf("a".repeat(400), 200);
        faultOf("[b]" + "a".repeat(200) + "[/b]c", 207);
        faultOf("[b]" + "a".repeat(201), 203);
        StyledRuns x = withTape("", "[b]" + "a".repeat(200) + "[/b][i][/i]");
        due("200 and marks", x.read(), 200);
        due("its fault()", x.fault(), NONE);
    }

    // ---- Terms III: WRITTEN ----

    private static void writtenAs(String text, String want) {
        StyledRuns x = Check.marked(text);
        due("write() of " + text, x.write(), want.length());
        check.due("written", Check.tapeOf(x), want);
    }

    private static void written() {
        check.head("III: WRITTEN: b, i, u, s, c (COLOR not 0), z (SIZE not 4) in that order");
        writtenAs("", "");
        writtenAs("[z0][c7][s][u][i][b]a[/b][/i][/u][/s][/c][/z]", "[b][i][u][s][c7][z0]a[/z][/c][/s][/u][/i][/b]");
        writtenAs("[c1]a[c0]b[/c][/c]", "[c1]a[/c]b");
        writtenAs("[z5]a[z4]b[/z][/z]", "[z5]a[/z]b");
        writtenAs("[z3]a[/z][z5]b[/z]", "[z3]a[/z][z5]b[/z]");
        check.head("III: closed, the latest first, till none that is open is one that the RUN has not");
        writtenAs("[b][i]a[/i][/b][i]b[/i]", "[b][i]a[/i][/b][i]b[/i]");
        writtenAs("[b][i]a[/i]b[/b]", "[b][i]a[/i]b[/b]");
        writtenAs("[i]a[/i][b][i]b[/i][/b]", "[i]a[b]b[/b][/i]");
        writtenAs("[b][c1]a[/c][c2]b[/c][/b]", "[b][c1]a[/c][c2]b[/c][/b]");
        writtenAs("[c1][z1]a[/z][/c][c2][z1]b[/z][/c]", "[c1][z1]a[/z][/c][c2][z1]b[/z][/c]");
        writtenAs("[c1]a[/c][b][c1]b[/c][/b][b]c[/b]", "[c1]a[b]b[/b][/c][b]c[/b]");
        check.head("III: at the end all are closed");
        writtenAs("a[b][s]b[/s][/b]", "a[b][s]b[/s][/b]");
    }
}
