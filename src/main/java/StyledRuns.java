/** A text with styles: painted letters, spans in layers, anchors, marked texts, undo and images. */
public final class StyledRuns {
    public static final int NONE = -1;

    private static final int MOST_LETTERS = 200;
    private static final int MOST_SPANS = 16;
    private static final int MOST_ANCHORS = 12;
    private static final int MOST_BYTES = 400;
    private static final int MOST_KEPT = 8;
    private static final int MOST_OPEN = 8;
    private static final int IMAGES = 2;
    private static final int LAYERS = 10;
    private static final int TOP_FLAGS = 15;
    private static final int TOP_COLOR = 7;
    private static final int TOP_SIZE = 9;
    private static final int TOP_GROWS = 3;
    private static final int TOP_SIDES = 3;

    private static final int BAD_NUMBER = -1;
    private static final int NOT_THERE = -2;
    private static final int CANNOT_BE = -4;
    private static final int NO_ROOM = -5;
    private static final int UNREADABLE = -6;

    private static final int TYPED = 0;
    private static final int WAS_CUT = 1;
    private static final int MOVED = 2;
    private static final int LAID = 3;
    private static final int LIFTED = 4;
    private static final int WAS_SET = 5;
    private static final int STRETCHED = 6;
    private static final int PAINTED = 7;
    private static final int MADE_FAST = 8;
    private static final int PINNED = 9;
    private static final int UNPINNED = 10;
    private static final int WAS_READ = 11;
    private static final int SWAPPED = 12;

    /** The kinds of marks, in the order in which they are opened; a flag's bit is 1 shifted by its kind. */
    private static final int[] MARK_SIGNS = {'b', 'i', 'u', 's', 'c', 'z'};
    private static final int COLOR_MARK = 4;
    private static final int SIZE_MARK = 5;

    private final Sheet sheet = new Sheet();
    private final Tape bytes = new Tape();
    private final History history = new History();
    private final Sheet[] images = new Sheet[IMAGES];
    private final boolean[] imageKept = new boolean[IMAGES];
    private final Looks present = new Looks();
    private final Looks supposed = new Looks();
    private final Reader reader = new Reader();
    private final Writer writer = new Writer();
    /** How many calls were refused by -k, at index k. */
    private final int[] refusals = new int[1 - UNREADABLE];
    private int latestRefusal = 0;
    private boolean presentIsFresh = false;

    public StyledRuns() {
        for (int k = 0; k < IMAGES; k++) {
            images[k] = new Sheet();
        }
    }

    // ---- the tape ----

    public int feed(int a, int b, int c, int d, int e) {
        if (bytes.length + 20 > MOST_BYTES) {
            return NONE;
        }
        bytes.addFour(a);
        bytes.addFour(b);
        bytes.addFour(c);
        bytes.addFour(d);
        bytes.addFour(e);
        return bytes.length;
    }

    public int end(int n) {
        if (n < 0 || n > bytes.length) {
            return NONE;
        }
        bytes.length = n;
        return n;
    }

    public int tape(int i) {
        return bytes.at(i);
    }

    // ---- letters that come, go and move ----

    public int type(int place) {
        if (!sheet.hasPlace(place) || !bytes.areLetters()) {
            return refused(BAD_NUMBER);
        }
        int why = whyNoRoomForTape();
        if (why != 0) {
            return refused(why);
        }
        begin(TYPED, place, bytes.length, 0);
        sheet.put(place, bytes);
        bytes.length = 0;
        return granted(sheet.size);
    }

    public int cut(int from, int to) {
        if (!sheet.isRange(from, to)) {
            return refused(BAD_NUMBER);
        }
        begin(WAS_CUT, from, to, 0);
        sheet.lettersGo(from, to);
        return granted(sheet.size);
    }

    public int swap(int from, int to) {
        if (!sheet.isRange(from, to) || !bytes.areLetters()) {
            return refused(BAD_NUMBER);
        }
        int why = whyNoRoomForTape();
        if (why != 0) {
            return refused(why);
        }
        int coming = bytes.length;
        begin(SWAPPED, from, to, coming);
        sheet.put(from + 1, bytes);
        sheet.lettersGo(from, from + 1);
        sheet.lettersGo(from + coming, to - 1 + coming);
        bytes.length = 0;
        return granted(sheet.size);
    }

    public int move(int from, int to, int at) {
        if (!sheet.isRange(from, to) || !sheet.hasPlace(at)) {
            return refused(BAD_NUMBER);
        }
        if (from <= at && at <= to) {
            return refused(CANNOT_BE);
        }
        begin(MOVED, from, to, at);
        return granted(sheet.lettersMove(from, to, at));
    }

    // ---- spans, paint and anchors ----

    public int lay(int from, int to, int layer, int on, int off, int color, int grows, int sides) {
        boolean placed = sheet.isRange(from, to) && isWithin(layer, LAYERS - 1) && isWithin(sides, TOP_SIDES);
        if (!placed || !isBrush(on, off, color, grows)) {
            return refused(BAD_NUMBER);
        }
        if (sheet.spansGiven >= MOST_SPANS) {
            return refused(NO_ROOM);
        }
        begin(LAID, 0, 0, 0);
        int number = sheet.spansGiven;
        sheet.spansGiven++;
        Span laid = sheet.spans[number];
        laid.stands = true;
        laid.from = from;
        laid.to = to;
        laid.layer = layer;
        laid.sides = sides;
        laid.on = on;
        laid.off = off;
        laid.color = color;
        laid.grows = grows;
        return granted(number);
    }

    public int lift(int span) {
        if (!sheet.hasSpan(span)) {
            return refused(NOT_THERE);
        }
        begin(LIFTED, 0, 0, 0);
        sheet.spans[span].stands = false;
        return granted(sheet.standingSpans());
    }

    public int set(int span, int what, int v) {
        boolean isLayer = what == 0 && isWithin(v, LAYERS - 1);
        boolean isSides = what == 1 && isWithin(v, TOP_SIDES);
        if (!isLayer && !isSides) {
            return refused(BAD_NUMBER);
        }
        if (!sheet.hasSpan(span)) {
            return refused(NOT_THERE);
        }
        begin(WAS_SET, 0, 0, 0);
        Span changed = sheet.spans[span];
        int was = isLayer ? changed.layer : changed.sides;
        if (isLayer) {
            changed.layer = v;
        } else {
            changed.sides = v;
        }
        return granted(was);
    }

    public int stretch(int span, int from, int to) {
        if (!sheet.isRange(from, to)) {
            return refused(BAD_NUMBER);
        }
        if (!sheet.hasSpan(span)) {
            return refused(NOT_THERE);
        }
        begin(STRETCHED, 0, 0, 0);
        sheet.spans[span].from = from;
        sheet.spans[span].to = to;
        return granted(0);
    }

    public int paint(int from, int to, int on, int off, int color, int grows) {
        if (!sheet.isRange(from, to) || !isBrush(on, off, color, grows)) {
            return refused(BAD_NUMBER);
        }
        begin(PAINTED, 0, 0, 0);
        int changed = 0;
        for (int i = from; i < to; i++) {
            int made = Style.brushed(sheet.paints[i], on, off, color, grows);
            if (made != sheet.paints[i]) {
                changed++;
            }
            sheet.paints[i] = made;
        }
        return granted(changed);
    }

    // Not among the calls that status() speaks of, and never refused: so it says nothing of refusals.
    public int fast() {
        Looks looks = looksNow();
        begin(MADE_FAST, 0, 0, 0);
        for (int i = 0; i < sheet.size; i++) {
            sheet.paints[i] = looks.styles[i];
        }
        int stood = sheet.standingSpans();
        for (int k = 0; k < MOST_SPANS; k++) {
            sheet.spans[k].stands = false;
        }
        return stood;
    }

    public int pin(int place, int lean) {
        if (!sheet.hasPlace(place) || !isWithin(lean, 1)) {
            return refused(BAD_NUMBER);
        }
        if (sheet.anchorsGiven >= MOST_ANCHORS) {
            return refused(NO_ROOM);
        }
        begin(PINNED, 0, 0, 0);
        int number = sheet.anchorsGiven;
        sheet.anchorsGiven++;
        Anchor pinned = sheet.anchors[number];
        pinned.stands = true;
        pinned.place = place;
        pinned.lean = lean;
        pinned.lost = 0;
        return granted(number);
    }

    public int unpin(int anchor) {
        if (!sheet.hasAnchor(anchor)) {
            return refused(NOT_THERE);
        }
        begin(UNPINNED, 0, 0, 0);
        sheet.anchors[anchor].stands = false;
        return granted(sheet.anchors[anchor].place);
    }

    // ---- marked texts ----

    public int read() {
        reader.parse(bytes);
        // The tape is spent by a text that can't be read, too: the promise has no "if not REFUSED" here.
        bytes.length = 0;
        if (reader.faultPlace != NONE) {
            return refused(UNREADABLE);
        }
        begin(WAS_READ, 0, 0, 0);
        sheet.startAnew(reader);
        return granted(sheet.size);
    }

    public int fault() {
        return reader.faultPlace;
    }

    public int write() {
        int length = writer.compose(sheet, looksNow());
        if (length > MOST_BYTES) {
            return refused(NO_ROOM);
        }
        bytes.become(writer.out, length);
        return granted(length);
    }

    // ---- acts taken back, images ----

    public int undo() {
        if (history.kept == 0) {
            return refused(CANNOT_BE);
        }
        presentIsFresh = false;
        return granted(history.takeBack(sheet));
    }

    public int image(int k) {
        if (!isWithin(k, IMAGES - 1)) {
            return refused(BAD_NUMBER);
        }
        images[k].become(sheet);
        imageKept[k] = true;
        return granted(sheet.size);
    }

    public int back(int k) {
        if (!isWithin(k, IMAGES - 1)) {
            return refused(BAD_NUMBER);
        }
        if (!imageKept[k]) {
            return refused(NOT_THERE);
        }
        presentIsFresh = false;
        sheet.become(images[k]);
        history.kept = 0;
        return granted(sheet.size);
    }

    // ---- what is told of letters and runs ----

    public int letter(int i) {
        return sheet.hasLetter(i) ? sheet.letters[i] : NONE;
    }

    public int style(int i, int what) {
        if (!sheet.hasLetter(i)) {
            return NONE;
        }
        switch (what) {
            case 0: return Style.flagsOf(looksNow().styles[i]);
            case 1: return Style.colorOf(looksNow().styles[i]);
            case 2: return Style.sizeOf(looksNow().styles[i]);
            case 3: return Style.flagsOf(sheet.paints[i]);
            case 4: return Style.colorOf(sheet.paints[i]);
            case 5: return Style.sizeOf(sheet.paints[i]);
            case 6: return looksNow().styles[i];
            default: return NONE;
        }
    }

    public int run(int k, int what) {
        Looks looks = looksNow();
        int first = looks.firstOfRun(k);
        if (first == NONE) {
            return NONE;
        }
        switch (what) {
            case 0: return first;
            case 1: return looks.endOfRun(first) - first;
            case 2: return Style.flagsOf(looks.styles[first]);
            case 3: return Style.colorOf(looks.styles[first]);
            case 4: return Style.sizeOf(looks.styles[first]);
            default: return NONE;
        }
    }

    public int stack(int i, int k) {
        if (!sheet.hasLetter(i) || k < 0) {
            return NONE;
        }
        int below = 0;
        for (int layer = 0; layer < LAYERS; layer++) {
            for (int number = 0; number < sheet.spansGiven; number++) {
                Span span = sheet.spans[number];
                if (span.layer != layer || !span.liesOver(i)) {
                    continue;
                }
                if (below == k) {
                    return number;
                }
                below++;
            }
        }
        return NONE;
    }

    public int tells(int i, int what) {
        if (!sheet.hasLetter(i)) {
            return NONE;
        }
        int latest = NONE;
        for (int layer = 0; layer < LAYERS; layer++) {
            for (int number = 0; number < sheet.spansGiven; number++) {
                Span span = sheet.spans[number];
                if (span.layer == layer && span.liesOver(i) && span.speaksOf(what)) {
                    latest = number;
                }
            }
        }
        return latest;
    }

    public int span(int span, int what) {
        if (!sheet.hasSpan(span)) {
            return Integer.MIN_VALUE;
        }
        Span asked = sheet.spans[span];
        switch (what) {
            case 0: return asked.from;
            case 1: return asked.to;
            case 2: return asked.layer;
            case 3: return asked.on;
            case 4: return asked.off;
            case 5: return asked.color;
            case 6: return asked.grows;
            case 7: return asked.sides;
            case 8: return isIdle(span) ? 1 : 0;
            case 9: return runsWithout(span);
            default: return Integer.MIN_VALUE;
        }
    }

    public int anchor(int anchor, int what) {
        if (!sheet.hasAnchor(anchor)) {
            return NONE;
        }
        switch (what) {
            case 0: return sheet.anchors[anchor].place;
            case 1: return sheet.anchors[anchor].lean;
            case 2: return sheet.anchors[anchor].lost;
            default: return NONE;
        }
    }

    // ---- found by letters and by style ----

    public int find(int from) {
        return firstStand(from, 0, 0, NONE, 0, TOP_SIZE);
    }

    public int findBy(int from, int mask, int flags, int color, int low, int high) {
        boolean sizes = isWithin(low, TOP_SIZE) && isWithin(high, TOP_SIZE);
        if (!sizes || !isFilter(mask, flags, color)) {
            return NONE;
        }
        return firstStand(from, mask, flags, color, low, high);
    }

    public int styled(int from, int mask, int flags, int color, int what) {
        if (!sheet.hasLetter(from) || !isFilter(mask, flags, color) || !isWithin(what, 2)) {
            return NONE;
        }
        Looks looks = looksNow();
        int first = NONE;
        int sideBySide = 0;
        int atAll = 0;
        for (int i = from; i < sheet.size; i++) {
            if (!Style.suits(looks.styles[i], mask, flags, color)) {
                continue;
            }
            if (first == NONE) {
                first = i;
            }
            if (i == first + sideBySide) {
                sideBySide++;
            }
            atAll++;
        }
        if (first == NONE || what == 0) {
            return first;
        }
        return what == 1 ? sideBySide : atAll;
    }

    // ---- places followed ----

    public int follow(int place, int lean, int p, int q, boolean comes) {
        if (!sheet.hasPlace(place) || !isWithin(lean, 1)) {
            return NONE;
        }
        if (comes) {
            boolean can = sheet.hasPlace(p) && q >= 1 && q <= MOST_LETTERS;
            return can ? Place.afterComing(place, lean, p, q) : NONE;
        }
        return sheet.isRange(p, q) ? Place.afterGoing(place, p, q) : NONE;
    }

    public int through(int place, int lean, int n) {
        boolean counted = n >= 1 && n <= history.kept;
        return counted && isWithin(lean, 1) ? history.placeThrough(place, lean, n) : NONE;
    }

    // ---- spans weighed ----

    public int idle() {
        int bits = 0;
        for (int k = 0; k < sheet.spansGiven; k++) {
            if (sheet.hasSpan(k) && isIdle(k)) {
                bits |= 1 << k;
            }
        }
        return bits;
    }

    public int raised(int span, int layer) {
        boolean can = sheet.hasSpan(span) && isWithin(layer, LAYERS - 1);
        return can ? runsIfRaised(span, layer) : NONE;
    }

    public int best(int span, int what) {
        if (!sheet.hasSpan(span) || !isWithin(what, 1)) {
            return NONE;
        }
        int bestLayer = 0;
        int fewest = runsIfRaised(span, 0);
        for (int layer = 1; layer < LAYERS; layer++) {
            int runs = runsIfRaised(span, layer);
            if (runs < fewest) {
                fewest = runs;
                bestLayer = layer;
            }
        }
        return what == 0 ? bestLayer : fewest;
    }

    public int crossed() {
        for (int lesser = 0; lesser < sheet.spansGiven; lesser++) {
            for (int other = lesser + 1; other < sheet.spansGiven; other++) {
                boolean both = sheet.hasSpan(lesser) && sheet.hasSpan(other);
                if (both && sheet.spans[lesser].crosses(sheet.spans[other])) {
                    return 100 * lesser + other;
                }
            }
        }
        return NONE;
    }

    public int count(int what) {
        switch (what) {
            case 0: return sheet.size;
            case 1: return looksNow().howManyRuns();
            case 2: return sheet.standingSpans();
            case 3: return sheet.standingAnchors();
            case 4: return sheet.spansGiven;
            case 5: return sheet.anchorsGiven;
            case 6: return looksNow().longestLength();
            case 7: return looksNow().longestRun();
            case 8: return looksNow().unlikeStyles();
            case 9: return sheet.mostSpansOverLetter();
            case 10: return sheet.lostOfAll();
            case 11: return writer.compose(sheet, looksNow());
            case 12: return history.kept;
            case 13: return bytes.length;
            case 14: return refusals[-BAD_NUMBER];
            case 15: return refusals[-NOT_THERE];
            case 16: return refusals[-CANNOT_BE];
            case 17: return refusals[-NO_ROOM];
            case 18: return refusals[-UNREADABLE];
            default: return NONE;
        }
    }

    public int status() {
        return latestRefusal;
    }

    // ---- what the calls share ----

    private int refused(int by) {
        latestRefusal = by;
        refusals[-by]++;
        return by;
    }

    private int granted(int answer) {
        latestRefusal = 0;
        return answer;
    }

    /** Every act that can be undone comes through here ahead of its first change. */
    private void begin(int kind, int a, int b, int c) {
        history.keep(sheet, kind, a, b, c);
        presentIsFresh = false;
    }

    private Looks looksNow() {
        if (!presentIsFresh) {
            present.see(sheet, NONE, NONE, 0);
            presentIsFresh = true;
        }
        return present;
    }

    private int whyNoRoomForTape() {
        if (bytes.length == 0) {
            return CANNOT_BE;
        }
        return sheet.size + bytes.length > MOST_LETTERS ? NO_ROOM : 0;
    }

    private static boolean isWithin(int number, int top) {
        return number >= 0 && number <= top;
    }

    private static boolean isFilter(int mask, int flags, int color) {
        return isWithin(mask, TOP_FLAGS) && isWithin(flags, TOP_FLAGS) && isColorOrNone(color);
    }

    private static boolean isBrush(int on, int off, int color, int grows) {
        boolean flags = isWithin(on, TOP_FLAGS) && isWithin(off, TOP_FLAGS);
        return flags && isColorOrNone(color) && grows >= -TOP_GROWS && grows <= TOP_GROWS;
    }

    private static boolean isColorOrNone(int color) {
        return color == NONE || isWithin(color, TOP_COLOR);
    }

    private boolean isIdle(int number) {
        supposed.see(sheet, number, NONE, 0);
        return supposed.isLike(looksNow());
    }

    private int runsWithout(int number) {
        supposed.see(sheet, number, NONE, 0);
        return supposed.howManyRuns();
    }

    private int runsIfRaised(int number, int layer) {
        supposed.see(sheet, NONE, number, layer);
        return supposed.howManyRuns();
    }

    private int firstStand(int from, int mask, int flags, int color, int low, int high) {
        if (!sheet.hasPlace(from) || bytes.length == 0) {
            return NONE;
        }
        Looks looks = looksNow();
        for (int place = from; place + bytes.length <= sheet.size; place++) {
            boolean stands = true;
            for (int k = 0; k < bytes.length && stands; k++) {
                int style = looks.styles[place + k];
                int size = Style.sizeOf(style);
                stands = sheet.letters[place + k] == bytes.row[k]
                        && Style.suits(style, mask, flags, color) && low <= size && size <= high;
            }
            if (stands) {
                return place;
            }
        }
        return NONE;
    }

    /** A style is one number: 100 times its flags, 10 times its color and its size together. */
    private static final class Style {
        static final int PLAIN = 4;
        static final int PLAIN_SIZE = 4;

        private Style() {
        }

        static int of(int flags, int color, int size) {
            return 100 * flags + 10 * color + size;
        }

        static int flagsOf(int style) {
            return style / 100;
        }

        static int colorOf(int style) {
            return style / 10 % 10;
        }

        static int sizeOf(int style) {
            return style % 10;
        }

        static int brushed(int style, int on, int off, int color, int grows) {
            int flags = (flagsOf(style) | on) & ~off;
            int hue = color == NONE ? colorOf(style) : color;
            int size = Math.max(0, Math.min(TOP_SIZE, sizeOf(style) + grows));
            return of(flags, hue, size);
        }

        static int marked(int style, int kind, int value) {
            if (kind == COLOR_MARK) {
                return of(flagsOf(style), value, sizeOf(style));
            }
            if (kind == SIZE_MARK) {
                return of(flagsOf(style), colorOf(style), value);
            }
            return of(flagsOf(style) | 1 << kind, colorOf(style), sizeOf(style));
        }

        /** The value that a mark of this kind has to have for the style, NONE if it needs no such mark. */
        static int markValue(int style, int kind) {
            if (kind == COLOR_MARK) {
                return colorOf(style) == 0 ? NONE : colorOf(style);
            }
            if (kind == SIZE_MARK) {
                return sizeOf(style) == PLAIN_SIZE ? NONE : sizeOf(style);
            }
            return (flagsOf(style) >> kind & 1) == 0 ? NONE : 1;
        }

        static boolean suits(int style, int mask, int flags, int color) {
            boolean likeFlags = ((flagsOf(style) ^ flags) & mask) == 0;
            return likeFlags && (color == NONE || colorOf(style) == color);
        }
    }

    /** Where places go when letters come, go and move. */
    private static final class Place {
        private Place() {
        }

        static int afterComing(int place, int lean, int p, int many) {
            return place > p || place == p && lean == 1 ? place + many : place;
        }

        static int afterGoing(int place, int p, int q) {
            if (place >= q) {
                return place - (q - p);
            }
            return Math.min(place, p);
        }

        /** Where letters p .. q less 1 begin when they have been moved to place r. */
        static int landing(int p, int q, int r) {
            return r > p ? r - (q - p) : r;
        }

        /** For places that do not go along with the letters. */
        static int leftByMove(int place, int lean, int p, int q, int r) {
            return afterComing(afterGoing(place, p, q), lean, landing(p, q, r), q - p);
        }

        static int afterMove(int place, int lean, int p, int q, int r) {
            if (p < place && place < q) {
                return place + landing(p, q, r) - p;
            }
            return leftByMove(place, lean, p, q, r);
        }

        static int afterSwap(int place, int lean, int from, int to, int coming) {
            int come = afterComing(place, lean, from + 1, coming);
            int first = afterGoing(come, from, from + 1);
            return afterGoing(first, from + coming, to - 1 + coming);
        }
    }

    private static final class Span {
        boolean stands = false;
        int from = 0;
        int to = 0;
        int layer = 0;
        int on = 0;
        int off = 0;
        int color = NONE;
        int grows = 0;
        int sides = 0;

        void become(Span other) {
            stands = other.stands;
            from = other.from;
            to = other.to;
            layer = other.layer;
            on = other.on;
            off = other.off;
            color = other.color;
            grows = other.grows;
            sides = other.sides;
        }

        boolean liesOver(int i) {
            return stands && from <= i && i < to;
        }

        /** what as tells() has it: 0 color, 1 size, 2 .. 5 the flags. */
        boolean speaksOf(int what) {
            if (what == 0) {
                return color != NONE;
            }
            if (what == 1) {
                return grows != 0;
            }
            return what >= 2 && what <= 5 && ((on | off) >> (what - 2) & 1) == 1;
        }

        boolean covers(Span other) {
            return from <= other.from && other.to <= to;
        }

        boolean crosses(Span other) {
            boolean meet = from < other.to && other.from < to;
            return meet && !covers(other) && !other.covers(this);
        }

        void lettersCome(int p, int many) {
            from = Place.afterComing(from, sides & 1, p, many);
            to = Place.afterComing(to, sides >> 1, p, many);
        }

        void lettersGo(int p, int q) {
            from = Place.afterGoing(from, p, q);
            to = Place.afterGoing(to, p, q);
            if (from >= to) {
                stands = false;
            }
        }

        /** Whether it goes along. */
        boolean lettersMove(int p, int q, int r) {
            if (p <= from && to <= q) {
                int by = Place.landing(p, q, r) - p;
                from += by;
                to += by;
                return true;
            }
            from = Place.leftByMove(from, sides & 1, p, q, r);
            to = Place.leftByMove(to, sides >> 1, p, q, r);
            return false;
        }
    }

    private static final class Anchor {
        boolean stands = false;
        int place = 0;
        int lean = 0;
        int lost = 0;

        void become(Anchor other) {
            stands = other.stands;
            place = other.place;
            lean = other.lean;
            lost = other.lost;
        }

        void lettersGo(int p, int q) {
            if (p < place && place < q) {
                lost++;
            }
            place = Place.afterGoing(place, p, q);
        }
    }

    /** Letters with their paint, spans and anchors: all that undo() and images bring back. */
    private static final class Sheet {
        final int[] letters = new int[MOST_LETTERS];
        final int[] paints = new int[MOST_LETTERS];
        int size = 0;
        final Span[] spans = new Span[MOST_SPANS];
        int spansGiven = 0;
        final Anchor[] anchors = new Anchor[MOST_ANCHORS];
        int anchorsGiven = 0;

        Sheet() {
            for (int k = 0; k < MOST_SPANS; k++) {
                spans[k] = new Span();
            }
            for (int k = 0; k < MOST_ANCHORS; k++) {
                anchors[k] = new Anchor();
            }
        }

        void become(Sheet other) {
            size = other.size;
            System.arraycopy(other.letters, 0, letters, 0, size);
            System.arraycopy(other.paints, 0, paints, 0, size);
            spansGiven = other.spansGiven;
            for (int k = 0; k < spansGiven; k++) {
                spans[k].become(other.spans[k]);
            }
            anchorsGiven = other.anchorsGiven;
            for (int k = 0; k < anchorsGiven; k++) {
                anchors[k].become(other.anchors[k]);
            }
        }

        void startAnew(Reader reader) {
            size = reader.size;
            System.arraycopy(reader.letters, 0, letters, 0, size);
            System.arraycopy(reader.paints, 0, paints, 0, size);
            spansGiven = 0;
            anchorsGiven = 0;
        }

        boolean hasLetter(int i) {
            return i >= 0 && i < size;
        }

        boolean hasPlace(int place) {
            return place >= 0 && place <= size;
        }

        boolean isRange(int from, int to) {
            return from >= 0 && from < to && to <= size;
        }

        boolean hasSpan(int number) {
            return number >= 0 && number < spansGiven && spans[number].stands;
        }

        boolean hasAnchor(int number) {
            return number >= 0 && number < anchorsGiven && anchors[number].stands;
        }

        int standingSpans() {
            int standing = 0;
            for (int k = 0; k < spansGiven; k++) {
                if (spans[k].stands) {
                    standing++;
                }
            }
            return standing;
        }

        int standingAnchors() {
            int standing = 0;
            for (int k = 0; k < anchorsGiven; k++) {
                if (anchors[k].stands) {
                    standing++;
                }
            }
            return standing;
        }

        int lostOfAll() {
            int lost = 0;
            for (int k = 0; k < anchorsGiven; k++) {
                if (anchors[k].stands) {
                    lost += anchors[k].lost;
                }
            }
            return lost;
        }

        int mostSpansOverLetter() {
            int most = 0;
            for (int i = 0; i < size; i++) {
                int over = 0;
                for (int k = 0; k < spansGiven; k++) {
                    if (spans[k].liesOver(i)) {
                        over++;
                    }
                }
                most = Math.max(most, over);
            }
            return most;
        }

        /** All bytes come as letters at place p. */
        void put(int p, Tape tape) {
            int many = tape.length;
            if (!hasPlace(p) || size + many > MOST_LETTERS) {
                return;
            }
            int paint = p > 0 ? paints[p - 1] : Style.PLAIN;
            System.arraycopy(letters, p, letters, p + many, size - p);
            System.arraycopy(paints, p, paints, p + many, size - p);
            for (int k = 0; k < many; k++) {
                letters[p + k] = tape.row[k];
                paints[p + k] = paint;
            }
            size += many;
            for (int k = 0; k < spansGiven; k++) {
                spans[k].lettersCome(p, many);
            }
            for (int k = 0; k < anchorsGiven; k++) {
                anchors[k].place = Place.afterComing(anchors[k].place, anchors[k].lean, p, many);
            }
        }

        void lettersGo(int p, int q) {
            if (!isRange(p, q)) {
                return;
            }
            System.arraycopy(letters, q, letters, p, size - q);
            System.arraycopy(paints, q, paints, p, size - q);
            size -= q - p;
            for (int k = 0; k < spansGiven; k++) {
                spans[k].lettersGo(p, q);
            }
            for (int k = 0; k < anchorsGiven; k++) {
                anchors[k].lettersGo(p, q);
            }
        }

        /** How many spans go along. */
        int lettersMove(int p, int q, int r) {
            if (r < p) {
                changeSides(letters, r, p, q);
                changeSides(paints, r, p, q);
            } else {
                changeSides(letters, p, q, r);
                changeSides(paints, p, q, r);
            }
            int along = 0;
            for (int k = 0; k < spansGiven; k++) {
                if (spans[k].stands && spans[k].lettersMove(p, q, r)) {
                    along++;
                }
            }
            for (int k = 0; k < anchorsGiven; k++) {
                anchors[k].place = Place.afterMove(anchors[k].place, anchors[k].lean, p, q, r);
            }
            return along;
        }

        /** What lies from mid on comes ahead of what lies from low on, by turning both and then the whole. */
        private static void changeSides(int[] row, int low, int mid, int high) {
            turn(row, low, mid);
            turn(row, mid, high);
            turn(row, low, high);
        }

        private static void turn(int[] row, int low, int high) {
            if (low < 0 || high > row.length) {
                return;
            }
            int right = high - 1;
            for (int left = low; left < right; left++) {
                int held = row[left];
                row[left] = row[right];
                row[right] = held;
                right--;
            }
        }
    }

    private static final class Tape {
        final int[] row = new int[MOST_BYTES];
        int length = 0;

        int at(int i) {
            return i >= 0 && i < length ? row[i] : NONE;
        }

        void addFour(int number) {
            if (length + 4 > MOST_BYTES) {
                return;
            }
            row[length] = number >>> 24;
            row[length + 1] = number >>> 16 & 255;
            row[length + 2] = number >>> 8 & 255;
            row[length + 3] = number & 255;
            length += 4;
        }

        void become(int[] other, int many) {
            length = Math.min(many, MOST_BYTES);
            System.arraycopy(other, 0, row, 0, length);
        }

        boolean areLetters() {
            for (int k = 0; k < length; k++) {
                if (!isLetter(row[k])) {
                    return false;
                }
            }
            return true;
        }

        static boolean isLetter(int value) {
            return value >= 32 && value <= 126 && value != '[' && value != ']';
        }
    }

    /** The styles of all letters, as they are or as they would be. */
    private static final class Looks {
        final int[] styles = new int[MOST_LETTERS];
        int size = 0;

        /** Without one span, with one on another layer; NONE for either. */
        void see(Sheet sheet, int without, int moved, int movedTo) {
            size = sheet.size;
            System.arraycopy(sheet.paints, 0, styles, 0, size);
            for (int layer = 0; layer < LAYERS; layer++) {
                for (int k = 0; k < sheet.spansGiven; k++) {
                    Span span = sheet.spans[k];
                    int itsLayer = k == moved ? movedTo : span.layer;
                    if (span.stands && k != without && itsLayer == layer) {
                        brush(span);
                    }
                }
            }
        }

        private void brush(Span span) {
            int to = Math.min(span.to, size);
            for (int i = Math.max(span.from, 0); i < to; i++) {
                styles[i] = Style.brushed(styles[i], span.on, span.off, span.color, span.grows);
            }
        }

        boolean isLike(Looks other) {
            if (size != other.size) {
                return false;
            }
            for (int i = 0; i < size; i++) {
                if (styles[i] != other.styles[i]) {
                    return false;
                }
            }
            return true;
        }

        boolean beginsRun(int i) {
            return i == 0 || styles[i] != styles[i - 1];
        }

        int howManyRuns() {
            int runs = 0;
            for (int i = 0; i < size; i++) {
                if (beginsRun(i)) {
                    runs++;
                }
            }
            return runs;
        }

        int firstOfRun(int k) {
            int runs = 0;
            for (int i = 0; i < size; i++) {
                if (beginsRun(i)) {
                    if (runs == k) {
                        return i;
                    }
                    runs++;
                }
            }
            return NONE;
        }

        int endOfRun(int first) {
            int after = first + 1;
            while (after < size && !beginsRun(after)) {
                after++;
            }
            return after;
        }

        int longestLength() {
            int longest = 0;
            int length = 0;
            for (int i = 0; i < size; i++) {
                length = beginsRun(i) ? 1 : length + 1;
                longest = Math.max(longest, length);
            }
            return longest;
        }

        int longestRun() {
            int longest = longestLength();
            int k = NONE;
            int length = 0;
            for (int i = 0; i < size; i++) {
                boolean begins = beginsRun(i);
                k = begins ? k + 1 : k;
                length = begins ? 1 : length + 1;
                if (length == longest) {
                    return k;
                }
            }
            return NONE;
        }

        int unlikeStyles() {
            int unlike = 0;
            for (int i = 0; i < size; i++) {
                if (beginsRun(i) && !standsAhead(styles[i], i)) {
                    unlike++;
                }
            }
            return unlike;
        }

        private boolean standsAhead(int style, int before) {
            for (int i = 0; i < before; i++) {
                if (styles[i] == style) {
                    return true;
                }
            }
            return false;
        }
    }

    /** Reads a marked text into letters and paint of its own, so that a faulty one changes nothing else. */
    private static final class Reader {
        final int[] letters = new int[MOST_LETTERS];
        final int[] paints = new int[MOST_LETTERS];
        int size = 0;
        int faultPlace = NONE;
        private final int[] openKinds = new int[MOST_OPEN];
        /** The paint inside as many marks as the index says. */
        private final int[] paintInside = new int[MOST_OPEN + 1];
        private int open = 0;

        void parse(Tape tape) {
            size = 0;
            open = 0;
            faultPlace = NONE;
            paintInside[0] = Style.PLAIN;
            int at = 0;
            for (int parts = 0; parts < MOST_BYTES && at < tape.length && faultPlace == NONE; parts++) {
                at = tape.at(at) == '[' ? afterMark(tape, at) : afterLetter(tape, at);
            }
            if (faultPlace == NONE && open > 0) {
                faultPlace = tape.length;
            }
        }

        private int afterLetter(Tape tape, int at) {
            if (!Tape.isLetter(tape.at(at)) || size >= MOST_LETTERS) {
                faultPlace = at;
                return at;
            }
            letters[size] = tape.at(at);
            paints[size] = paintInside[open];
            size++;
            return at + 1;
        }

        /** A mark is looked at as a whole only when its last byte stands: ahead of that, its bytes one by one. */
        private int afterMark(Tape tape, int begin) {
            boolean closes = tape.at(begin + 1) == '/';
            int at = closes ? begin + 2 : begin + 1;
            int kind = kindOf(tape.at(at));
            if (kind == NONE) {
                // At the tape's end `at` is its length, which is the fault there too.
                faultPlace = at;
                return at;
            }
            at++;
            int value = 1;
            if (!closes && kind >= COLOR_MARK) {
                value = tape.at(at) - '0';
                if (!isWithin(value, kind == COLOR_MARK ? TOP_COLOR : TOP_SIZE)) {
                    faultPlace = at;
                    return at;
                }
                at++;
            }
            if (tape.at(at) != ']') {
                faultPlace = at;
                return at;
            }
            if (!(closes ? closeLatest(kind) : openMark(kind, value))) {
                faultPlace = begin;
            }
            return at + 1;
        }

        private boolean openMark(int kind, int value) {
            if (open >= MOST_OPEN) {
                return false;
            }
            openKinds[open] = kind;
            paintInside[open + 1] = Style.marked(paintInside[open], kind, value);
            open++;
            return true;
        }

        private boolean closeLatest(int kind) {
            if (open == 0 || openKinds[open - 1] != kind) {
                return false;
            }
            open--;
            return true;
        }

        private static int kindOf(int sign) {
            for (int kind = 0; kind < MARK_SIGNS.length; kind++) {
                if (MARK_SIGNS[kind] == sign) {
                    return kind;
                }
            }
            return NONE;
        }
    }

    /** Writes a marked text; what goes beyond the tape's room is counted alone. */
    private static final class Writer {
        final int[] out = new int[MOST_BYTES];
        private int length = 0;
        private final int[] openKinds = new int[MARK_SIGNS.length];
        private final int[] openValues = new int[MARK_SIGNS.length];
        private int open = 0;

        int compose(Sheet sheet, Looks looks) {
            length = 0;
            open = 0;
            for (int i = 0; i < sheet.size; i++) {
                if (looks.beginsRun(i)) {
                    closeDownTo(firstUnfit(looks.styles[i]));
                    openLacking(looks.styles[i]);
                }
                add(sheet.letters[i]);
            }
            closeDownTo(0);
            return length;
        }

        private void add(int value) {
            if (length < MOST_BYTES) {
                out[length] = value;
            }
            length++;
        }

        private int firstUnfit(int style) {
            for (int k = 0; k < open; k++) {
                if (Style.markValue(style, openKinds[k]) != openValues[k]) {
                    return k;
                }
            }
            return open;
        }

        private void closeDownTo(int depth) {
            while (open > depth) {
                open--;
                add('[');
                add('/');
                add(MARK_SIGNS[openKinds[open]]);
                add(']');
            }
        }

        private void openLacking(int style) {
            for (int kind = 0; kind < MARK_SIGNS.length; kind++) {
                int value = Style.markValue(style, kind);
                if (value == NONE || isOpen(kind) || open >= openKinds.length) {
                    continue;
                }
                openKinds[open] = kind;
                openValues[open] = value;
                open++;
                add('[');
                add(MARK_SIGNS[kind]);
                if (kind >= COLOR_MARK) {
                    add('0' + value);
                }
                add(']');
            }
        }

        private boolean isOpen(int kind) {
            for (int k = 0; k < open; k++) {
                if (openKinds[k] == kind) {
                    return true;
                }
            }
            return false;
        }
    }

    /** The latest acts, each with the sheet as it was ahead of it; a ring, the oldest gives way. */
    private static final class History {
        private final Sheet[] before = new Sheet[MOST_KEPT];
        private final Act[] acts = new Act[MOST_KEPT];
        private int next = 0;
        int kept = 0;

        History() {
            for (int k = 0; k < MOST_KEPT; k++) {
                before[k] = new Sheet();
                acts[k] = new Act();
            }
        }

        void keep(Sheet sheet, int kind, int a, int b, int c) {
            before[next].become(sheet);
            acts[next].become(kind, a, b, c);
            next = (next + 1) % MOST_KEPT;
            kept = Math.min(kept + 1, MOST_KEPT);
        }

        /** The kind of the act that is undone. */
        int takeBack(Sheet sheet) {
            next = latest(1);
            kept--;
            sheet.become(before[next]);
            return acts[next].kind;
        }

        /** 1 for the latest, 2 for the one ahead of it, and so on. */
        private int latest(int n) {
            return Math.floorMod(next - n, MOST_KEPT);
        }

        int placeThrough(int place, int lean, int n) {
            if (!before[latest(n)].hasPlace(place)) {
                return NONE;
            }
            int now = place;
            for (int k = n; k >= 1; k--) {
                Act act = acts[latest(k)];
                if (act.kind == WAS_READ) {
                    return NONE;
                }
                now = act.follows(now, lean);
            }
            return now;
        }
    }

    private static final class Act {
        int kind = 0;
        private int a = 0;
        private int b = 0;
        private int c = 0;

        void become(int kind, int a, int b, int c) {
            this.kind = kind;
            this.a = a;
            this.b = b;
            this.c = c;
        }

        int follows(int place, int lean) {
            switch (kind) {
                case TYPED: return Place.afterComing(place, lean, a, b);
                case WAS_CUT: return Place.afterGoing(place, a, b);
                case MOVED: return Place.afterMove(place, lean, a, b, c);
                case SWAPPED: return Place.afterSwap(place, lean, a, b, c);
                default: return place;
            }
        }
    }
}
