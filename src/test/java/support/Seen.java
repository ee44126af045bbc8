/** All that an object tells of itself, as texts: two objects that stand alike tell it alike. */
final class Seen {
    private Seen() {
    }

    /** LETTERS, SPANS, ANCHORS and what is counted of them: all that undo() and back() bring. */
    static String standing(StyledRuns x) {
        StringBuilder out = new StringBuilder("counts");
        for (int what = 0; what <= 11; what++) {
            out.append(' ').append(x.count(what));
        }
        letters(x, out);
        spansAndAnchors(x, out);
        return out.toString();
    }

    /** What stands now, but for FAULT and what is told of refused calls. */
    static String now(StyledRuns x) {
        StringBuilder out = new StringBuilder(standing(x)).append(" to undo ").append(x.count(12)).append(" tape");
        int bytes = x.count(13);
        for (int i = 0; i <= bytes; i++) {
            if (isLookedAt(i, bytes)) {
                out.append(' ').append(x.tape(i));
            }
        }
        return out.toString();
    }

    private static void letters(StyledRuns x, StringBuilder out) {
        int letters = x.count(0);
        for (int i = 0; i <= letters; i++) {
            if (!isLookedAt(i, letters)) {
                continue;
            }
            out.append(" letter ").append(i).append(' ').append(x.letter(i));
            for (int what = 3; what <= 6; what++) {
                out.append(' ').append(x.style(i, what));
            }
        }
    }

    private static void spansAndAnchors(StyledRuns x, StringBuilder out) {
        int spans = x.count(4);
        for (int k = 0; k < spans; k++) {
            boolean stands = x.span(k, 0) != Integer.MIN_VALUE;
            out.append(" span ").append(k);
            for (int what = 0; what <= 7 && stands; what++) {
                out.append(' ').append(x.span(k, what));
            }
        }
        int anchors = x.count(5);
        for (int k = 0; k < anchors; k++) {
            boolean stands = x.anchor(k, 0) != StyledRuns.NONE;
            out.append(" anchor ").append(k);
            for (int what = 0; what <= 2 && stands; what++) {
                out.append(' ').append(x.anchor(k, what));
            }
        }
    }

    /** An object is used for 512 calls at most: of long rows the ends and some between are looked at. */
    private static boolean isLookedAt(int i, int length) {
        return i < 10 || i >= length - 3 || i % 32 == 0;
    }

    /** By what the latest call was refused, and how many were refused by each. */
    static String refusals(StyledRuns x) {
        StringBuilder out = new StringBuilder("refused ").append(x.status());
        for (int what = 14; what <= 18; what++) {
            out.append(' ').append(x.count(what));
        }
        return out.toString();
    }

    /** What undo() and back() bring; the object is spent then. */
    static String kept(StyledRuns x) {
        StringBuilder out = new StringBuilder("undone");
        int told = 0;
        for (int k = 0; k < 9 && told >= 0; k++) {
            told = x.undo();
            out.append(' ').append(told).append(" to");
            for (int what : new int[] {0, 1, 2, 3, 4, 5, 10, 11, 12}) {
                out.append(' ').append(x.count(what));
            }
            out.append(' ').append(x.letter(0)).append(' ').append(x.style(0, 6));
        }
        for (int k = 0; k < 2; k++) {
            out.append(" image ").append(k).append(' ').append(x.back(k)).append(' ');
            out.append(x.status() == 0 ? now(x) : "none");
        }
        return out.toString();
    }
}
