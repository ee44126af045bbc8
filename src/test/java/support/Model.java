import java.util.ArrayDeque;
import java.util.ArrayList;
import java.util.Deque;
import java.util.HashSet;
import java.util.LinkedHashSet;
import java.util.List;
import java.util.Set;
import java.util.TreeMap;

/**
 * The document told a second time, by other means and without regard to speed or room: letters are objects
 * whose identity is followed, spans are sorted for each letter, marks are matched against all that there are,
 * places are followed by letting an anchor go through the acts again.
 */
final class Model {
    static final int NONE = -1;

    static final class Letter {
        final int sign;
        int flags;
        int color;
        int size;

        Letter(int sign, int flags, int color, int size) {
            this.sign = sign;
            this.flags = flags;
            this.color = color;
            this.size = size;
        }

        Letter copy() {
            return new Letter(sign, flags, color, size);
        }
    }

    /** FROM, TO, LAYER, ON, OFF, COLOR, GROWS, SIDES of a span; PLACE, LEAN, LOST of an anchor. */
    static final class State {
        List<Letter> text = new ArrayList<>();
        TreeMap<Integer, int[]> spans = new TreeMap<>();
        TreeMap<Integer, int[]> anchors = new TreeMap<>();
        int spansGiven = 0;
        int anchorsGiven = 0;

        State copy() {
            State c = new State();
            for (Letter l : text) {
                c.text.add(l.copy());
            }
            spans.forEach((k, v) -> c.spans.put(k, v.clone()));
            anchors.forEach((k, v) -> c.anchors.put(k, v.clone()));
            c.spansGiven = spansGiven;
            c.anchorsGiven = anchorsGiven;
            return c;
        }

        void come(int p, List<Integer> signs) {
            Letter ahead = p == 0 ? new Letter(0, 0, 0, 4) : text.get(p - 1);
            int k = p;
            for (int sign : signs) {
                text.add(k++, new Letter(sign, ahead.flags, ahead.color, ahead.size));
            }
            shiftForComing(p, signs.size());
        }

        private void shiftForComing(int p, int many) {
            spans.forEach((k, s) -> {
                if (s[0] > p || s[0] == p && s[7] % 2 == 1) {
                    s[0] += many;
                }
                if (s[1] > p || s[1] == p && s[7] >= 2) {
                    s[1] += many;
                }
            });
            anchors.forEach((k, a) -> {
                if (a[0] > p || a[0] == p && a[1] == 1) {
                    a[0] += many;
                }
            });
        }

        void go(int p, int q) {
            anchors.forEach((k, a) -> a[2] += p < a[0] && a[0] < q ? 1 : 0);
            for (int i = q - 1; i >= p; i--) {
                text.remove(i);
                final int gone = i;
                spans.forEach((k, s) -> {
                    s[0] -= s[0] > gone ? 1 : 0;
                    s[1] -= s[1] > gone ? 1 : 0;
                });
                anchors.forEach((k, a) -> a[0] -= a[0] > gone ? 1 : 0);
            }
            spans.values().removeIf(s -> s[0] == s[1]);
        }

        int move(int p, int q, int r) {
            List<Letter> moved = new ArrayList<>(text.subList(p, q));
            Letter behind = r < text.size() ? text.get(r) : null;
            TreeMap<Integer, Letter[]> spansAlong = new TreeMap<>();
            TreeMap<Integer, Letter> anchorsAlong = new TreeMap<>();
            spans.forEach((k, s) -> {
                List<Letter> over = text.subList(s[0], s[1]);
                if (moved.containsAll(over)) {
                    spansAlong.put(k, new Letter[] {over.get(0), over.get(over.size() - 1)});
                }
            });
            anchors.forEach((k, a) -> {
                if (a[0] > p && a[0] < q) {
                    anchorsAlong.put(k, text.get(a[0]));
                }
            });
            TreeMap<Integer, int[]> spansHeld = new TreeMap<>();
            spansAlong.keySet().forEach(k -> spansHeld.put(k, spans.remove(k)));
            TreeMap<Integer, int[]> anchorsHeld = new TreeMap<>();
            anchorsAlong.keySet().forEach(k -> anchorsHeld.put(k, anchors.remove(k)));
            go(p, q);
            int at = behind == null ? text.size() : text.indexOf(behind);
            text.addAll(at, moved);
            shiftForComing(at, moved.size());
            spansHeld.forEach((k, s) -> {
                s[0] = text.indexOf(spansAlong.get(k)[0]);
                s[1] = text.indexOf(spansAlong.get(k)[1]) + 1;
                spans.put(k, s);
            });
            anchorsHeld.forEach((k, a) -> {
                a[0] = text.indexOf(anchorsAlong.get(k));
                anchors.put(k, a);
            });
            return spansAlong.size();
        }

        List<Integer> stackOver(int i) {
            List<Integer> over = new ArrayList<>();
            spans.forEach((k, s) -> {
                if (s[0] <= i && i < s[1]) {
                    over.add(k);
                }
            });
            over.sort((a, b) -> spans.get(a)[2] * 100 + a - spans.get(b)[2] * 100 - b);
            return over;
        }

        static void brush(Letter l, int on, int off, int color, int grows) {
            for (int bit = 1; bit < 16; bit *= 2) {
                if ((on & bit) != 0) {
                    l.flags |= bit;
                }
                if ((off & bit) != 0) {
                    l.flags &= 15 - bit;
                }
            }
            if (color != NONE) {
                l.color = color;
            }
            l.size += grows;
            if (l.size > 9) {
                l.size = 9;
            }
            if (l.size < 0) {
                l.size = 0;
            }
        }

        Letter styled(int i) {
            Letter l = text.get(i).copy();
            for (int k : stackOver(i)) {
                int[] s = spans.get(k);
                brush(l, s[3], s[4], s[5], s[6]);
            }
            return l;
        }

        List<Integer> styles() {
            List<Integer> all = new ArrayList<>();
            for (int i = 0; i < text.size(); i++) {
                Letter l = styled(i);
                all.add(l.flags * 100 + l.color * 10 + l.size);
            }
            return all;
        }

        /** First letter, how many, style. */
        List<int[]> runs() {
            List<int[]> runs = new ArrayList<>();
            List<Integer> styles = styles();
            for (int i = 0; i < styles.size(); i++) {
                int[] last = runs.isEmpty() ? null : runs.get(runs.size() - 1);
                if (last != null && last[2] == styles.get(i)) {
                    last[1]++;
                } else {
                    runs.add(new int[] {i, 1, styles.get(i)});
                }
            }
            return runs;
        }

        boolean isPlace(int p) {
            return 0 <= p && p <= text.size();
        }
    }

    /** What a call did, told so that it can be done again: 0 come, 1 go, 2 move. */
    private record Step(int kind, int a, int b, int c) {
    }

    private record Act(int kind, State before, List<Step> steps) {
    }

    private State now = new State();
    private final List<Integer> tape = new ArrayList<>();
    private final List<Act> acts = new ArrayList<>();
    private final State[] images = new State[2];
    private final int[] refusals = new int[7];
    private int status = 0;
    private int fault = NONE;

    private int no(int by) {
        refusals[-by]++;
        status = by;
        return by;
    }

    private int yes(int answer) {
        status = 0;
        return answer;
    }

    private void act(int kind, Step... steps) {
        acts.add(new Act(kind, now.copy(), List.of(steps)));
        if (acts.size() > 8) {
            acts.remove(0);
        }
    }

    private static boolean in(int low, int v, int high) {
        return low <= v && v <= high;
    }

    private boolean range(int from, int to) {
        return now.isPlace(from) && now.isPlace(to) && from < to;
    }

    private static boolean isLetter(int b) {
        return in(32, b, 126) && b != '[' && b != ']';
    }

    private boolean badTape() {
        return tape.stream().anyMatch(b -> !isLetter(b));
    }

    int feed(int... numbers) {
        if (tape.size() > 380) {
            return NONE;
        }
        for (int n : numbers) {
            for (int shift = 24; shift >= 0; shift -= 8) {
                tape.add(n >> shift & 255);
            }
        }
        return tape.size();
    }

    int end(int n) {
        if (!in(0, n, tape.size())) {
            return NONE;
        }
        tape.subList(n, tape.size()).clear();
        return n;
    }

    int tape(int i) {
        return in(0, i, tape.size() - 1) ? tape.get(i) : NONE;
    }

    int type(int place) {
        if (!now.isPlace(place) || badTape()) {
            return no(-1);
        }
        if (tape.isEmpty()) {
            return no(-4);
        }
        if (now.text.size() + tape.size() > 200) {
            return no(-5);
        }
        act(0, new Step(0, place, tape.size(), 0));
        now.come(place, tape);
        tape.clear();
        return yes(now.text.size());
    }

    int cut(int from, int to) {
        if (!range(from, to)) {
            return no(-1);
        }
        act(1, new Step(1, from, to, 0));
        now.go(from, to);
        return yes(now.text.size());
    }

    int swap(int from, int to) {
        if (!range(from, to) || badTape()) {
            return no(-1);
        }
        if (tape.isEmpty()) {
            return no(-4);
        }
        if (now.text.size() + tape.size() > 200) {
            return no(-5);
        }
        int many = tape.size();
        Step come = new Step(0, from + 1, many, 0);
        Step first = new Step(1, from, from + 1, 0);
        Step others = new Step(1, from + many, from + many + to - from - 1, 0);
        act(12, come, first, others);
        now.come(from + 1, tape);
        now.go(from, from + 1);
        now.go(others.a, others.b);
        tape.clear();
        return yes(now.text.size());
    }

    int move(int from, int to, int at) {
        if (!range(from, to) || !now.isPlace(at)) {
            return no(-1);
        }
        if (in(from, at, to)) {
            return no(-4);
        }
        act(2, new Step(2, from, to, at));
        return yes(now.move(from, to, at));
    }

    private static boolean brushOk(int on, int off, int color, int grows) {
        return in(0, on, 15) && in(0, off, 15) && in(-1, color, 7) && in(-3, grows, 3);
    }

    int lay(int... a) {
        if (!range(a[0], a[1]) || !in(0, a[2], 9) || !brushOk(a[3], a[4], a[5], a[6]) || !in(0, a[7], 3)) {
            return no(-1);
        }
        if (now.spansGiven == 16) {
            return no(-5);
        }
        act(3);
        now.spans.put(now.spansGiven, a.clone());
        return yes(now.spansGiven++);
    }

    int lift(int span) {
        if (!now.spans.containsKey(span)) {
            return no(-2);
        }
        act(4);
        now.spans.remove(span);
        return yes(now.spans.size());
    }

    int set(int span, int what, int v) {
        if (!in(0, what, 1) || !in(0, v, what == 0 ? 9 : 3)) {
            return no(-1);
        }
        if (!now.spans.containsKey(span)) {
            return no(-2);
        }
        act(5);
        int at = what == 0 ? 2 : 7;
        int was = now.spans.get(span)[at];
        now.spans.get(span)[at] = v;
        return yes(was);
    }

    int stretch(int span, int from, int to) {
        if (!range(from, to)) {
            return no(-1);
        }
        if (!now.spans.containsKey(span)) {
            return no(-2);
        }
        act(6);
        now.spans.get(span)[0] = from;
        now.spans.get(span)[1] = to;
        return yes(0);
    }

    int paint(int from, int to, int on, int off, int color, int grows) {
        if (!range(from, to) || !brushOk(on, off, color, grows)) {
            return no(-1);
        }
        act(7);
        int changed = 0;
        for (Letter l : now.text.subList(from, to)) {
            Letter was = l.copy();
            State.brush(l, on, off, color, grows);
            changed += was.flags != l.flags || was.color != l.color || was.size != l.size ? 1 : 0;
        }
        return yes(changed);
    }

    int fast() {
        act(8);
        List<Letter> painted = new ArrayList<>();
        for (int i = 0; i < now.text.size(); i++) {
            painted.add(now.styled(i));
        }
        int were = now.spans.size();
        now.text = painted;
        now.spans.clear();
        return were;
    }

    int pin(int place, int lean) {
        if (!now.isPlace(place) || !in(0, lean, 1)) {
            return no(-1);
        }
        if (now.anchorsGiven == 12) {
            return no(-5);
        }
        act(9);
        now.anchors.put(now.anchorsGiven, new int[] {place, lean, 0});
        return yes(now.anchorsGiven++);
    }

    int unpin(int anchor) {
        if (!now.anchors.containsKey(anchor)) {
            return no(-2);
        }
        act(10);
        return yes(now.anchors.remove(anchor)[0]);
    }

    private static final List<String> MARKS = allMarks();

    private static List<String> allMarks() {
        List<String> all = new ArrayList<>();
        for (String w : "b i u s c0 c1 c2 c3 c4 c5 c6 c7 z0 z1 z2 z3 z4 z5 z6 z7 z8 z9 /b /i /u /s /c /z".split(" ")) {
            all.add("[" + w + "]");
        }
        return all;
    }

    int read() {
        StringBuilder marked = new StringBuilder();
        tape.forEach(b -> marked.append((char) (int) b));
        tape.clear();
        State fresh = new State();
        fault = parsed(marked.toString(), fresh);
        if (fault != NONE) {
            return no(-6);
        }
        act(11);
        now = fresh;
        return yes(now.text.size());
    }

    private static int parsed(String text, State into) {
        List<String> open = new ArrayList<>();
        int at = 0;
        while (at < text.length()) {
            if (text.charAt(at) != '[') {
                if (!isLetter(text.charAt(at)) || into.text.size() == 200) {
                    return at;
                }
                Letter l = new Letter(text.charAt(at), 0, 0, 4);
                for (String w : open) {
                    byMark(l, w);
                }
                into.text.add(l);
                at++;
                continue;
            }
            String rest = text.substring(at);
            String mark = MARKS.stream().filter(rest::startsWith).findFirst().orElse(null);
            if (mark == null) {
                int viable = 0;
                for (int k = 1; k <= rest.length(); k++) {
                    String part = rest.substring(0, k);
                    if (MARKS.stream().anyMatch(m -> m.startsWith(part))) {
                        viable = k;
                    }
                }
                return at + viable;
            }
            String w = mark.substring(1, mark.length() - 1);
            if (w.startsWith("/")) {
                if (open.isEmpty() || open.get(open.size() - 1).charAt(0) != w.charAt(1)) {
                    return at;
                }
                open.remove(open.size() - 1);
            } else {
                if (open.size() == 8) {
                    return at;
                }
                open.add(w);
            }
            at += mark.length();
        }
        return open.isEmpty() ? NONE : text.length();
    }

    private static void byMark(Letter l, String w) {
        switch (w.charAt(0)) {
            case 'c' -> l.color = w.charAt(1) - '0';
            case 'z' -> l.size = w.charAt(1) - '0';
            default -> l.flags |= 1 << "bius".indexOf(w.charAt(0));
        }
    }

    int fault() {
        return fault;
    }

    private static Set<String> marksOf(int style) {
        Set<String> marks = new LinkedHashSet<>();
        for (int bit = 0; bit < 4; bit++) {
            if ((style / 100 >> bit) % 2 == 1) {
                marks.add("bius".substring(bit, bit + 1));
            }
        }
        if (style / 10 % 10 != 0) {
            marks.add("c" + style / 10 % 10);
        }
        if (style % 10 != 4) {
            marks.add("z" + style % 10);
        }
        return marks;
    }

    String written() {
        StringBuilder out = new StringBuilder();
        Deque<String> open = new ArrayDeque<>();
        for (int[] run : now.runs()) {
            Set<String> has = marksOf(run[2]);
            while (!has.containsAll(open)) {
                out.append("[/").append(open.pop().charAt(0)).append("]");
            }
            for (String w : has) {
                if (!open.contains(w)) {
                    open.push(w);
                    out.append("[").append(w).append("]");
                }
            }
            for (Letter l : now.text.subList(run[0], run[0] + run[1])) {
                out.append((char) l.sign);
            }
        }
        while (!open.isEmpty()) {
            out.append("[/").append(open.pop().charAt(0)).append("]");
        }
        return out.toString();
    }

    int write() {
        String out = written();
        if (out.length() > 400) {
            return no(-5);
        }
        tape.clear();
        out.chars().forEach(tape::add);
        return yes(out.length());
    }

    int undo() {
        if (acts.isEmpty()) {
            return no(-4);
        }
        Act last = acts.remove(acts.size() - 1);
        now = last.before;
        return yes(last.kind);
    }

    int image(int k) {
        if (!in(0, k, 1)) {
            return no(-1);
        }
        images[k] = now.copy();
        return yes(now.text.size());
    }

    int back(int k) {
        if (!in(0, k, 1)) {
            return no(-1);
        }
        if (images[k] == null) {
            return no(-2);
        }
        now = images[k].copy();
        acts.clear();
        return yes(now.text.size());
    }

    private boolean isLetterAt(int i) {
        return in(0, i, now.text.size() - 1);
    }

    int letter(int i) {
        return isLetterAt(i) ? now.text.get(i).sign : NONE;
    }

    int style(int i, int what) {
        if (!isLetterAt(i) || !in(0, what, 6)) {
            return NONE;
        }
        Letter l = what >= 3 && what < 6 ? now.text.get(i) : now.styled(i);
        return what == 6 ? l.flags * 100 + l.color * 10 + l.size : new int[] {l.flags, l.color, l.size}[what % 3];
    }

    int run(int k, int what) {
        List<int[]> runs = now.runs();
        if (!in(0, k, runs.size() - 1) || !in(0, what, 4)) {
            return NONE;
        }
        int[] r = runs.get(k);
        return new int[] {r[0], r[1], r[2] / 100, r[2] / 10 % 10, r[2] % 10}[what];
    }

    int stack(int i, int k) {
        if (!isLetterAt(i) || !in(0, k, now.stackOver(i).size() - 1)) {
            return NONE;
        }
        return now.stackOver(i).get(k);
    }

    int tells(int i, int what) {
        if (!isLetterAt(i) || !in(0, what, 5)) {
            return NONE;
        }
        int told = NONE;
        for (int k : now.stackOver(i)) {
            int[] s = now.spans.get(k);
            boolean tells = switch (what) {
                case 0 -> s[5] != NONE;
                case 1 -> s[6] != 0;
                default -> ((s[3] | s[4]) & 1 << what - 2) != 0;
            };
            told = tells ? k : told;
        }
        return told;
    }

    private State without(int span) {
        State s = now.copy();
        s.spans.remove(span);
        return s;
    }

    int span(int span, int what) {
        if (!now.spans.containsKey(span) || !in(0, what, 9)) {
            return Integer.MIN_VALUE;
        }
        if (what == 8) {
            return without(span).styles().equals(now.styles()) ? 1 : 0;
        }
        return what == 9 ? without(span).runs().size() : now.spans.get(span)[what];
    }

    int anchor(int anchor, int what) {
        return now.anchors.containsKey(anchor) && in(0, what, 2) ? now.anchors.get(anchor)[what] : NONE;
    }

    int find(int from) {
        return findBy(from, 0, 0, NONE, 0, 9);
    }

    int findBy(int from, int mask, int flags, int color, int low, int high) {
        boolean ok = now.isPlace(from) && in(0, mask, 15) && in(0, flags, 15) && in(-1, color, 7);
        if (!ok || !in(0, low, 9) || !in(0, high, 9) || tape.isEmpty()) {
            return NONE;
        }
        List<Integer> styles = now.styles();
        for (int p = from; p <= now.text.size() - tape.size(); p++) {
            boolean all = true;
            for (int k = 0; k < tape.size(); k++) {
                int s = styles.get(p + k);
                all &= now.text.get(p + k).sign == tape.get(k) && (s / 100 & mask) == (flags & mask);
                all &= (color == NONE || s / 10 % 10 == color) && in(low, s % 10, high);
            }
            if (all) {
                return p;
            }
        }
        return NONE;
    }

    int styled(int from, int mask, int flags, int color, int what) {
        boolean ok = isLetterAt(from) && in(0, mask, 15) && in(0, flags, 15) && in(-1, color, 7);
        if (!ok || !in(0, what, 2)) {
            return NONE;
        }
        List<Integer> styles = now.styles();
        List<Integer> which = new ArrayList<>();
        for (int i = from; i < styles.size(); i++) {
            int s = styles.get(i);
            if ((s / 100 & mask) == (flags & mask) && (color == NONE || s / 10 % 10 == color)) {
                which.add(i);
            }
        }
        if (which.isEmpty()) {
            return NONE;
        }
        int side = 0;
        while (which.contains(which.get(0) + side)) {
            side++;
        }
        return new int[] {which.get(0), side, which.size()}[what];
    }

    private static State withOneAnchor(State s, int place, int lean) {
        State c = s.copy();
        c.spans.clear();
        c.anchors.clear();
        c.anchors.put(0, new int[] {place, lean, 0});
        return c;
    }

    private static void again(State s, Step step) {
        if (step.kind == 0) {
            List<Integer> signs = new ArrayList<>();
            for (int k = 0; k < step.b; k++) {
                signs.add((int) 'x');
            }
            s.come(step.a, signs);
        } else if (step.kind == 1) {
            s.go(step.a, step.b);
        } else {
            s.move(step.a, step.b, step.c);
        }
    }

    int follow(int place, int lean, int p, int q, boolean comes) {
        if (!now.isPlace(place) || !in(0, lean, 1) || !now.isPlace(p)) {
            return NONE;
        }
        if (comes ? !in(1, q, 200) : !range(p, q)) {
            return NONE;
        }
        State s = withOneAnchor(now, place, lean);
        again(s, new Step(comes ? 0 : 1, p, q, 0));
        return s.anchors.get(0)[0];
    }

    int through(int place, int lean, int n) {
        if (!in(1, n, acts.size()) || !in(0, lean, 1)) {
            return NONE;
        }
        List<Act> latest = acts.subList(acts.size() - n, acts.size());
        if (!latest.get(0).before.isPlace(place) || latest.stream().anyMatch(a -> a.kind == 11)) {
            return NONE;
        }
        State s = withOneAnchor(latest.get(0).before, place, lean);
        latest.forEach(a -> a.steps.forEach(step -> again(s, step)));
        return s.anchors.get(0)[0];
    }

    int idle() {
        int bits = 0;
        for (int k : now.spans.keySet()) {
            bits += span(k, 8) << k;
        }
        return bits;
    }

    int raised(int span, int layer) {
        if (!now.spans.containsKey(span) || !in(0, layer, 9)) {
            return NONE;
        }
        State s = now.copy();
        s.spans.get(span)[2] = layer;
        return s.runs().size();
    }

    int best(int span, int what) {
        if (!now.spans.containsKey(span) || !in(0, what, 1)) {
            return NONE;
        }
        int[] best = {0, 1000};
        for (int layer = 9; layer >= 0; layer--) {
            if (raised(span, layer) <= best[1]) {
                best = new int[] {layer, raised(span, layer)};
            }
        }
        return best[what];
    }

    int crossed() {
        int first = NONE;
        for (int a : now.spans.descendingKeySet()) {
            for (int b : now.spans.descendingKeySet()) {
                Set<Integer> left = over(a);
                Set<Integer> right = over(b);
                Set<Integer> both = new HashSet<>(left);
                both.retainAll(right);
                if (a < b && !both.isEmpty() && !left.containsAll(right) && !right.containsAll(left)) {
                    first = 100 * a + b;
                }
            }
        }
        return first;
    }

    private Set<Integer> over(int span) {
        Set<Integer> all = new HashSet<>();
        for (int i = now.spans.get(span)[0]; i < now.spans.get(span)[1]; i++) {
            all.add(i);
        }
        return all;
    }

    int count(int what) {
        List<int[]> runs = now.runs();
        int longest = runs.stream().mapToInt(r -> r[1]).max().orElse(0);
        int most = 0;
        for (int i = 0; i < now.text.size(); i++) {
            most = Math.max(most, now.stackOver(i).size());
        }
        int firstLongest = NONE;
        for (int k = runs.size() - 1; k >= 0; k--) {
            firstLongest = runs.get(k)[1] == longest ? k : firstLongest;
        }
        int lost = now.anchors.values().stream().mapToInt(a -> a[2]).sum();
        int[] all = {now.text.size(), runs.size(), now.spans.size(), now.anchors.size(), now.spansGiven,
            now.anchorsGiven, longest, firstLongest, new HashSet<>(now.styles()).size(), most, lost,
            written().length(), acts.size(), tape.size(), refusals[1], refusals[2], refusals[4], refusals[5],
            refusals[6]};
        return in(0, what, all.length - 1) ? all[what] : NONE;
    }

    int status() {
        return status;
    }
}
