import java.util.Random;

/** Many calls, chosen by fixed seeds, on the class and on the model: every answer alike. */
public final class ModelTest {
    private static final int OBJECTS = 300;
    private static final int CALLS = 220;
    private static final Check check = new Check();

    private final Random random;
    private final StyledRuns x = new StyledRuns();
    private final Model m = new Model();
    private final int wrongInHundred;
    private final int longest;

    private ModelTest(int seed) {
        random = new Random(seed);
        wrongInHundred = new int[] {0, 3, 15, 40}[seed % 4];
        longest = seed % 10 == 0 ? 150 : seed % 3 == 0 ? 4 : 12;
    }

    public static void main(String[] args) {
        int objects = args.length > 0 ? Integer.parseInt(args[0]) : OBJECTS;
        int first = args.length > 1 ? Integer.parseInt(args[1]) : 0;
        for (int seed = first; seed < first + objects && !check.hasWrong(); seed++) {
            check.head("seed " + seed);
            ModelTest test = new ModelTest(seed);
            for (int call = 0; call < CALLS && !check.hasWrong(); call++) {
                test.oneCall();
                test.askSome();
                if (call % 10 == 9) {
                    test.askAll();
                }
            }
        }
        check.close();
    }

    private void due(String call, int got, int want) {
        check.due(call, got, want);
    }

    private int below(int bound) {
        return random.nextInt(bound);
    }

    /** A number low .. high, or now and then one that is not. */
    private int num(int low, int high) {
        if (below(100) >= wrongInHundred) {
            return low + below(Math.max(1, high - low + 1));
        }
        int[] others = {low - 1, high + 1, low - 1 - below(300), high + 1 + below(300), Integer.MIN_VALUE,
            Integer.MAX_VALUE};
        return others[below(others.length)];
    }

    private int place() {
        return num(0, x.count(0));
    }

    /** Two places, mostly the lesser first. */
    private int[] range() {
        int a = place();
        int b = place();
        boolean turn = below(100) < 97;
        return turn && a > b ? new int[] {b, a} : new int[] {a, b};
    }

    private int spanNumber() {
        return num(0, Math.max(0, x.count(4) - 1));
    }

    private int anchorNumber() {
        return num(0, Math.max(0, x.count(5) - 1));
    }

    private int color() {
        return num(-1, 7);
    }

    private void tape(String text) {
        due("end(0)", x.end(0), m.end(0));
        byte[] bytes = text.getBytes(java.nio.charset.StandardCharsets.ISO_8859_1);
        for (int k = 0; k < bytes.length; k += 20) {
            int[] f = new int[5];
            for (int j = 0; j < 5; j++) {
                f[j] = Check.four(bytes, k + 4 * j);
            }
            due("feed()", x.feed(f[0], f[1], f[2], f[3], f[4]), m.feed(f));
        }
        int length = Math.min(bytes.length, x.count(13));
        due("end()", x.end(length), m.end(length));
    }

    private String letters() {
        StringBuilder text = new StringBuilder();
        int many = 1 + below(below(5) == 0 ? 3 : longest);
        for (int k = 0; k < many; k++) {
            text.append((char) (below(10) == 0 ? 32 + below(95) : 'a' + below(3)));
        }
        String signs = text.toString();
        return below(100) < wrongInHundred ? signs : signs.replace('[', '(').replace(']', ')');
    }

    private String marked() {
        StringBuilder text = new StringBuilder();
        StringBuilder open = new StringBuilder();
        int parts = below(3 * longest);
        for (int k = 0; k < parts && text.length() < 340; k++) {
            int which = below(10);
            if (which < 3 && open.length() < (below(60) == 0 ? 9 : 8)) {
                char w = "biuscz".charAt(below(6));
                open.append(w);
                text.append('[').append(w);
                if (w == 'c' || w == 'z') {
                    text.append(below(w == 'c' ? 8 : 10));
                }
                text.append(']');
            } else if (which < 6 && open.length() > 0) {
                text.append("[/").append(open.charAt(open.length() - 1)).append(']');
                open.setLength(open.length() - 1);
            } else {
                text.append((char) ('a' + below(3)));
            }
        }
        for (int k = open.length() - 1; k >= 0; k--) {
            text.append("[/").append(open.charAt(k)).append(']');
        }
        if (below(3) == 0 && text.length() > 0) {
            spoil(text);
        }
        return text.toString();
    }

    private void spoil(StringBuilder text) {
        int at = below(text.length());
        switch (below(4)) {
            case 0 -> text.setLength(at);
            case 1 -> text.setCharAt(at, "[]/biuscz0789 \n".charAt(below(15)));
            case 2 -> text.deleteCharAt(at);
            default -> text.insert(at, "[]/biuscz0789 \u00e9".charAt(below(15)));
        }
    }

    private void oneCall() {
        int which = below(100);
        if (which < 30) {
            lettersCall(which);
        } else if (which < 75) {
            spansCall(which - 30);
        } else {
            otherCall(which - 75);
        }
    }

    private void lettersCall(int which) {
        if (which < 11) {
            if (below(20) != 0) {
                tape(letters());
            }
            int p = place();
            due("type(" + p + ")", x.type(p), m.type(p));
            return;
        }
        int[] r = range();
        if (which < 16) {
            due("cut(" + r[0] + ", " + r[1] + ")", x.cut(r[0], r[1]), m.cut(r[0], r[1]));
        } else if (which < 21) {
            if (below(10) != 0) {
                tape(letters());
            }
            due("swap(" + r[0] + ", " + r[1] + ")", x.swap(r[0], r[1]), m.swap(r[0], r[1]));
        } else {
            int at = place();
            due("move(" + r[0] + ", " + r[1] + ", " + at + ")", x.move(r[0], r[1], at), m.move(r[0], r[1], at));
        }
    }

    private void spansCall(int which) {
        int[] r = range();
        if (which < 16) {
            int[] a = {r[0], r[1], num(0, 9), num(0, 15) & num(0, 15), num(0, 15) & num(0, 15), color(), num(-3, 3),
                num(0, 3)};
            int got = x.lay(a[0], a[1], a[2], a[3], a[4], a[5], a[6], a[7]);
            due("lay(" + java.util.Arrays.toString(a) + ")", got, m.lay(a));
        } else if (which < 19) {
            int s = spanNumber();
            due("lift(" + s + ")", x.lift(s), m.lift(s));
        } else if (which < 24) {
            int s = spanNumber();
            int what = num(0, 1);
            int v = num(0, what == 0 ? 9 : 3);
            due("set(" + s + ", " + what + ", " + v + ")", x.set(s, what, v), m.set(s, what, v));
        } else if (which < 28) {
            int s = spanNumber();
            due("stretch(" + s + ")", x.stretch(s, r[0], r[1]), m.stretch(s, r[0], r[1]));
        } else if (which < 35) {
            int[] b = {num(0, 15), num(0, 15), color(), num(-3, 3)};
            int want = m.paint(r[0], r[1], b[0], b[1], b[2], b[3]);
            due("paint()", x.paint(r[0], r[1], b[0], b[1], b[2], b[3]), want);
        } else if (which < 36) {
            due("fast()", x.fast(), m.fast());
        } else if (which < 43) {
            int lean = num(0, 1);
            due("pin(" + r[0] + ", " + lean + ")", x.pin(r[0], lean), m.pin(r[0], lean));
        } else {
            int a = anchorNumber();
            due("unpin(" + a + ")", x.unpin(a), m.unpin(a));
        }
    }

    private void otherCall(int which) {
        if (which < 4) {
            String text = marked();
            if (below(4) == 0) {
                due("write()", x.write(), m.write());
            } else {
                tape(text);
            }
            due("read() of " + text, x.read(), m.read());
            due("fault() of " + text, x.fault(), m.fault());
        } else if (which < 7) {
            due("write()", x.write(), m.write());
        } else if (which < 15) {
            due("undo()", x.undo(), m.undo());
        } else if (which < 17) {
            int k = num(0, 1);
            due("image(" + k + ")", x.image(k), m.image(k));
        } else if (which < 18) {
            int k = num(0, 1);
            due("back(" + k + ")", x.back(k), m.back(k));
        } else if (which < 20) {
            int[] f = {random.nextInt(), random.nextInt(), random.nextInt(), random.nextInt(), random.nextInt()};
            due("feed()", x.feed(f[0], f[1], f[2], f[3], f[4]), m.feed(f));
        } else if (which < 22) {
            int n = num(0, x.count(13));
            due("end(" + n + ")", x.end(n), m.end(n));
        } else {
            tape(letters());
        }
    }

    private void askSome() {
        int s = spanNumber();
        int k = num(0, 9);
        due("status()", x.status(), m.status());
        due("fault()", x.fault(), m.fault());
        due("raised(" + s + ", " + k + ")", x.raised(s, k), m.raised(s, k));
        int what = num(0, 18);
        due("count(" + what + ")", x.count(what), m.count(what));
        for (int j = 0; j < 4; j++) {
            int p = place();
            int lean = num(0, 1);
            int n = num(1, 8);
            due("through(" + p + ", " + lean + ", " + n + ")", x.through(p, lean, n), m.through(p, lean, n));
            int a = place();
            boolean comes = below(2) == 0;
            int q = comes ? num(1, 200) : place();
            due("follow()", x.follow(p, lean, a, q, comes), m.follow(p, lean, a, q, comes));
            int mask = num(0, 15) & num(0, 15);
            int flags = num(0, 15);
            int c = below(2) == 0 ? -1 : color();
            int w = num(0, 2);
            due("styled()", x.styled(p, mask, flags, c, w), m.styled(p, mask, flags, c, w));
        }
        findSome();
    }

    private void findSome() {
        if (below(3) != 0) {
            return;
        }
        tape(letters().substring(0, 1));
        for (int j = 0; j < 3; j++) {
            int p = place();
            due("find(" + p + ")", x.find(p), m.find(p));
            int[] a = {num(0, 15) & num(0, 15), num(0, 15), below(2) == 0 ? -1 : color(), num(0, 5), num(3, 9)};
            int want = m.findBy(p, a[0], a[1], a[2], a[3], a[4]);
            due("findBy()", x.findBy(p, a[0], a[1], a[2], a[3], a[4]), want);
        }
    }

    private void askAll() {
        for (int what = -1; what <= 19; what++) {
            due("count(" + what + ")", x.count(what), m.count(what));
        }
        int letters = x.count(0);
        for (int i = -1; i <= letters; i++) {
            due("letter(" + i + ")", x.letter(i), m.letter(i));
            for (int what = -1; what <= 7; what++) {
                due("style(" + i + ", " + what + ")", x.style(i, what), m.style(i, what));
                due("tells(" + i + ", " + what + ")", x.tells(i, what), m.tells(i, what));
                due("stack(" + i + ", " + what + ")", x.stack(i, what), m.stack(i, what));
            }
        }
        for (int k = -1; k <= Math.min(20, x.count(1)); k++) {
            for (int what = -1; what <= 5; what++) {
                due("run(" + k + ", " + what + ")", x.run(k, what), m.run(k, what));
            }
        }
        for (int k = -1; k <= 16; k++) {
            for (int what = -1; what <= 10; what++) {
                due("span(" + k + ", " + what + ")", x.span(k, what), m.span(k, what));
            }
            for (int what = -1; what <= 3; what++) {
                due("anchor(" + k + ", " + what + ")", x.anchor(k, what), m.anchor(k, what));
            }
            if (letters < 30 || k == 3) {
                due("best(" + k + ", 0)", x.best(k, 0), m.best(k, 0));
                due("best(" + k + ", 1)", x.best(k, 1), m.best(k, 1));
            }
        }
        for (int i = -1; i <= x.count(13); i++) {
            due("tape(" + i + ")", x.tape(i), m.tape(i));
        }
        due("idle()", x.idle(), m.idle());
        due("crossed()", x.crossed(), m.crossed());
    }
}
