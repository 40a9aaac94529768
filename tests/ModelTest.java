import java.util.List;

/** Long runs of drawn calls on an object and on the model beside it: all answers must be the same. */
public final class ModelTest {
    private static final String[] PARTS = {"f", "f", "f", "2", "12", "0", "(", ")", "[", ",", "]2", "]1", "]0", "*", "+", "-", " ", "]8",
        "1000", "g", "]", "]9", "] 3", "ff", "999", "f2"};
    private static final String[] TEXTS = {"f", "[f,f]2", "[f,f]4", "f*f", "[f,[f,f]2]1", "[[f,f]2,[f,f]2]2", "[f,f]1", "-f", "3*f*f",
        "[f,f]0+f*f", "[[f,f]2,f]4", "1", "f+f", "- ( f + - f ) * 2", "f*f*f*f*f*f", "[[f,f]2,[f,f]2]4", "[f,f]2*[f,f]2",
        "[f,[f,[f,f]2]1]1", "[f*f,f*f]4", "(f+f)*(f+2*f)", "[f,f]6", "[f,f]8", "[f*f*f*f*f,f*f*f*f*f]8", "[f,f*f]3", "-[f,f]2+[f,f]2"};

    private final Drawn drawn;
    private final LetterForms x = new LetterForms();
    private final Model m = new Model();
    private final String name;
    private int calls = 0;
    private boolean small = true;

    private ModelTest(int seed) {
        drawn = new Drawn(seed);
        name = "run " + seed + ": ";
    }

    public static void main(String[] args) {
        for (int seed = 1; seed <= 60; seed++) {
            new ModelTest(seed).run();
        }
        Check.end("ModelTest");
    }

    private void both(String what, Check.Call mine, Check.Call model) {
        Check.due(name + calls + " " + what, Check.answer(model), mine);
        calls++;
    }

    private void run() {
        int p = List.of(11, 13, 17, 19).get(drawn.below(4));
        both("field " + p, () -> Check.done(() -> x.field(p)), () -> Check.done(() -> m.field(p)));
        small = p <= 13;
        while (calls < 490) {
            step();
        }
        for (int what = -1; what <= 7; what++) {
            int w = what;
            both("stock " + w, () -> x.stock(w), () -> m.stock(w));
        }
    }

    private void bytes(int... bytes) {
        both("end 0", () -> x.end(0), () -> m.end(0));
        for (int from = 0; from < bytes.length; from += 20) {
            int[] n = new int[5];
            for (int k = 0; k < 20; k++) {
                n[k / 4] = n[k / 4] << 8 | (from + k < bytes.length ? bytes[from + k] : 0);
            }
            both("feed", () -> x.feed(n[0], n[1], n[2], n[3], n[4]), () -> m.feed(n));
        }
        both("end", () -> x.end(bytes.length), () -> m.end(bytes.length));
    }

    private void newForm() {
        int[] n = new int[drawn.once(12) ? drawn.between(0, 11) : drawn.between(1, 9)];
        boolean nought = drawn.once(10);
        boolean few = drawn.once(3);
        for (int k = 0; k < n.length; k++) {
            n[k] = nought || few && drawn.once(2) ? 0 : drawn.below(256);
        }
        bytes(n);
        both("form", x::form, m::form);
    }

    private void newSigns() {
        StringBuilder text = new StringBuilder();
        if (drawn.once(3)) {
            for (int k = drawn.between(0, 9); k >= 0; k--) {
                text.append(PARTS[drawn.below(PARTS.length)]);
            }
        } else {
            text.append(TEXTS[drawn.below(TEXTS.length)]);
        }
        bytes(Check.bytes(text.toString()));
        both("signs " + text, x::signs, m::signs);
        both("fault " + text, x::fault, m::fault);
    }

    private int n() {
        return drawn.once(25) ? drawn.between(-2, 17) : drawn.below(Math.max(1, m.stock(1)));
    }

    private int t() {
        return drawn.once(25) ? drawn.between(-2, 9) : drawn.below(Math.max(1, m.stock(2)));
    }

    private int s() {
        return drawn.once(25) ? drawn.between(-2, 9) : drawn.below(Math.max(1, m.stock(3)));
    }

    private void step() {
        int k = drawn.between(-2, 9);
        int a = n();
        int b = n();
        int i = t();
        int j = t();
        int u = s();
        int v = s();
        switch (drawn.below(44)) {
            case 0: case 1: case 2: newForm(); break;
            case 3: case 4: newSigns(); break;
            case 5: case 6: newTable(); break;
            case 7: case 8: case 9: both("mix " + a + " " + i, () -> x.mix(a, i), () -> m.mix(a, i)); break;
            case 10: case 11: both("undo", x::undo, m::undo); break;
            case 12: both("redo", x::redo, m::redo); break;
            case 13: case 14: all(a); break;
            case 15: at(a); break;
            case 16: both("det " + i, () -> x.det(i), () -> m.det(i)); break;
            case 17: both("told " + i + " " + k, () -> x.told(i, k), () -> m.told(i, k)); break;
            case 18: case 19: case 20: values(u, a); break;
            case 21: both("rank " + u, () -> x.rank(u, false), () -> m.rank(u, false)); break;
            case 22: both("weight " + u, () -> x.rank(u, true), () -> m.rank(u, true)); break;
            case 23: case 24: both("stays " + u + " " + a + " " + i, () -> x.stays(u, a, i), () -> m.stays(u, a, i)); break;
            case 25: both("agree " + u + " " + v + " " + k, () -> x.agree(u, v, k), () -> m.agree(u, v, k)); break;
            case 26: span(); break;
            case 27: both("root " + a + " " + k * 2, () -> x.root(a, k * 2), () -> m.root(a, k * 2)); break;
            case 28: both("roots " + a, () -> x.roots(a), () -> m.roots(a)); break;
            case 29: both("empty " + a, () -> x.empty(a), () -> m.empty(a)); break;
            case 30: both("join " + i + " " + j, () -> x.join(i, j), () -> m.join(i, j)); break;
            case 31: both("turn " + i, () -> x.turn(i), () -> m.turn(i)); break;
            case 32: case 33: quotients(a, b); break;
            case 34: commons(a, b); break;
            case 35: both("plain " + a, () -> x.plain(a), () -> m.plain(a)); break;
            case 36: overlaps(a, b); break;
            case 37: both("image", () -> Check.done(x::image), () -> Check.done(m::image)); break;
            case 38: both("back", x::back, m::back); break;
            case 39: field(); break;
            case 40: tape(); break;
            default: dear(a, b, k); break;
        }
    }

    private void newTable() {
        int bound = drawn.once(4) ? Integer.MAX_VALUE : 25;
        int a = drawn.below(bound) - bound / 2;
        int b = drawn.below(bound) - bound / 2;
        int c = drawn.below(bound) - bound / 2;
        int d = drawn.once(6) ? b * c * a : drawn.below(bound) - bound / 2;
        both("table " + a + " " + b + " " + c + " " + d, () -> x.table(a, b, c, d), () -> m.table(a, b, c, d));
    }

    private void all(int a) {
        int most = m.stock(1) > a && a >= 0 ? m.look(a, -1) : 0;
        for (int k = -2; k <= most + 1; k++) {
            int at = k;
            both("look " + a + " " + at, () -> x.look(a, at), () -> m.look(a, at));
        }
    }

    private void at(int a) {
        int x0 = drawn.between(-50, 50);
        int y0 = drawn.once(4) ? Integer.MIN_VALUE : drawn.between(-50, 50);
        both("at " + a + " " + x0 + " " + y0, () -> x.at(a, x0, y0), () -> m.at(a, x0, y0));
    }

    private void values(int u, int a) {
        for (int n = 0; n < 4; n++) {
            int k = n == 0 ? -1 : drawn.between(-2, n * 8);
            both("value " + u + " " + a + " " + k, () -> x.value(u, a, k), () -> m.value(u, a, k));
        }
    }

    private void span() {
        int set = drawn.once(3) ? drawn.below(1 << 30) - (1 << 29) : 1 << drawn.below(8) | 1 << drawn.below(8) | 1 << drawn.below(8);
        int degree = drawn.between(0, 9);
        int seed = drawn.once(3) ? Integer.MIN_VALUE + drawn.below(99) : drawn.below(1000);
        both("span " + set + " " + degree + " " + seed, () -> x.span(set, degree, seed), () -> m.span(set, degree, seed));
        both("basis " + set + " " + degree + " " + seed, () -> x.basis(set, degree, seed), () -> m.basis(set, degree, seed));
    }

    private void quotients(int a, int b) {
        for (int n = -2; n <= 8; n += 2) {
            int k = n == 8 ? -1 : n;
            both("quotient " + a + " " + b + " " + k, () -> x.quotient(a, b, k), () -> m.quotient(a, b, k));
        }
    }

    private void commons(int a, int b) {
        for (int n = -2; n <= 3; n++) {
            int k = n;
            both("common " + a + " " + b + " " + k, () -> x.common(a, b, k), () -> m.common(a, b, k));
        }
    }

    private void overlaps(int a, int b) {
        int by = drawn.between(-1, 6);
        for (int n = -2; n <= 6; n++) {
            int k = n;
            both("overlap " + a + " " + b + " " + by + " " + k, () -> x.overlap(a, b, by, k), () -> m.overlap(a, b, by, k));
        }
    }

    private void field() {
        int p = drawn.between(10, 20);
        both("field " + p, () -> Check.done(() -> x.field(p)), () -> Check.done(() -> m.field(p)));
    }

    private void tape() {
        int n = drawn.between(-3, 420);
        int[] all = {drawn.below(1 << 30) * 7, 2, 3, drawn.below(99), -1};
        both("feed", () -> x.feed(all[0], all[1], all[2], all[3], all[4]), () -> m.feed(all));
        both("end " + n, () -> x.end(n), () -> m.end(n));
        both("stock " + n, () -> x.stock(n), () -> m.stock(n));
    }

    private void dear(int a, int b, int k) {
        int what = drawn.below(small ? 9 : 7);
        if (what <= 1) {
            both("same " + a + " " + b, () -> x.same(a, b), () -> m.same(a, b));
        } else if (what == 2) {
            both("keep " + a, () -> x.keep(a), () -> m.keep(a));
        } else if (what == 3) {
            both("kind " + a, () -> x.kind(a), () -> m.kind(a));
        } else if (what == 4 && small && drawn.once(5)) {
            both("orbit " + a, () -> x.orbit(a), () -> m.orbit(a));
        } else if (what >= 7 && x.stock(0) == 11) {
            both("powers " + a + " " + k, () -> x.powers(a, k), () -> m.powers(a, k));
        }
    }
}
