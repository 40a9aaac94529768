import java.util.ArrayList;
import java.util.Arrays;
import java.util.List;
import java.util.NoSuchElementException;

/** The document once more, as plainly as can be: what the class answers is compared with it. */
final class Model {
    private static final class State {
        int p = 11;
        List<int[]> forms = new ArrayList<>();
        List<int[]> tables = new ArrayList<>();
        List<Text> signs = new ArrayList<>();
        // an act: form, and its numbers ahead of it and after it
        List<int[][]> done = new ArrayList<>();
        List<int[][]> undone = new ArrayList<>();

        State copy() {
            State s = new State();
            s.p = p;
            s.forms = new ArrayList<>(forms);
            s.tables = new ArrayList<>(tables);
            s.signs = new ArrayList<>(signs);
            s.done = new ArrayList<>(done);
            s.undone = new ArrayList<>(undone);
            return s;
        }
    }

    private State s = new State();
    private State kept = null;
    private List<Integer> tape = new ArrayList<>();
    private int fault = -1;

    private int[] f(int n) {
        return s.forms.get(told(n, s.forms));
    }

    private int[] t(int n) {
        return s.tables.get(told(n, s.tables));
    }

    private Text g(int n) {
        return s.signs.get(told(n, s.signs));
    }

    private static int told(int n, List<?> all) {
        if (n < 0 || n >= all.size()) {
            throw new IndexOutOfBoundsException();
        }
        return n;
    }

    private static void argument(boolean isRight) {
        if (!isRight) {
            throw new IllegalArgumentException();
        }
    }

    private static int number(int[] f, int k) {
        return k == -1 ? f.length - 1 : k >= 0 && k < f.length ? f[k] : -1;
    }

    int feed(int... n) {
        if (tape.size() + 20 > 400) {
            return -1;
        }
        for (int one : n) {
            for (int shift = 24; shift >= 0; shift -= 8) {
                tape.add(one >> shift & 255);
            }
        }
        return tape.size();
    }

    boolean end(int n) {
        if (n < 0 || n > tape.size()) {
            return false;
        }
        tape = new ArrayList<>(tape.subList(0, n));
        return true;
    }

    private int[] use() {
        int[] all = tape.stream().mapToInt(i -> i).toArray();
        tape.clear();
        return all;
    }

    void field(int p) {
        argument(List.of(11, 13, 17, 19).contains(p));
        if (!s.forms.isEmpty() || !s.tables.isEmpty()) {
            throw new IllegalStateException();
        }
        s.p = p;
    }

    private static void room(List<?> all, int most) {
        if (all.size() >= most) {
            throw new UnsupportedOperationException();
        }
    }

    int form() {
        int[] n = use();
        argument(n.length >= 1 && n.length <= 9);
        room(s.forms, 16);
        s.undone.clear();
        s.forms.add(Plain.scaled(n, 1, s.p));
        return s.forms.size() - 1;
    }

    private int newTable(long a, long b, long c, long d) {
        room(s.tables, 8);
        s.tables.add(new int[] {Plain.mod(a, s.p), Plain.mod(b, s.p), Plain.mod(c, s.p), Plain.mod(d, s.p)});
        return s.tables.size() - 1;
    }

    int table(int a, int b, int c, int d) {
        argument(Math.floorMod((long) Plain.mod(a, s.p) * d - (long) Plain.mod(b, s.p) * c, (long) s.p) != 0);
        return newTable(a, b, c, d);
    }

    int signs() {
        Text text = new Text(use());
        fault = text.fault;
        argument(fault == -1);
        room(s.signs, 8);
        s.signs.add(text);
        return s.signs.size() - 1;
    }

    int fault() {
        return fault;
    }

    int look(int form, int k) {
        return number(f(form), k);
    }

    int at(int form, int x, int y) {
        return Plain.at(f(form), Plain.mod(x, s.p), Plain.mod(y, s.p), s.p);
    }

    private int det(int[] t) {
        return Plain.mod((long) t[0] * t[3] - (long) t[1] * t[2], s.p);
    }

    int det(int table) {
        return det(t(table));
    }

    boolean mix(int form, int table) {
        int[] old = f(form);
        int[] now = Plain.mixed(old, t(table), s.p);
        s.forms.set(form, now);
        s.done.add(new int[][] {{form}, old, now});
        if (s.done.size() > 40) {
            s.done.remove(0);
        }
        s.undone.clear();
        return !Arrays.equals(old, now);
    }

    int undo() {
        if (s.done.isEmpty()) {
            return -1;
        }
        int[][] act = s.done.remove(s.done.size() - 1);
        s.undone.add(act);
        s.forms.set(act[0][0], act[1]);
        return act[0][0];
    }

    int redo() {
        if (s.undone.isEmpty()) {
            return -1;
        }
        int[][] act = s.undone.remove(s.undone.size() - 1);
        s.done.add(act);
        s.forms.set(act[0][0], act[2]);
        return act[0][0];
    }

    int value(int signs, int form, int k) {
        int[] value = g(signs).value(f(form), s.p);
        return value == null ? -2 : number(value, k);
    }

    int rank(int signs, boolean weight) {
        return g(signs).rank(weight);
    }

    boolean stays(int signs, int form, int table) {
        Text text = g(signs);
        int[] f = f(form);
        int[] t = t(table);
        int weight = text.rank(true);
        int[] value = text.value(f, s.p);
        int[] other = text.value(Plain.mixed(f, t, s.p), s.p);
        if (weight < 0 || value == null || other == null) {
            return false;
        }
        int[] due = Plain.mixed(value, t, s.p);
        for (int k = 0; k < weight; k++) {
            due = Plain.scaled(due, det(t), s.p);
        }
        return Arrays.equals(due, other);
    }

    int agree(int first, int second, int degree) {
        Text a = g(first);
        Text b = g(second);
        argument(degree >= 0 && degree <= 8);
        for (int n = 0; n < s.forms.size(); n++) {
            int[] f = s.forms.get(n);
            if (f.length - 1 == degree && !Arrays.equals(a.value(f, s.p), b.value(f, s.p))) {
                return n;
            }
        }
        return -1;
    }

    long count(int r, int d, int m) {
        argument(r >= 0 && r <= 12 && d >= 1 && d <= 8 && m >= 0 && m <= 96);
        int w = d * r - m;
        return w < 0 || w % 2 != 0 ? 0 : ways(w / 2, r, d) - ways(w / 2 - 1, r, d);
    }

    /** All sums of r numbers 0 to most, the greatest first. */
    private static long ways(int w, int r, int most) {
        if (w < 0 || w > r * most) {
            return 0;
        }
        if (r == 0) {
            return w == 0 ? 1 : 0;
        }
        long all = 0;
        for (int n = Math.min(w, most); n >= 0; n--) {
            all += ways(w - n, r - 1, n);
        }
        return all;
    }

    private List<int[]> rows(int set, int degree, int seed, List<Integer> which) {
        argument(degree >= 1 && degree <= 8);
        List<int[]> drawn = new ArrayList<>();
        int now = seed;
        for (int n = 0; n < 12; n++) {
            int[] f = new int[degree + 1];
            for (int k = 0; k <= degree; k++) {
                now = now * 1103515245 + 12345;
                f[k] = (now >> 16 & 32767) % s.p;
            }
            drawn.add(f);
        }
        List<int[]> rows = new ArrayList<>();
        int length = -1;
        for (int n = 0; n < s.signs.size(); n++) {
            if ((set >> n & 1) == 0) {
                continue;
            }
            List<Integer> row = new ArrayList<>();
            for (int[] f : drawn) {
                int[] value = s.signs.get(n).value(f, s.p);
                if (value == null || length >= 0 && value.length != length) {
                    return null;
                }
                length = value.length;
                for (int one : value) {
                    row.add(one);
                }
            }
            rows.add(row.stream().mapToInt(i -> i).toArray());
            which.add(n);
        }
        return rows;
    }

    int span(int set, int degree, int seed) {
        List<int[]> rows = rows(set, degree, seed, new ArrayList<>());
        return rows == null ? -1 : Plain.rank(rows, s.p);
    }

    int basis(int set, int degree, int seed) {
        List<Integer> which = new ArrayList<>();
        List<int[]> rows = rows(set, degree, seed, which);
        if (rows == null) {
            return -1;
        }
        int bits = 0;
        for (int n = 0; n < rows.size(); n++) {
            if (Plain.rank(rows.subList(0, n + 1), s.p) > Plain.rank(rows.subList(0, n), s.p)) {
                bits |= 1 << which.get(n);
            }
        }
        return bits;
    }

    /** Those of all a, b, c, d in order by which f is g: the first as told, and how many. */
    private int[] search(int[] f, int[] g, boolean first) {
        int p = s.p;
        int many = 0;
        int told = -1;
        if (f.length != g.length) {
            return new int[] {-1, 0};
        }
        int last = g.length - 1;
        int[][] at = new int[p][p];
        for (int x = 0; x < p; x++) {
            for (int y = 0; y < p; y++) {
                at[x][y] = Plain.at(f, x, y, p);
            }
        }
        for (int n = 0; n < p * p * p * p; n++) {
            int[] t = {n / (p * p * p), n / (p * p) % p, n / p % p, n % p};
            boolean isSo = det(t) != 0 && at[t[0]][t[2]] == g[0] && at[t[1]][t[3]] == g[last];
            if (isSo && (Plain.nought(f) ? Plain.nought(g) : Arrays.equals(Plain.mixed(f, t, p), g))) {
                many++;
                if (told < 0) {
                    told = ((t[0] * 20 + t[1]) * 20 + t[2]) * 20 + t[3];
                }
                if (first) {
                    break;
                }
            }
        }
        return new int[] {told, many};
    }

    int kind(int form) {
        int[] f = f(form);
        for (int n = 0; n < form; n++) {
            if (search(s.forms.get(n), f, true)[1] > 0) {
                return n;
            }
        }
        return form;
    }

    int orbit(int form) {
        int[] f = f(form);
        java.util.Set<String> all = new java.util.HashSet<>();
        int p = s.p;
        for (int n = 0; n < p * p * p * p; n++) {
            int[] t = {n / (p * p * p), n / (p * p) % p, n / p % p, n % p};
            if (det(t) != 0) {
                all.add(Arrays.toString(Plain.mixed(f, t, p)));
            }
        }
        return all.size();
    }

    int same(int form, int other) {
        return search(f(form), f(other), true)[0];
    }

    int keep(int form) {
        return search(f(form), f(form), false)[1];
    }

    int join(int first, int second) {
        int[] a = t(first);
        int[] b = t(second);
        // what x and y become, x first, then y
        int[] x = Plain.mixed(new int[] {a[0], a[1]}, b, s.p);
        int[] y = Plain.mixed(new int[] {a[2], a[3]}, b, s.p);
        return newTable(x[0], x[1], y[0], y[1]);
    }

    int turn(int table) {
        int[] t = t(table);
        int over = Plain.inverse(det(t), s.p);
        return newTable(t[3] * over, -t[1] * over, -t[2] * over, t[0] * over);
    }

    int told(int table, int what) {
        int[] t = t(table);
        return what >= 0 && what < 4 ? t[what] : -1;
    }

    int quotient(int form, int other, int k) {
        int[] f = f(form);
        int[] g = f(other);
        int[] q = Plain.nought(g) ? null : Plain.quotient(f, g, s.p);
        return q == null ? -2 : number(q, k);
    }

    boolean plain(int form) {
        int[] f = f(form);
        if (f.length < 3) {
            return false;
        }
        int[] x = Plain.byX(f, s.p);
        int[] y = Plain.byY(f, s.p);
        return !Plain.nought(x) && !Plain.nought(y) && Plain.common(x, y, s.p).length == 1;
    }

    private int often(int[] f, int point) {
        if (Plain.nought(f)) {
            return 99;
        }
        int[] line = point == s.p ? new int[] {0, 1} : new int[] {1, Plain.mod(-point, s.p)};
        int k = 0;
        while (Plain.quotient(f, Plain.power(line, k + 1, s.p), s.p) != null) {
            k++;
        }
        return k;
    }

    int root(int form, int point) {
        int[] f = f(form);
        argument(point >= 0 && point <= s.p);
        return often(f, point);
    }

    int roots(int form) {
        int[] f = f(form);
        int bits = 0;
        for (int point = 0; point <= s.p; point++) {
            int x = point == s.p ? 1 : point;
            bits |= Plain.at(f, x, point == s.p ? 0 : 1, s.p) == 0 ? 1 << point : 0;
        }
        return bits;
    }

    boolean empty(int form) {
        int[] f = f(form);
        boolean isSo = Plain.nought(f);
        for (int point = 0; point <= s.p; point++) {
            isSo |= often(f, point) > (f.length - 1) / 2.0;
        }
        return isSo;
    }

    int powers(int form, int k) {
        int[] f = f(form);
        argument(f.length > 1 && k >= -1);
        for (int n = 0; n <= 3; n++) {
            int[] found = powers(f, n, 0, new int[2 * n], 0);
            if (found != null) {
                int many = n;
                return k == -1 ? many : k < many ? found[k] : k >= 10 && k < 10 + many ? found[many + k - 10] : -1;
            }
        }
        return -1;
    }

    /** All points first, then all numbers, each in order; the last number is tried like the others. */
    private int[] powers(int[] rest, int n, int set, int[] all, int from) {
        if (set == 2 * n) {
            return Plain.nought(rest) ? all.clone() : null;
        }
        if (set < n) {
            for (int point = from; point <= s.p; point++) {
                all[set] = point;
                int[] found = powers(rest, n, set + 1, all, point + 1);
                if (found != null) {
                    return found;
                }
            }
            return null;
        }
        int d = rest.length - 1;
        int point = all[set - n];
        int[] line = point == s.p ? new int[] {0, 1} : new int[] {1, Plain.mod(-point, s.p)};
        int[] power = Plain.power(line, d, s.p);
        int[] left = rest;
        for (int number = 1; number < s.p; number++) {
            left = Plain.plus(left, Plain.scaled(power, -1, s.p), s.p);
            all[set] = number;
            int[] found = powers(left, n, set + 1, all, 0);
            if (found != null) {
                return found;
            }
        }
        return null;
    }

    int common(int form, int other, int k) {
        int[] f = f(form);
        int[] g = f(other);
        return Plain.nought(f) || Plain.nought(g) ? -2 : number(Plain.common(f, g, s.p), k);
    }

    int overlap(int form, int other, int by, int k) {
        int[] f = f(form);
        int[] g = f(other);
        argument(by >= 0 && by < f.length && by < g.length);
        return number(Plain.overlap(f, g, by, s.p), k);
    }

    long reduced(int a, int b, int c, int what) {
        argument(Math.abs((long) a) <= 999 && Math.abs((long) b) <= 999 && Math.abs((long) c) <= 999);
        argument(a > 0 && b * b < 4 * a * c);
        if (what < 0 || what > 8) {
            throw new NoSuchElementException();
        }
        return Whole.reduced(a, b, c)[what];
    }

    private static void disc(int disc) {
        argument(disc >= -9999 && disc <= -3 && (-disc % 4 == 0 || -disc % 4 == 3));
    }

    int classes(int disc, boolean all) {
        disc(disc);
        return Whole.classes(disc, all).size();
    }

    int reducedAt(int disc, int k, int what) {
        disc(disc);
        argument(k >= 0);
        if (what < 0 || what > 2) {
            throw new NoSuchElementException();
        }
        List<int[]> all = Whole.classes(disc, false);
        return k < all.size() ? all.get(k)[what] : -9999;
    }

    int real(int a, int b, int c, int d, int e) {
        for (int n : new int[] {a, b, c, d, e}) {
            argument(n >= -30 && n <= 30);
        }
        argument(a != 0 || b != 0);
        return Whole.real(a == 0 ? new int[] {b, c, d, e} : new int[] {a, b, c, d, e});
    }

    void image() {
        kept = s.copy();
    }

    boolean back() {
        if (kept == null) {
            return false;
        }
        s = kept.copy();
        return true;
    }

    int stock(int what) {
        int noughts = 0;
        for (int[] f : s.forms) {
            noughts += Plain.nought(f) ? 1 : 0;
        }
        int[] all = {s.p, s.forms.size(), s.tables.size(), s.signs.size(), s.done.size(), s.undone.size(), noughts};
        return what >= 0 && what < 7 ? all[what] : -1;
    }
}
