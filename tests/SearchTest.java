import java.util.Arrays;

/** Promises 22, 23, 32 and 33: forms that are the same but for a table, and how many tables there are. */
public final class SearchTest {
    public static void main(String[] args) {
        told();
        noughts();
        manyRoots();
        kinds();
        refused();
        against(11, 4, 31);
        against(13, 5, 32);
        against(17, 3, 33);
        against(19, 8, 34);
        Check.end("SearchTest");
    }

    private static int code(int a, int b, int c, int d) {
        return ((a * 20 + b) * 20 + c) * 20 + d;
    }

    private static void told() {
        LetterForms x = new LetterForms();
        Check.form(x, 1, 0, 0);
        Check.form(x, 0, 1, 0);
        Check.form(x, 0, 0, 4);
        Check.form(x, 2, 0, 0);
        Check.form(x, 1, 0);
        // x x as 4 y y: a 0, b 2 (or 9), c the least that is not 0, d the least
        Check.due("32: x x, 4 y y", code(0, 2, 1, 0), () -> x.same(0, 2));
        Check.due("32: 4 y y, x x", code(0, 1, 5, 0), () -> x.same(2, 0));
        Check.due("32: itself", code(1, 0, 0, 1), () -> x.same(0, 0));
        Check.due("32: x y is swapped first", code(0, 1, 1, 0), () -> x.same(1, 1));
        Check.due("32: 2 is no square", -1, () -> x.same(0, 3));
        Check.due("32: nor the other way", -1, () -> x.same(3, 0));
        Check.due("32: x y is no square", -1, () -> x.same(1, 0));
        Check.due("32: unlike degrees", -1, () -> x.same(0, 4));
        Check.due("32: unlike degrees", -1, () -> x.same(4, 0));
        Check.due("33: x x: a 1 or 10, b 0", 2 * 11 * 10, () -> x.keep(0));
        Check.due("33: x y: ten ways to scale, twice", 20, () -> x.keep(1));
        Check.due("33: x", 110, () -> x.keep(4));
        Check.due("23: x x: 5 squares by 12 points", 60, () -> x.orbit(0));
        Check.due("23: as many of 2 x x", 60, () -> x.orbit(3));
        Check.due("23: of degree 1, all but nought", 120, () -> x.orbit(4));
    }

    private static void noughts() {
        LetterForms x = new LetterForms();
        Check.form(x, 0, 0);
        Check.form(x, 0, 0);
        Check.form(x, 0, 0, 0);
        Check.form(x, 1, 0);
        Check.form(x, 0);
        Check.form(x, 3);
        Check.form(x, 3);
        Check.form(x, 4);
        Check.due("32: nought", code(0, 1, 1, 0), () -> x.same(0, 1));
        Check.due("32: of unlike degrees", -1, () -> x.same(0, 2));
        Check.due("32: nought to another", -1, () -> x.same(0, 3));
        Check.due("32: another to nought", -1, () -> x.same(3, 0));
        Check.due("32: 3 and 3", code(0, 1, 1, 0), () -> x.same(5, 6));
        Check.due("32: 3 and 4", -1, () -> x.same(5, 7));
        Check.due("32: 0 and 3", -1, () -> x.same(4, 5));
        Check.due("33: nought", 13200, () -> x.keep(0));
        Check.due("33: a number", 13200, () -> x.keep(5));
        Check.due("33: the number 0", 13200, () -> x.keep(4));
        Check.due("23: nought", 1, () -> x.orbit(2));
        Check.due("23: a number", 1, () -> x.orbit(7));
        Check.due("22: nought", 0, () -> x.kind(1));
        Check.due("22: of another degree", 2, () -> x.kind(2));
        Check.due("22: 3", 5, () -> x.kind(6));
        Check.due("22: 4", 7, () -> x.kind(7));
        LetterForms y = new LetterForms();
        y.field(19);
        Check.form(y, 1);
        Check.due("33: of 19", 123120, () -> y.keep(0));
    }

    /** Forms that are the same number at very many points. */
    private static void manyRoots() {
        LetterForms x = new LetterForms();
        x.field(17);
        Check.form(x, 1, 0, 0, 0, 0, 0, 0, 0, 0);
        Check.due("33: 8 numbers to the 8 are 1", 8 * 17 * 16, () -> x.keep(0));
        Check.due("23: 2 numbers not 0, by 18 points", 36, () -> x.orbit(0));
        LetterForms y = new LetterForms();
        y.field(19);
        int[] f = {0, 1};
        int[] g = {0, 1};
        for (int n = 0; n < 7; n++) {
            f = Plain.times(f, new int[] {1, 19 - n}, 19);
            g = Plain.times(g, new int[] {1, n == 0 ? 0 : 6 + n}, 19);
        }
        Check.form(y, f);
        Check.form(y, g);
        int[] firsts = {-1, -1};
        int[] many = {0, 0};
        search(f, f, 19, firsts, many, 0);
        search(f, g, 19, firsts, many, 1);
        Check.due("33: eight roots", many[0], () -> y.keep(0));
        Check.due("32: eight roots", firsts[0], () -> y.same(0, 0));
        Check.due("32: eight roots each", firsts[1], () -> y.same(0, 1));
    }

    private static void kinds() {
        LetterForms x = new LetterForms();
        Check.form(x, 0, 1, 0);
        Check.form(x, 2, 0, 0);
        Check.form(x, 1, 0, 10);
        Check.form(x, 0, 0, 7);
        Check.form(x, 1, 0, 0);
        Check.form(x, 1, 4, 4);
        Check.form(x, 1, 0, 1);
        Check.form(x, 2, 0, 2);
        int[] due = {0, 1, 0, 1, 4, 4, 6, 6};
        for (int n = 0; n < 8; n++) {
            int form = n;
            Check.due("22: " + n, due[n], () -> x.kind(form));
        }
        x.table(3, 1, 4, 2);
        x.mix(7, 0);
        Check.due("22: mixed by hand", 6, () -> x.kind(7));
        Check.due("22: no form is changed", "1 0 1", () -> Check.look(x, 6));
    }

    private static void refused() {
        LetterForms x = new LetterForms();
        Check.form(x, 1, 1);
        for (int n : new int[] {-1, 1, 16, Integer.MIN_VALUE, Integer.MAX_VALUE}) {
            Check.index("22: " + n, () -> x.kind(n));
            Check.index("23: " + n, () -> x.orbit(n));
            Check.index("32: " + n, () -> x.same(n, 0));
            Check.index("32: " + n, () -> x.same(0, n));
            Check.index("33: " + n, () -> x.keep(n));
        }
    }

    /** Some forms of a degree and what they are mixed: all four answers, found by trying all tables. */
    private static void against(int p, int degree, int seed) {
        Drawn drawn = new Drawn(seed);
        LetterForms x = new LetterForms();
        x.field(p);
        int[][] forms = new int[6][degree + 1];
        for (int n = 0; n < 6; n++) {
            for (int k = 0; k <= degree; k++) {
                forms[n][k] = drawn.once(2) ? 0 : drawn.below(p);
            }
            int[] t = {drawn.below(p), 1, 1, drawn.below(p)};
            if (n % 2 == 1 && (t[0] * t[3] - 1) % p != 0) {
                forms[n] = Plain.mixed(forms[n - 1], t, p);
            }
            Check.form(x, forms[n]);
        }
        int[] firsts = new int[36];
        int[] many = new int[36];
        Arrays.fill(firsts, -1);
        for (int n = 0; n < 36; n++) {
            if (n % 6 < n / 6) {
                continue;
            }
            search(forms[n / 6], forms[n % 6], p, firsts, many, n);
            int f = n / 6;
            int g = n % 6;
            Check.due("32: " + p + " " + f + " " + g, firsts[n], () -> x.same(f, g));
            if (f == g) {
                Check.due("33: " + p + " " + f, many[n], () -> x.keep(f));
                Check.due("23: " + p + " " + f, (p * p - 1) * (p * p - p) / many[n], () -> x.orbit(f));
            }
        }
        for (int g = 0; g < 6; g++) {
            int first = 0;
            while (firsts[first * 6 + g] < 0) {
                first++;
            }
            int form = g;
            Check.due("22: " + p + " " + g, first, () -> x.kind(form));
        }
    }

    private static void search(int[] f, int[] g, int p, int[] firsts, int[] many, int at) {
        int[][] values = new int[p][p];
        for (int n = 0; n < p * p; n++) {
            values[n / p][n % p] = Plain.at(f, n / p, n % p, p);
        }
        int[] aims = new int[p];
        for (int n = 0; n < p; n++) {
            aims[n] = Plain.at(g, n, 1, p);
        }
        for (int n = 0; n < p * p * p * p; n++) {
            int a = n / (p * p * p);
            int b = n / (p * p) % p;
            int c = n / p % p;
            int d = n % p;
            // alike at all x with y 1: more points than the degree
            boolean isSo = (a * d - b * c) % p != 0;
            for (int k = 0; isSo && k < p; k++) {
                isSo = values[(a * k + b) % p][(c * k + d) % p] == aims[k];
            }
            if (isSo) {
                many[at]++;
                firsts[at] = firsts[at] < 0 ? code(a, b, c, d) : firsts[at];
            }
        }
    }
}
