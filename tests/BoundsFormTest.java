import java.util.Arrays;

/** The sentences of the document that name a bound, one behind another: promises 9, 10 and 15 to 36. */
public final class BoundsFormTest {
    private static final int LEAST = Integer.MIN_VALUE;
    private static final int MOST = Integer.MAX_VALUE;
    private static final int[] FIELDS = {11, 13, 17, 19};

    public static void main(String[] args) {
        looks();
        ats();
        degreeForty();
        tooGreatAK();
        numbers();
        ranks();
        stays();
        agrees();
        counts();
        spans();
        sames();
        points();
        halves();
        powers();
        fewest();
        twoForms();
        plains();
        Check.end("BoundsFormTest");
    }

    private static int[] ks(int degree) {
        return new int[] {LEAST, -3, -2, -1, 0, degree - 1, degree, degree + 1, 9, 40, 41, MOST};
    }

    /** As many calls answer: the degree for NONE, the k-th number, or NONE. */
    private static int told(int[] f, int k) {
        return k == -1 ? f.length - 1 : k < 0 || k >= f.length ? -1 : f[k];
    }

    private static int[] line(int point, int p) {
        return point == p ? new int[] {0, 1} : new int[] {1, Plain.mod(-point, p)};
    }

    // ==== 9 and 10 ====

    private static void looks() {
        for (int d = 0; d <= 8; d++) {
            int[] f = new int[d + 1];
            for (int k = 0; k <= d; k++) {
                f[k] = k + 2;
            }
            LetterForms x = new LetterForms();
            Check.form(x, f);
            for (int k : ks(d)) {
                Check.due("9: " + k + " of degree " + d, told(f, k) == 10 + 1 ? 0 : told(f, k), () -> x.look(0, k));
            }
        }
    }

    private static void ats() {
        int[] some = {LEAST, LEAST + 1, -46341, -20, -1, 0, 1, 10, 11, 12, 65536, MOST - 1, MOST};
        for (int p : FIELDS) {
            for (int d = 0; d <= 8; d += 2) {
                LetterForms x = new LetterForms();
                x.field(p);
                int[] f = new int[d + 1];
                for (int k = 0; k <= d; k++) {
                    f[k] = (3 * k + 1) % p;
                }
                Check.form(x, f);
                for (int a : some) {
                    for (int b : some) {
                        Check.due("10: " + a + " " + b + " modulo " + p, Plain.at(f, Plain.mod(a, p), Plain.mod(b, p), p), () -> x.at(0, a, b));
                    }
                }
            }
        }
    }

    // ==== 15: values ====

    private static void value(String what, int due, String text, int... f) {
        LetterForms x = new LetterForms();
        Check.form(x, f);
        Check.signs(x, text);
        for (int k : new int[] {LEAST, -2, -1, 0, 1, 39, 40, 41, 42, 99, MOST}) {
            if (due < 0) {
                Check.due("15: " + what + ", whatever k is: " + k, -2, () -> x.value(0, 0, k));
            } else if (k == -1) {
                Check.due("15: " + what + ", its degree", due, () -> x.value(0, 0, k));
            } else if (k < 0 || k > due) {
                Check.due("15: " + what + ", none at " + k, -1, () -> x.value(0, 0, k));
            } else {
                Check.due("15: " + what + ", one at " + k, true, () -> x.value(0, 0, k) >= 0 && x.value(0, 0, k) < 11);
            }
        }
    }

    private static String power(int n) {
        return "f" + "*f".repeat(n - 1);
    }

    /** A degree of 40 anywhere, of 41, of 42. */
    private static void degreeForty() {
        int[] one = {1, 2};
        int[] two = {1, 2, 3};
        int[] three = {1, 2, 3, 4};
        int[] five = {1, 2, 3, 4, 5, 6};
        int[] seven = {1, 2, 3, 4, 5, 6, 7, 8};
        int[] eight = {1, 2, 3, 4, 5, 6, 7, 8, 9};
        value("20 of degree 1", 20, power(20), one);
        value("20 of degree 2", 40, power(20), two);
        value("5 of degree 8", 40, power(5), eight);
        value("6 of degree 8", -1, power(6), eight);
        value("6 of degree 7", -1, power(6), seven);
        value("13 of degree 3", 39, power(13), three);
        value("14 of degree 3", -1, power(14), three);
        // 39 and 6 less 4, less 2 times 2, and so on: overlaps of degree 39, 41, 43
        value("41 by an overlap", -1, "[" + power(13) + ",f*f]2", three);
        value("39 by an overlap", 39, "[" + power(13) + ",f*f]3", three);
        value("40 by an overlap", 40, "[" + power(8) + ",f*f]5", five);
        value("42 by an overlap", -1, "[" + power(8) + ",f*f]4", five);
        value("41 of 40 and 5", -1, "[" + power(8) + ",f]2", five);
        value("39 of 40 and 5", 39, "[" + power(8) + ",f]3", five);
        value("41 of 35 and 14", -1, "[" + power(5) + ",f*f]4", seven);
        value("39 of 35 and 14", 39, "[" + power(5) + ",f*f]5", seven);
        value("41 within what is 0", -1, "0*[" + power(5) + ",f*f]4", seven);
        value("41 within what is of degree 33", -1, "[[" + power(5) + ",f*f]4,f*f]8", seven);
        value("41 ahead of +", -1, "[" + power(5) + ",f*f]4+[" + power(5) + ",f*f]4", seven);
        value("- of 41", -1, "-[" + power(5) + ",f*f]4", seven);
        value("40 by +", 40, power(5) + "+" + power(5), eight);
        value("40 by 1 more", 40, power(5) + "*1", eight);
        value("40 by - ", 40, "-(" + power(5) + ")", eight);
        value("40 in brackets, then 32", 32, "[" + power(5) + ",f]8", eight);
        value("40 by 0 and nothing", 40, "[" + power(5) + ",1]0", eight);
        value("48 by 0", -1, "[" + power(5) + ",f]0", eight);
        value("40 and 8 by 4", 40, "[" + power(5) + ",f]4", eight);
        value("40 and 8 by 3", -1, "[" + power(5) + ",f]3", eight);
    }

    /** k is at most the lesser degree, on either side. */
    private static void tooGreatAK() {
        for (int d = 0; d <= 8; d++) {
            int[] f = new int[d + 1];
            Arrays.fill(f, 3);
            for (int k = 0; k <= 8; k++) {
                value("by " + k + " of degree " + d, k <= d ? 2 * d - 2 * k : -1, "[f,f]" + k, f);
                value("by " + k + " of degree " + d + ", a product first", k <= d ? 3 * d - 2 * k : -1, "[f*f,f]" + k, f);
                value("by " + k + " of degree " + d + ", a product behind", k <= d ? 3 * d - 2 * k : -1, "[f,f*f]" + k, f);
                value("by " + k + " with a number", k == 0 ? d : -1, "[f,2]" + k, f);
                value("by " + k + " of a number", k == 0 ? d : -1, "[2,f]" + k, f);
                value("by " + k + " of numbers", k == 0 ? 0 : -1, "[2,3]" + k, f);
            }
            value("a number more, of degree " + d, d == 0 ? 0 : -1, "f+1", f);
            value("a product more, of degree " + d, d == 0 ? 0 : -1, "f*f+f", f);
            value("nought more, of degree " + d, d == 0 ? 0 : -1, "0*f+0", f);
        }
    }

    /** A number of 1 to 3 digits, modulo P. */
    private static void numbers() {
        for (int p : FIELDS) {
            int[] some = {0, 1, 9, 10, 99, 100, p - 1, p, p + 1, 998, 999};
            LetterForms x = null;
            for (int n = 0; n < some.length; n++) {
                int number = some[n];
                if (n % 8 == 0) {
                    x = new LetterForms();
                    x.field(p);
                    Check.form(x, 1);
                }
                LetterForms y = x;
                int signs = Check.signs(y, String.valueOf(number));
                Check.due("15: degree of " + number, 0, () -> y.value(signs, 0, -1));
                Check.due("15: " + number + " modulo " + p, number % p, () -> y.value(signs, 0, 0));
                Check.due("15: behind " + number, -1, () -> y.value(signs, 0, 1));
            }
            LetterForms z = new LetterForms();
            z.field(p);
            Check.form(z, 1);
            Check.due("7: noughts ahead", 0, () -> Check.signs(z, "009"));
            Check.due("15: noughts ahead", 9, () -> z.value(0, 0, 0));
            Check.argument("7: four digits", () -> Check.signs(z, "0009"));
        }
    }

    // ==== 16 to 18 ====

    private static void rank(String text, int rank, int weight) {
        LetterForms x = new LetterForms();
        Check.signs(x, text);
        Check.due("16: rank of " + text, rank, () -> x.rank(0, false));
        Check.due("16: weight of " + text, weight, () -> x.rank(0, true));
    }

    private static void ranks() {
        rank("0", 0, 0);
        rank("999", 0, 0);
        rank("f", 1, 0);
        rank(power(20), 20, 0);
        rank("f" + "+f".repeat(19), 1, 0);
        rank("[1,1]0", 0, 0);
        rank("[1,1]8", 0, 8);
        rank("[f,1]8", 1, 8);
        rank("[f,f]0", 2, 0);
        rank("1+f", -1, 0);
        rank("0+f", -1, 0);
        rank("0*f+0", -1, 0);
        rank("f+[f,1]0", 1, 0);
        rank("f+[f,1]1", 1, -1);
        rank("[f+1,f]1", -1, 1);
        rank("[f,f+1]1", -1, 1);
        rank("[f,f]1+1*[f,f]2", 2, -1);
        rank("(f+1)*(f+1)", -1, 0);
        rank("-(f+1)", -1, 0);
        rank("[[f,f]1+f*f,f]1", 3, -1);
        rank("[f,[f,f]1+f*f]1", 3, -1);
        rank("0*([f,f]1+f*f)", 2, -1);
        rank("[f,f]1*[f,f]2+[f*f,f*f]3", 4, 3);
        rank("[f,f]1*[f,f]2+[f*f,f*f]4", 4, -1);
        // the most brackets: each adds 8 to the weight
        rank("[".repeat(6) + "f" + ",f]8".repeat(6), 7, 48);
        rank("[f,f]8" + "*[f,f]8".repeat(9), 20, 80);
    }

    private static void stays() {
        LetterForms x = new LetterForms();
        Check.form(x, 1, 2, 3, 4, 5);
        Check.form(x, 7);
        Check.form(x, 0, 0, 0, 0, 0);
        // DET 1: whatever the WEIGHT is, the numbers are the same
        x.table(1, 1, 0, 1);
        x.table(2, 1, 1, 3);
        String[] texts = {"[f,f]2+f", "0*f+0*[f,f]2", "[f,f]4+1", "[f,f]2+[f,f]2", "[f,f]5", "f+1", "[f,f]4*[f,f]3", "[f,f]3"};
        boolean[] four = {false, false, false, true, false, false, true, true};
        boolean[] none = {false, false, false, false, false, true, false, false};
        for (String text : texts) {
            Check.signs(x, text);
        }
        for (int n = 0; n < 8; n++) {
            int signs = n;
            for (int t = 0; t < 2; t++) {
                int table = t;
                Check.due("17: " + texts[n] + " by " + t, four[n], () -> x.stays(signs, 0, table));
                Check.due("17: " + texts[n] + " of a number by " + t, none[n], () -> x.stays(signs, 1, table));
                Check.due("17: " + texts[n] + " of nought by " + t, four[n], () -> x.stays(signs, 2, table));
            }
        }
        Check.due("16: no weight, but a value", -1, () -> x.rank(0, true));
        Check.due("15: no weight, but a value", 4, () -> x.value(0, 0, -1));
        Check.due("16: a weight, but no value", 5, () -> x.rank(4, true));
        Check.due("15: a weight, but no value", -2, () -> x.value(4, 0, -1));
    }

    private static void agrees() {
        LetterForms x = new LetterForms();
        Check.form(x, 3);
        Check.form(x, 1);
        Check.form(x, 1, 2, 3, 4, 5, 6, 7, 8, 9);
        Check.form(x, 0);
        String[] texts = {"f", "f*f", "[f,f]1", "0*f", "2*f+-f"};
        for (String text : texts) {
            Check.signs(x, text);
        }
        for (int degree : new int[] {LEAST, -1, 9, 10, MOST}) {
            Check.argument("18: degree " + degree, () -> x.agree(0, 1, degree));
            Check.argument("18: the same signs, degree " + degree, () -> x.agree(1, 1, degree));
            Check.index("18: the first exception, " + degree, () -> x.agree(5, 1, degree));
            Check.index("18: the first exception, " + degree, () -> x.agree(1, -1, degree));
        }
        Check.due("18: degree 0", 0, () -> x.agree(0, 1, 0));
        Check.due("18: degree 8", 2, () -> x.agree(0, 1, 8));
        for (int degree = 1; degree <= 7; degree++) {
            int d = degree;
            Check.due("18: no form of degree " + degree, -1, () -> x.agree(0, 1, d));
        }
        Check.due("18: alike", -1, () -> x.agree(0, 4, 0));
        Check.due("18: alike of degree 8", -1, () -> x.agree(0, 4, 8));
        Check.due("18: without a value, the same with itself", -1, () -> x.agree(2, 2, 0));
        LetterForms z = new LetterForms();
        Check.form(z, 3);
        Check.signs(z, "f");
        Check.signs(z, "[f,f]1");
        // the value that the other has is what was asked for just ahead
        Check.due("18: f is f", -1, () -> z.agree(0, 0, 0));
        Check.due("18: none and some", 0, () -> z.agree(1, 0, 0));
        Check.due("18: f is f", -1, () -> z.agree(0, 0, 0));
        Check.due("18: some and none", 0, () -> z.agree(0, 1, 0));
        LetterForms y = new LetterForms();
        for (String text : texts) {
            Check.signs(y, text);
        }
        for (int n = 0; n < 15; n++) {
            Check.form(y, 1);
        }
        Check.due("18: 15 on which they agree", -1, () -> y.agree(0, 1, 0));
        Check.form(y, 2);
        Check.due("18: the last of 16", 15, () -> y.agree(0, 1, 0));
    }

    // ==== 19 to 21 ====

    private static void counts() {
        Fresh x = new Fresh();
        for (int r : new int[] {LEAST, -2, -1, 13, 14, MOST}) {
            Check.argument("19: r " + r, () -> x.next().count(r, 1, 0));
        }
        for (int d : new int[] {LEAST, -1, 0, 9, 10, MOST}) {
            Check.argument("19: d " + d, () -> x.next().count(1, d, 0));
        }
        for (int m : new int[] {LEAST, -2, -1, 97, 98, MOST}) {
            Check.argument("19: m " + m, () -> x.next().count(12, 8, m));
        }
        for (int d = 1; d <= 8; d++) {
            int degree = d;
            Check.due("19: of none", 1L, () -> x.next().count(0, degree, 0));
            Check.due("19: of none, m 1: no whole number", 0L, () -> x.next().count(0, degree, 1));
            Check.due("19: of none, m 2: below 0", 0L, () -> x.next().count(0, degree, 2));
            Check.due("19: of none, m 96", 0L, () -> x.next().count(0, degree, 96));
            for (int r = 1; r <= 12; r++) {
                int rank = r;
                Check.due("19: w 0", 1L, () -> x.next().count(rank, degree, rank * degree));
                Check.due("19: w half of 1", 0L, () -> x.next().count(rank, degree, rank * degree - 1));
                if (r * d < 96) {
                    Check.due("19: w less than 0 by half", 0L, () -> x.next().count(rank, degree, rank * degree + 1));
                }
                if (r * d < 95) {
                    Check.due("19: w below 0", 0L, () -> x.next().count(rank, degree, rank * degree + 2));
                }
                if (r * d > 1) {
                    // one way to write 1, if there is a second one to write 0
                    Check.due("19: w 1", 0L, () -> x.next().count(rank, degree, rank * degree - 2));
                }
                if (r >= 2 && d >= 2) {
                    Check.due("19: w 2", 1L, () -> x.next().count(rank, degree, rank * degree - 4));
                }
            }
        }
        Check.due("19: the most", new Model().count(12, 8, 0), () -> x.next().count(12, 8, 0));
        Check.due("19: the most of m", 1L, () -> x.next().count(12, 8, 96));
    }

    private static void spans() {
        Fresh bare = new Fresh();
        for (int degree : new int[] {LEAST, -1, 0, 9, 10, MOST}) {
            for (int set : new int[] {0, 1, 255, -1}) {
                Check.argument("20: degree " + degree, () -> bare.next().span(set, degree, 1));
                Check.argument("21: degree " + degree, () -> bare.next().basis(set, degree, 1));
            }
        }
        for (int degree = 1; degree <= 8; degree++) {
            int d = degree;
            for (int set : new int[] {0, 1, 255, 256, -1, LEAST, MOST}) {
                Check.due("20: of none", 0, () -> bare.next().span(set, d, 1));
                Check.due("21: of none", 0, () -> bare.next().basis(set, d, 1));
            }
        }
        LetterForms x = new LetterForms();
        Model m = new Model();
        String[] texts = {"0*f", "f", "3*f", "[f,f]1", "f*f"};
        for (String text : texts) {
            Check.signs(x, text);
            tell(m, text);
        }
        for (int seed : new int[] {LEAST, LEAST + 1, -65536, -1, 0, 1, 65535, 65536, MOST - 1, MOST}) {
            for (int degree : new int[] {1, 2, 8}) {
                for (int set : new int[] {1, 2, 6, 7, 16, 16 + 32, LEAST + 2, -32}) {
                    Check.due("20: seed " + seed + ", set " + set, m.span(set, degree, seed), () -> x.span(set, degree, seed));
                }
                for (int set : new int[] {7, 8 + 2, 16 + 1, MOST - 24}) {
                    Check.due("21: seed " + seed + ", set " + set, m.basis(set, degree, seed), () -> x.basis(set, degree, seed));
                }
            }
        }
        Check.due("20: of unlike degrees", -1, () -> x.span(2 + 16, 4, 1));
        Check.due("20: a bit of none is no sign of another degree", 1, () -> x.span(2 + 32 + 64 + 128 + 256, 4, 1));
        Check.due("21: bits of none are not in it", 2, () -> x.basis(-1 - 1 - 8 - 16, 4, 1));
        Check.due("21: nought is in no basis", 0, () -> x.basis(1, 4, 1));
        Check.due("21: nought ahead of another", 2, () -> x.basis(3, 4, 1));
        LetterForms y = new LetterForms();
        Model n = new Model();
        for (int k = 0; k < 8; k++) {
            String text = "1" + "*[f,f]8".repeat(k);
            Check.signs(y, text);
            tell(n, text);
        }
        Check.due("20: the eighth too", n.span(128, 8, 5), () -> y.span(128, 8, 5));
        Check.due("21: the eighth too", 128, () -> y.basis(128, 8, 5));
        Check.due("20: all eight", n.span(255, 8, 5), () -> y.span(255, 8, 5));
        Check.due("21: all eight", n.basis(255, 8, 5), () -> y.basis(255, 8, 5));
    }

    private static void tell(Model m, String text) {
        int[] b = Check.bytes(text);
        for (int from = 0; from < b.length; from += 20) {
            int[] n = new int[5];
            for (int k = 0; k < 20; k++) {
                n[k / 4] = n[k / 4] << 8 | (from + k < b.length ? b[from + k] : 0);
            }
            m.feed(n);
        }
        m.end(b.length);
        m.signs();
    }

    // ==== 22, 23, 32, 33 ====

    private static void sames() {
        for (int p : FIELDS) {
            int all = (p * p - 1) * (p * p - p);
            LetterForms x = new LetterForms();
            x.field(p);
            for (int d = 0; d <= 8; d++) {
                Check.form(x, new int[d + 1]);
            }
            Check.form(x, 1);
            Check.form(x, 2);
            Check.form(x, 1, 0);
            Check.form(x, 0, p - 1);
            for (int n = 0; n <= 8; n++) {
                int form = n;
                Check.due("33: NOUGHT stays by all", all, () -> x.keep(form));
                Check.due("23: NOUGHT is one", 1, () -> x.orbit(form));
                Check.due("22: NOUGHT of another degree is another kind", n, () -> x.kind(form));
                Check.due("32: NOUGHT by the first table there is", 420, () -> x.same(form, form));
                Check.due("32: NOUGHT of another degree", -1, () -> x.same(form, (form + 1) % 9));
                Check.due("32: NOUGHT and what is not", -1, () -> x.same(form, 9 + form % 4));
            }
            Check.due("32: 1 and 2", -1, () -> x.same(9, 10));
            Check.due("33: a number", all, () -> x.keep(9));
            Check.due("23: a number", 1, () -> x.orbit(10));
            Check.due("33: x: b 0 behind a 1", p * (p - 1), () -> x.keep(11));
            Check.due("23: all of degree 1 but NOUGHT", p * p - 1, () -> x.orbit(12));
            Check.due("32: x is - y, by a 0, b - 1", (p - 1) * 400 + 20, () -> x.same(11, 12));
            Check.due("22: - y is an x", 11, () -> x.kind(12));
            Check.due("32: itself by the least table", 400 * 20 + 1, () -> x.same(11, 11));
        }
        LetterForms x = new LetterForms();
        for (int n = 0; n < 15; n++) {
            Check.form(x, n, 0, 0, 1);
        }
        Check.form(x, 0, 0, 0, 1);
        Check.due("22: the last of 16 is the first", 0, () -> x.kind(15));
    }

    // ==== 29 to 31 ====

    /** Each point, each degree, each number of times. */
    private static void points() {
        for (int p : FIELDS) {
            for (int d = 0; d <= 8; d++) {
                int degree = d;
                LetterForms x = new LetterForms();
                x.field(p);
                int[] at = {0, 1, p - 1, p};
                for (int point : at) {
                    Check.form(x, Plain.scaled(Plain.power(line(point, p), d, p), 2, p));
                }
                Check.form(x, new int[d + 1]);
                for (int n = 0; n < 4; n++) {
                    int form = n;
                    int point = at[n];
                    for (int other : new int[] {0, 1, 5, p - 1, p}) {
                        Check.due("29: " + other + " of " + point + " to the " + d, other == point ? degree : 0, () -> x.root(form, other));
                    }
                    for (int none : new int[] {LEAST, -1, p + 1, 99, MOST}) {
                        Check.argument("29: no point " + none, () -> x.root(form, none));
                        Check.index("29: the first exception " + none, () -> x.root(5, none));
                    }
                    Check.due("30: " + point, d == 0 ? 0 : 1 << point, () -> x.roots(form));
                    Check.due("31: " + point, degree > 0, () -> x.empty(form));
                }
                for (int point = 0; point <= p; point++) {
                    int q = point;
                    Check.due("29: NOUGHT at " + point, 99, () -> x.root(4, q));
                }
                Check.argument("29: NOUGHT, no point", () -> x.root(4, p + 1));
                Check.due("30: NOUGHT: all", (1 << p + 1) - 1, () -> x.roots(4));
                Check.due("31: NOUGHT", true, () -> x.empty(4));
            }
        }
    }

    /** Half of the degree is not more than half. */
    private static void halves() {
        for (int p : FIELDS) {
            for (int d = 1; d <= 8; d++) {
                for (int often = 0; often <= d; often++) {
                    LetterForms x = new LetterForms();
                    x.field(p);
                    for (int point : new int[] {3, p}) {
                        int[] f = Plain.power(line(point, p), often, p);
                        for (int k = often; k < d; k++) {
                            f = Plain.times(f, line(k == often ? 0 : k - often + 3, p), p);
                        }
                        int[] all = f;
                        int most = Math.max(often, often < d ? 1 : 0);
                        String name = often + " of " + d + " at " + point;
                        int form = x.stock(1);
                        int times = often;
                        Check.due("5: " + name, form, () -> Check.form(x, all));
                        Check.due("29: " + name, times, () -> x.root(form, point));
                        Check.due("31: " + name, most > d / 2.0, () -> x.empty(form));
                        int bits = often > 0 ? 1 << point : 0;
                        for (int k = often; k < d; k++) {
                            bits |= 1 << (k == often ? 0 : k - often + 3);
                        }
                        Check.due("30: " + name, bits, () -> x.roots(form));
                    }
                }
            }
        }
        LetterForms x = new LetterForms();
        // x x and y y, and its square, have no roots modulo 11
        Check.form(x, 1, 0, 1);
        Check.form(x, 1, 0, 2, 0, 1);
        Check.due("30: without roots", 0, () -> x.roots(0));
        Check.due("31: without roots", false, () -> x.empty(0));
        Check.due("31: without roots, a square", false, () -> x.empty(1));
    }

    // ==== 34 ====

    private static int[] sum(int d, int p, int... pointsAndNumbers) {
        int[] f = new int[d + 1];
        for (int k = 0; k < pointsAndNumbers.length; k += 2) {
            f = Plain.plus(f, Plain.scaled(Plain.power(line(pointsAndNumbers[k], p), d, p), pointsAndNumbers[k + 1], p), p);
        }
        return f;
    }

    /** Whatever k is: how many, points from 0 on, numbers from 10 on, NONE elsewhere. */
    private static void powersDue(String what, int p, int[] f, int... pointsAndNumbers) {
        LetterForms x = new LetterForms();
        x.field(p);
        Check.form(x, f);
        boolean isNone = pointsAndNumbers == null;
        int many = isNone ? -1 : pointsAndNumbers.length / 2;
        Check.due("34: how many, " + what, many, () -> x.powers(0, -1));
        for (int k = 0; k <= 21; k++) {
            int at = k;
            int due = k < many ? pointsAndNumbers[2 * k] : k >= 10 && k < 10 + many ? pointsAndNumbers[2 * (k - 10) + 1] : -1;
            Check.due("34: " + k + ", " + what, due, () -> x.powers(0, at));
        }
        Check.due("34: the greatest k, " + what, -1, () -> x.powers(0, MOST));
        for (int k : new int[] {LEAST, -11, -10, -3, -2}) {
            Check.argument("34: k " + k + ", " + what, () -> x.powers(0, k));
            Check.index("34: the first exception, " + k, () -> x.powers(1, k));
        }
    }

    private static void powers() {
        for (int p : FIELDS) {
            for (int d = 1; d <= 8; d++) {
                powersDue("NOUGHT of degree " + d, p, new int[d + 1]);
                for (int point : new int[] {0, 1, p - 1, p}) {
                    for (int number : new int[] {1, 2, p - 1}) {
                        powersDue(point + " to the " + d, p, sum(d, p, point, number), point, number);
                    }
                }
                // of twice as many powers as the degree and 1 more, no two ways are left
                if (d >= 3) {
                    powersDue("two to the " + d, p, sum(d, p, 0, 1, p, 1), 0, 1, p, 1);
                    powersDue("two to the " + d, p, sum(d, p, p - 1, p - 1, p, p - 1), p - 1, p - 1, p, p - 1);
                    powersDue("two to the " + d, p, sum(d, p, 1, 2, 4, 3), 1, 2, 4, 3);
                }
                if (d >= 5) {
                    powersDue("three to the " + d, p, sum(d, p, 0, 1, 1, 2, 2, 3), 0, 1, 1, 2, 2, 3);
                    powersDue("three to the " + d, p, sum(d, p, p - 2, 1, p - 1, p - 1, p, 2), p - 2, 1, p - 1, p - 1, p, 2);
                }
                if (d >= 6) {
                    powersDue("four to the " + d, p, sum(d, p, 0, 1, 1, 2, 2, 3, p, 1), (int[]) null);
                    powersDue("four to the " + d, p, sum(d, p, 3, 1, 4, 1, 5, 1, 6, 1), (int[]) null);
                }
                LetterForms x = new LetterForms();
                Check.form(x, 7);
                for (int k : new int[] {LEAST, -2, -1, 0, 10, MOST}) {
                    Check.argument("34: degree 0, k " + k, () -> x.powers(0, k));
                }
            }
        }
    }

    /** Of low degree there are many ways: the fewest, and of these the first by points. */
    private static void fewest() {
        LetterForms x = new LetterForms();
        Model m = new Model();
        int[][] forms = {{0, 1, 0}, {1, 1, 1}, {0, 1, 5}, {0, 1, 0, 0}, {0, 0, 1, 0}, {1, 2, 0, 0}, {0, 1, 1, 0}, {1, 0, 0, 5, 0}, {0, 0, 1, 0, 0},
            {0, 1, 0, 0, 0}, {0, 0, 0, 1, 0}, {2, 3}, {0, 3}};
        for (int[] f : forms) {
            Check.form(x, f);
            int[] n = new int[5];
            for (int k = 0; k < 20; k++) {
                n[k / 4] = n[k / 4] << 8 | (k < f.length ? f[k] : 0);
            }
            m.feed(n);
            m.end(f.length);
            m.form();
        }
        for (int n = 0; n < forms.length; n++) {
            int form = n;
            for (int k : new int[] {-1, 0, 1, 2, 3, 10, 11, 12, 13}) {
                Check.due("34: " + Arrays.toString(forms[n]) + " " + k, m.powers(form, k), () -> x.powers(form, k));
            }
        }
    }

    // ==== 27, 35, 36 ====

    private static void twoForms() {
        for (int m = 0; m <= 8; m++) {
            for (int n = 0; n <= 8; n++) {
                int p = FIELDS[(m + n) % 4];
                LetterForms x = new LetterForms();
                x.field(p);
                int[] f = sum(m, p, 1, 2, 3, 1, p, 1);
                int[] g = sum(n, p, 0, 1, 2, 3, p, 2);
                Check.form(x, f);
                Check.form(x, g);
                Check.form(x, new int[m + 1]);
                String name = " of degrees " + m + ", " + n;
                int least = Math.min(m, n);
                for (int by : new int[] {LEAST, -1, least + 1, 9, MOST}) {
                    for (int k : new int[] {-2, -1, 0, 99}) {
                        Check.argument("36: by " + by + name, () -> x.overlap(0, 1, by, k));
                    }
                    Check.index("36: the first exception, by " + by, () -> x.overlap(3, 1, by, 0));
                    Check.index("36: the first exception, by " + by, () -> x.overlap(0, -1, by, 0));
                }
                for (int by : new int[] {0, least}) {
                    int[] due = Plain.overlap(f, g, by, p);
                    for (int k : ks(m + n - 2 * by)) {
                        Check.due("36: by " + by + name + ", " + k, told(due, k), () -> x.overlap(0, 1, by, k));
                    }
                }
                quotients(x, m, n, f, g, p, name);
            }
        }
    }

    private static void quotients(LetterForms x, int m, int n, int[] f, int[] g, int p, String name) {
        int[] due = Plain.nought(g) ? null : Plain.quotient(f, g, p);
        for (int k : ks(m - n)) {
            Check.due("27: " + k + name, due == null ? -2 : told(due, k), () -> x.quotient(0, 1, k));
            Check.due("27: by NOUGHT, " + k + name, -2, () -> x.quotient(0, 2, k));
            Check.due("27: NOUGHT by NOUGHT, " + k + name, -2, () -> x.quotient(2, 2, k));
            int[] nought = m < n ? null : new int[m - n + 1];
            if (!Plain.nought(g)) {
                Check.due("27: NOUGHT, " + k + name, nought == null ? -2 : told(nought, k), () -> x.quotient(2, 1, k));
            }
            Check.due("35: with NOUGHT, whatever k is, " + k + name, -2, () -> x.common(0, 2, k));
            Check.due("35: NOUGHT with, whatever k is, " + k + name, -2, () -> x.common(2, 1, k));
            Check.due("35: NOUGHT with itself, whatever k is, " + k + name, -2, () -> x.common(2, 2, k));
        }
        if (!Plain.nought(f)) {
            Check.due("27: by itself" + name, "0 1 -1", () -> x.quotient(0, 0, -1) + " " + x.quotient(0, 0, 0) + " " + x.quotient(0, 0, 1));
            Check.due("35: with itself" + name, m, () -> x.common(0, 0, -1));
        }
        if (!Plain.nought(f) && !Plain.nought(g)) {
            int[] common = Plain.common(f, g, p);
            for (int k : ks(common.length - 1)) {
                Check.due("35: " + k + name, told(common, k), () -> x.common(0, 1, k));
                Check.due("35: the other way, " + k + name, told(common, k), () -> x.common(1, 0, k));
            }
        }
    }

    // ==== 28 ====

    private static void plains() {
        for (int p : FIELDS) {
            for (int d = 0; d <= 8; d++) {
                LetterForms x = new LetterForms();
                x.field(p);
                String name = " of degree " + d + " modulo " + p;
                int[] two = sum(d, p, 0, 1, p, 1);
                Check.form(x, two);
                Check.due("28: x and y" + name, d >= 2, () -> x.plain(0));
                Check.form(x, sum(d, p, 0, 3));
                Check.due("28: x alone, nought by y" + name, false, () -> x.plain(1));
                Check.form(x, sum(d, p, p, 3));
                Check.due("28: y alone, nought by x" + name, false, () -> x.plain(2));
                Check.form(x, new int[d + 1]);
                Check.due("28: NOUGHT" + name, false, () -> x.plain(3));
                if (d >= 2) {
                    int[] square = Plain.times(Plain.power(line(1, p), 2, p), sum(d - 2, p, 2, 1), p);
                    Check.form(x, square);
                    Check.due("28: a square in it" + name, false, () -> x.plain(4));
                    int[] y = Plain.times(Plain.power(line(p, p), 2, p), sum(d - 2, p, 2, 1), p);
                    Check.form(x, y);
                    Check.due("28: y y in it" + name, false, () -> x.plain(5));
                    int[] many = {1};
                    for (int k = 0; k < d; k++) {
                        many = Plain.times(many, line(k == 0 ? p : k, p), p);
                    }
                    Check.form(x, many);
                    Check.due("28: all roots unlike" + name, true, () -> x.plain(6));
                }
            }
        }
    }
}
