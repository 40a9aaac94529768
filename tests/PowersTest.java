/** Promise 34: a form as a sum of few powers. */
public final class PowersTest {
    public static void main(String[] args) {
        told();
        refused();
        drawn();
        Check.end("PowersTest");
    }

    /** How many, the points, the numbers; then what is behind them. */
    private static String all(LetterForms x, int form) {
        StringBuilder all = new StringBuilder();
        int many = x.powers(form, -1);
        all.append(many);
        for (int k = 0; k < many; k++) {
            all.append(' ').append(x.powers(form, k));
        }
        for (int k = 0; k < many; k++) {
            all.append(' ').append(x.powers(form, 10 + k));
        }
        boolean isNone = true;
        for (int k = 0; k < 20; k++) {
            isNone &= k % 10 < many || x.powers(form, k) == -1;
        }
        return all.append(isNone ? "" : " and more").toString();
    }

    private static void due(String due, int... numbers) {
        LetterForms x = new LetterForms();
        Check.form(x, numbers);
        Check.due("34: " + java.util.Arrays.toString(numbers), due, () -> all(x, 0));
    }

    private static void told() {
        due("0", 0, 0, 0);
        due("0", 0, 0);
        due("1 0 5", 5, 0);
        due("1 11 5", 0, 5);
        due("1 10 3", 3, 3);
        due("1 0 1", 1, 0, 0, 0);
        due("1 11 7", 0, 0, 0, 0, 7);
        due("1 2 1", 1, 7, 4);
        due("2 0 11 1 1", 1, 0, 1);
        due("2 0 11 4 9", 4, 0, 0, 0, 0, 0, 0, 0, 9);
        // 4 x y is (x and y) squared less (x less y) squared
        due("2 1 10 8 3", 0, 1, 0);
        // x to the 7 times y needs eight
        due("-1", 0, 1, 0, 0, 0, 0, 0, 0, 0);
        // what is left without 0 and 1 is that of y alone: no third point comes ahead of it
        due("3 0 1 11 1 1 1", 2, 7, 6, 7, 2);
        due("3 0 5 11 2 3 4", 5, 1, 10, 10, 9, 8, 2, 5, 5);
    }

    private static void refused() {
        LetterForms x = new LetterForms();
        Check.form(x, 7);
        Check.form(x, 1, 0, 1);
        Check.form(x, 0);
        Check.argument("34: degree 0", () -> x.powers(0, -1));
        Check.argument("34: degree 0, nought", () -> x.powers(2, 0));
        Check.argument("34: k below", () -> x.powers(1, -2));
        Check.argument("34: k far below", () -> x.powers(1, Integer.MIN_VALUE));
        Check.argument("34: both", () -> x.powers(0, -2));
        Check.index("34: none", () -> x.powers(3, -2));
        Check.index("34: below", () -> x.powers(-1, 0));
        Check.due("34: k 2", -1, () -> x.powers(1, 2));
        Check.due("34: k 9", -1, () -> x.powers(1, 9));
        Check.due("34: k 10", 1, () -> x.powers(1, 10));
        Check.due("34: k 12", -1, () -> x.powers(1, 12));
        Check.due("34: k 20", -1, () -> x.powers(1, 20));
        Check.due("34: k great", -1, () -> x.powers(1, Integer.MAX_VALUE));
    }

    /** Sums of drawn powers, and drawn forms: compared with trying all points and all numbers. */
    private static void drawn() {
        Drawn drawn = new Drawn(3);
        for (int turn = 0; turn < 60; turn++) {
            int p = turn % 6 == 0 ? 13 : 11;
            int d = drawn.between(1, 8);
            int[] f = new int[d + 1];
            for (int k = drawn.between(0, 4); k > 0; k--) {
                int point = drawn.below(p + 1);
                int[] line = point == p ? new int[] {0, 1} : new int[] {1, (p - point) % p};
                f = Plain.plus(f, Plain.scaled(Plain.power(line, d, p), drawn.below(p), p), p);
            }
            if (drawn.once(6)) {
                f[drawn.below(d + 1)] = drawn.below(p);
            }
            LetterForms x = new LetterForms();
            Model m = new Model();
            x.field(p);
            m.field(p);
            Check.form(x, f);
            m.feed(f[0] << 24 | (d > 0 ? f[1] << 16 : 0) | (d > 1 ? f[2] << 8 : 0) | (d > 2 ? f[3] : 0),
                (d > 3 ? f[4] << 24 : 0) | (d > 4 ? f[5] << 16 : 0) | (d > 5 ? f[6] << 8 : 0) | (d > 6 ? f[7] : 0),
                d > 7 ? f[8] << 24 : 0, 0, 0);
            m.end(d + 1);
            m.form();
            for (int k : new int[] {-1, 0, 2, 10, 11, 12}) {
                int at = k;
                Check.due("34: " + p + " " + java.util.Arrays.toString(f) + " " + k, m.powers(0, at), () -> x.powers(0, at));
            }
        }
    }
}
