/** Promises 37 to 40: whole forms reduced and counted, real roots. */
public final class WholeTest {
    private static final Fresh X = new Fresh();

    public static void main(String[] args) {
        reduced();
        reducedDrawn();
        classes();
        realTold();
        realDrawn();
        Check.end("WholeTest");
    }

    private static String all(int a, int b, int c) {
        LetterForms x = new LetterForms();
        StringBuilder all = new StringBuilder();
        for (int what = 0; what <= 8; what++) {
            all.append(what == 0 ? "" : " ").append(x.reduced(a, b, c, what));
        }
        return all.toString();
    }

    private static void due(int a, int b, int c, String due) {
        Check.due("37: " + a + " " + b + " " + c, due, () -> all(a, b, c));
    }

    private static void reduced() {
        due(1, 0, 1, "1 0 1 0 1 0 0 1 4");
        due(1, 1, 1, "1 1 1 0 1 0 0 1 6");
        due(1, -1, 1, "1 1 1 1 1 1 0 1 6");
        due(2, 2, 3, "2 2 3 0 1 0 0 1 2");
        due(2, -2, 3, "2 2 3 1 1 1 0 1 2");
        due(3, 2, 3, "3 2 3 0 1 0 0 1 2");
        due(3, -2, 3, "3 2 3 1 0 -1 1 0 2");
        due(3, 3, 3, "3 3 3 0 1 0 0 1 6");
        due(5, 0, 5, "5 0 5 0 1 0 0 1 4");
        due(5, 0, 2, "2 0 5 1 0 -1 1 0 2");
        due(1, 998, 249002, "throws.IllegalArgumentException");
        due(1, 60, 901, "1 0 1 1 1 -30 0 1 4");
        due(10, 34, 29, "1 0 1 3 -2 5 1 -3 4");
        Check.argument("37: DISC 0", () -> X.next().reduced(1, 2, 1, 0));
        Check.argument("37: DISC above 0", () -> X.next().reduced(1, 3, 1, 0));
        Check.argument("37: a 0", () -> X.next().reduced(0, 0, 1, 0));
        Check.argument("37: a below 0", () -> X.next().reduced(-1, 0, -1, 0));
        Check.argument("37: c below 0", () -> X.next().reduced(1, 0, -1, 0));
        Check.argument("37: a none", () -> X.next().reduced(1000, 0, 1, 0));
        Check.argument("37: b none", () -> X.next().reduced(999, 1000, 999, 0));
        Check.argument("37: b none below", () -> X.next().reduced(999, -1000, 999, 0));
        Check.argument("37: c none", () -> X.next().reduced(1, 0, 1000, 0));
        Check.argument("37: far off", () -> X.next().reduced(1, Integer.MIN_VALUE, 1, 0));
        Check.argument("37: far off", () -> X.next().reduced(Integer.MAX_VALUE, 0, Integer.MAX_VALUE, 0));
        Check.argument("37: the first exception", () -> X.next().reduced(1, 2, 1, 9));
        Check.noElement("37: 9", () -> X.next().reduced(1, 1, 1, 9));
        Check.noElement("37: - 1", () -> X.next().reduced(1, 1, 1, -1));
        Check.due("37: 999", 999L, () -> X.next().reduced(999, 0, 999, 2));
        Check.due("37: nothing is told by it", "11 0 0 0 0 0 0 ", () -> Check.all(X.next()));
    }

    private static void reducedDrawn() {
        Drawn drawn = new Drawn(6);
        for (int turn = 0; turn < 3000; turn++) {
            int most = turn % 3 == 0 ? 999 : turn % 3 == 1 ? 99 : 9;
            int a = drawn.between(1, most);
            int b = drawn.between(-most, most);
            int c = drawn.between(1, most);
            if (turn % 5 == 0) {
                // as thin as can be: the farthest way
                c = Math.min(999, b * b / (4 * a) + 1);
            }
            int last = c;
            if (b * b >= 4 * a * c) {
                Check.argument("37: " + a + " " + b + " " + c, () -> X.next().reduced(a, b, last, 0));
                continue;
            }
            long[] due = Whole.reduced(a, b, c);
            for (int what = 0; what <= 8; what++) {
                int w = what;
                Check.due("37: " + a + " " + b + " " + c + " " + what, due[w], () -> X.next().reduced(a, b, last, w));
            }
        }
    }

    private static void classes() {
        // those with one class alone, all being without a common divisor
        for (int disc : new int[] {-3, -4, -7, -8, -11, -19, -43, -67, -163}) {
            Check.due("38: " + disc, 1, () -> X.next().classes(disc, false));
            Check.due("38: all " + disc, 1, () -> X.next().classes(disc, true));
        }
        Check.due("38: - 15", 2, () -> X.next().classes(-15, false));
        Check.due("38: - 12", 1, () -> X.next().classes(-12, false));
        Check.due("38: - 12, all", 2, () -> X.next().classes(-12, true));
        Check.due("38: - 27", 1, () -> X.next().classes(-27, false));
        Check.due("38: - 27, all", 2, () -> X.next().classes(-27, true));
        Check.due("38: - 71", 7, () -> X.next().classes(-71, false));
        Check.due("38: - 84", 4, () -> X.next().classes(-84, false));
        Model m = new Model();
        for (int d = 10; d >= -10010; d -= d > -200 || d < -9900 ? 1 : 37) {
            int disc = d;
            Check.due("38: " + d, Check.answer(() -> m.classes(disc, false)), () -> X.next().classes(disc, false));
            Check.due("38: all " + d, Check.answer(() -> m.classes(disc, true)), () -> X.next().classes(disc, true));
            for (int k : new int[] {-1, 0, 1, 2, 7, 40, 999}) {
                int at = k;
                for (int what = -1; what <= 3; what++) {
                    int w = what;
                    Check.due("39: " + d + " " + k + " " + what, Check.answer(() -> m.reducedAt(disc, at, w)),
                        () -> X.next().reducedAt(disc, at, w));
                }
            }
        }
        Check.due("39: behind", -9999, () -> X.next().reducedAt(-4, 1, 0));
        Check.due("39: far behind", -9999, () -> X.next().reducedAt(-4, Integer.MAX_VALUE, 2));
        Check.due("39: the second of - 12 has a divisor", -9999, () -> X.next().reducedAt(-12, 1, 1));
        Check.due("39: b below 0 first", "2 -1 2 1", () -> X.next().reducedAt(-23, 1, 0) + " " + X.next().reducedAt(-23, 1, 1) + " "
            + X.next().reducedAt(-23, 2, 0) + " " + X.next().reducedAt(-23, 2, 1));
        Check.noElement("39: behind, and another what", () -> X.next().reducedAt(-4, 5, 3));
        Check.argument("39: the first exception", () -> X.next().reducedAt(-5, 0, 3));
        Check.argument("39: the first exception", () -> X.next().reducedAt(-4, -1, 3));
        Check.argument("38: far off", () -> X.next().classes(Integer.MIN_VALUE, true));
        Check.argument("38: far off", () -> X.next().classes(Integer.MAX_VALUE, true));
    }

    private static void real(int due, int a, int b, int c, int d, int e) {
        Check.due("40: " + a + " " + b + " " + c + " " + d + " " + e, due, () -> X.next().real(a, b, c, d, e));
    }

    private static void realTold() {
        real(3, 0, 1, -6, 11, -6);
        real(2, 0, 1, -4, 5, -2);
        real(1, 0, 1, -3, 3, -1);
        real(1, 0, 2, 0, 0, 5);
        real(1, 0, -30, 0, 0, 0);
        real(4, 1, 0, -7, 6, 0);
        real(4, -2, 0, 14, -12, 0);
        real(3, 1, -4, 5, -2, 0);
        real(2, 1, -3, 3, -1, 0);
        real(2, 1, -2, -3, 4, 4);
        real(1, 1, 0, 0, 0, 0);
        real(1, 1, -4, 6, -4, 1);
        real(1, 1, -2, 2, -2, 1);
        real(0, 1, 2, 3, 2, 1);
        real(0, -1, 0, -2, 0, -1);
        real(2, 1, 2, 0, -3, -30);
        Check.argument("40: neither quartic nor cubic", () -> X.next().real(0, 0, 1, 2, 3));
        Check.argument("40: all 0", () -> X.next().real(0, 0, 0, 0, 0));
        for (int n = 0; n < 5; n++) {
            for (int far : new int[] {31, -31, Integer.MIN_VALUE, Integer.MAX_VALUE}) {
                int[] k = {1, 1, 1, 1, 1};
                k[n] = far;
                Check.argument("40: " + n + " is " + far, () -> X.next().real(k[0], k[1], k[2], k[3], k[4]));
            }
            int[] k = {1, 1, 1, 1, 1};
            k[n] = -30;
            Check.due("40: - 30", Whole.real(k), () -> X.next().real(k[0], k[1], k[2], k[3], k[4]));
        }
    }

    /** All with small numbers (many have roots that are the same), and drawn ones. */
    private static void realDrawn() {
        for (int n = 0; n < 7 * 7 * 7 * 7 * 7; n++) {
            int[] k = {n / 2401 - 3, n / 343 % 7 - 3, n / 49 % 7 - 3, n / 7 % 7 - 3, n % 7 - 3};
            both(k);
        }
        Drawn drawn = new Drawn(8);
        for (int turn = 0; turn < 20000; turn++) {
            int[] k = new int[5];
            for (int i = 0; i < 5; i++) {
                k[i] = drawn.between(-30, 30);
            }
            both(k);
        }
        // products of two squares, squares times another, cubes times another
        for (int turn = 0; turn < 60000; turn++) {
            int[] q = {drawn.between(1, 3), drawn.between(-5, 5), drawn.between(-5, 5)};
            int[] r = turn % 2 == 0 ? q : new int[] {drawn.between(1, 4), drawn.between(-6, 6), drawn.between(-6, 6)};
            if (turn % 3 == 0) {
                int s = drawn.between(1, 2);
                int t = drawn.between(-4, 4);
                q = new int[] {s * s, 2 * s * t, t * t};
                r = turn % 2 == 0 ? r : new int[] {s * r[0], s * r[1] + t * r[0], t * r[1]};
            }
            both(new int[] {q[0] * r[0], q[0] * r[1] + q[1] * r[0], q[0] * r[2] + q[1] * r[1] + q[2] * r[0],
                q[1] * r[2] + q[2] * r[1], q[2] * r[2]});
        }
    }

    private static void both(int[] k) {
        for (int one : k) {
            if (one < -30 || one > 30) {
                return;
            }
        }
        if (k[0] == 0 && k[1] == 0) {
            return;
        }
        int[] numbers = k[0] == 0 ? new int[] {k[1], k[2], k[3], k[4]} : k;
        Check.due("40: " + java.util.Arrays.toString(k), Whole.real(numbers), () -> X.next().real(k[0], k[1], k[2], k[3], k[4]));
    }
}
