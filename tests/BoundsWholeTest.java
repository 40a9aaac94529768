import java.util.List;

/** The sentences of the document that name a bound, one behind another: promises 37 to 40 (whole numbers). */
public final class BoundsWholeTest {
    private static final int LEAST = Integer.MIN_VALUE;
    private static final int MOST = Integer.MAX_VALUE;
    private static final int[] FAR = {LEAST, LEAST + 1, -65536, -1001, -1000, 1000, 1001, 65536, MOST - 1, MOST};
    private static final Fresh X = new Fresh();

    public static void main(String[] args) {
        wholeNumbers();
        discs();
        asLongAs();
        tells();
        whichDiscs();
        kths();
        reals();
        Check.end("BoundsWholeTest");
    }

    // ==== 37: - 999 to 999 each, DISC below 0, a above 0 ====

    private static void wholeNumbers() {
        for (int far : FAR) {
            for (int what : new int[] {0, 8, 9, -1}) {
                Check.argument("37: a " + far, () -> X.next().reduced(far, 0, 1, what));
                Check.argument("37: b " + far, () -> X.next().reduced(999, far, 999, what));
                Check.argument("37: c " + far, () -> X.next().reduced(1, 0, far, what));
                Check.argument("37: all " + far, () -> X.next().reduced(far, far, far, what));
            }
        }
        int[] some = {-999, -998, -1, 0, 1, 2, 500, 998, 999};
        for (int a : some) {
            for (int b : some) {
                for (int c : some) {
                    String name = a + " " + b + " " + c;
                    if (a <= 0 || b * b >= 4 * a * c) {
                        Check.argument("37: cannot be reduced, " + name, () -> X.next().reduced(a, b, c, 0));
                        Check.argument("37: the first exception, " + name, () -> X.next().reduced(a, b, c, 9));
                        continue;
                    }
                    long[] due = Whole.reduced(a, b, c);
                    for (int what = 0; what <= 8; what++) {
                        int w = what;
                        Check.due("37: " + what + " of " + name, due[w], () -> X.next().reduced(a, b, c, w));
                    }
                }
            }
        }
    }

    private static void discs() {
        // DISC - 4 and - 3 are the nearest to 0; 0 and 1 are none
        Check.due("37: DISC - 3", 1L, () -> X.next().reduced(1, 1, 1, 0));
        Check.due("37: DISC - 4", 1L, () -> X.next().reduced(1, 0, 1, 0));
        Check.due("37: DISC - 3, far", 1L, () -> X.next().reduced(1, 31, 241, 2));
        Check.due("37: DISC - 4, far", 1L, () -> X.next().reduced(1, 60, 901, 2));
        Check.argument("37: DISC 0", () -> X.next().reduced(1, 2, 1, 0));
        Check.argument("37: DISC 0, far", () -> X.next().reduced(1, 60, 900, 0));
        Check.argument("37: DISC 1", () -> X.next().reduced(1, 1, 0, 0));
        Check.argument("37: DISC 1, far", () -> X.next().reduced(1, 31, 240, 0));
        Check.argument("37: DISC 0, all of it", () -> X.next().reduced(0, 0, 0, 0));
        Check.argument("37: DISC 0, a 0", () -> X.next().reduced(0, 0, 999, 0));
        Check.argument("37: DISC - 4, a below 0", () -> X.next().reduced(-1, 0, -1, 0));
        Check.argument("37: DISC - 3, a below 0", () -> X.next().reduced(-1, 1, -1, 0));
        Check.argument("37: DISC above 0, a below 0", () -> X.next().reduced(-1, 0, 1, 0));
        Check.due("37: the least DISC", 999L, () -> X.next().reduced(999, 0, 999, 0));
        due("the greatest b", 500, 999, 500, "1 1 500 2 -1 -1 1 0 2");
        due("the least b", 500, -999, 500, "1 1 500 3 1 0 1 1 2");
        Check.argument("37: DISC 1, the greatest b", () -> X.next().reduced(499, 999, 500, 0));
    }

    private static String all(int a, int b, int c) {
        StringBuilder all = new StringBuilder();
        for (int what = 0; what <= 8; what++) {
            int w = what;
            all.append(what == 0 ? "" : " ").append(X.next().reduced(a, b, c, w));
        }
        return all.toString();
    }

    private static void due(String why, int a, int b, int c, String due) {
        Check.due("37: " + why + ", " + a + " " + b + " " + c, due, () -> all(a, b, c));
    }

    /** b at a, one above; at - a, one above; a at c, one on either side; b 0 and one on either side. */
    private static void asLongAs() {
        due("b is a", 4, 4, 9, "4 4 9 0 1 0 0 1 2");
        due("b is above a by one", 4, 5, 9, "4 -3 8 1 1 -1 0 1 2");
        due("b is - a", 4, -4, 9, "4 4 9 1 1 1 0 1 2");
        due("b is above - a by one", 4, -3, 9, "4 -3 9 0 1 0 0 1 2");
        due("b is below - a", 4, -5, 9, "4 3 8 1 1 1 0 1 2");
        due("b is 3 a, n is - 1", 2, 6, 9, "2 2 5 1 1 -1 0 1 2");
        due("b is - 3 a, n is 2", 2, -6, 9, "2 2 5 1 1 2 0 1 2");
        due("b is 3 a and 1, n is - 2", 2, 7, 9, "2 -1 3 1 1 -2 0 1 2");
        due("a is below c", 4, 1, 5, "4 1 5 0 1 0 0 1 2");
        due("a is c", 4, 1, 4, "4 1 4 0 1 0 0 1 2");
        due("a is above c", 5, 1, 4, "4 -1 5 1 0 -1 1 0 2");
        due("a is c, b 0", 4, 0, 4, "4 0 4 0 1 0 0 1 4");
        due("a is c, b below 0", 4, -1, 4, "4 1 4 1 0 -1 1 0 2");
        due("a is c, b - a: n first, then all is so", 4, -4, 4, "4 4 4 1 1 1 0 1 6");
        due("a is c, b a", 4, 4, 4, "4 4 4 0 1 0 0 1 6");
        due("a is c, b less than a by one", 4, 3, 4, "4 3 4 0 1 0 0 1 2");
        due("a is below c by one, b a", 4, 4, 5, "4 4 5 0 1 0 0 1 2");
        due("a is below c, b 0", 4, 0, 5, "4 0 5 0 1 0 0 1 2");
        due("both kinds", 5, 6, 3, "2 0 3 3 -1 0 1 -1 2");
        due("both kinds, three times", 10, 34, 29, "1 0 1 3 -2 5 1 -3 4");
        due("both kinds, with a number that divides all", 20, 68, 58, "2 0 2 3 -2 5 1 -3 4");
    }

    private static void tells() {
        for (int what : new int[] {LEAST, -2, -1, 9, 10, MOST}) {
            Check.noElement("37: " + what, () -> X.next().reduced(1, 0, 1, what));
            Check.noElement("37: what can be reduced still, " + what, () -> X.next().reduced(10, 34, 29, what));
        }
        for (int what = 0; what <= 8; what++) {
            long due = new long[] {1, 0, 1, 3, -2, 5, 1, -3, 4}[what];
            int w = what;
            Check.due("37: " + what, due, () -> X.next().reduced(10, 34, 29, w));
        }
    }

    // ==== 38 and 39: - 3 to - 9999, 0 or 1 modulo 4 ====

    private static boolean isDisc(int disc) {
        return disc <= -3 && disc >= -9999 && (-disc % 4 == 0 || -disc % 4 == 3);
    }

    private static void whichDiscs() {
        int[] some = {LEAST, LEAST + 1, LEAST + 3, -65536, -10004, -10003, -10001, -10000, -9999, -9998, -9997, -9996, -9995, -9992, -12, -11, -10,
            -9, -8, -7, -6, -5, -4, -3, -2, -1, 0, 1, 2, 3, 4, 5, 8, 9996, 9999, MOST - 3, MOST};
        for (int disc : some) {
            for (boolean all : new boolean[] {false, true}) {
                if (isDisc(disc)) {
                    Check.due("38: " + disc, Whole.classes(disc, all).size(), () -> X.next().classes(disc, all));
                } else {
                    Check.argument("38: " + disc, () -> X.next().classes(disc, all));
                }
            }
            for (int k : new int[] {-1, 0, MOST}) {
                for (int what : new int[] {-1, 0, 2, 3}) {
                    if (!isDisc(disc) || k < 0) {
                        Check.argument("39: " + disc + " " + k + " " + what, () -> X.next().reducedAt(disc, k, what));
                    }
                }
            }
        }
        Check.due("38: - 3", 1, () -> X.next().classes(-3, true));
        Check.due("38: - 4", 1, () -> X.next().classes(-4, true));
        Check.due("38: - 9999 is 1 modulo 4", true, () -> X.next().classes(-9999, false) > 1);
        Check.due("38: - 9996, all are more", true, () -> X.next().classes(-9996, true) > X.next().classes(-9996, false));
        // 4, 4, 4 has DISC - 48: a number above 1 divides all
        Check.due("38: - 48", 2, () -> X.next().classes(-48, false));
        Check.due("38: - 48, all", 4, () -> X.next().classes(-48, true));
    }

    /** From the first to behind the last: by a, then b; none that a number above 1 divides. */
    private static void kths() {
        for (int disc : new int[] {-3, -4, -12, -16, -23, -27, -48, -71, -104, -944, -9992, -9995, -9996, -9999}) {
            List<int[]> due = Whole.classes(disc, false);
            int many = due.size();
            for (int k = 0; k < many; k += k < 3 || k > many - 4 ? 1 : 5) {
                for (int what = 0; what < 3; what++) {
                    int at = k;
                    int w = what;
                    Check.due("39: " + disc + ", " + k + ", " + what, due.get(at)[w], () -> X.next().reducedAt(disc, at, w));
                }
            }
            for (int k : new int[] {many, many + 1, Whole.classes(disc, true).size() + 1, 9999, MOST}) {
                for (int what = 0; what < 3; what++) {
                    int w = what;
                    Check.due("39: " + disc + ", behind them, " + k, -9999, () -> X.next().reducedAt(disc, k, w));
                }
                for (int what : new int[] {LEAST, -1, 3, MOST}) {
                    Check.noElement("39: " + disc + ", behind them, another what", () -> X.next().reducedAt(disc, k, what));
                }
            }
            for (int what : new int[] {LEAST, -2, -1, 3, 4, MOST}) {
                Check.noElement("39: " + disc + ", another what, " + what, () -> X.next().reducedAt(disc, 0, what));
                Check.argument("39: " + disc + ", the first exception", () -> X.next().reducedAt(disc, -1, what));
                Check.argument("39: " + disc + ", the first exception", () -> X.next().reducedAt(disc, LEAST, what));
            }
        }
    }

    // ==== 40: - 30 to 30, the first not 0 ====

    private static int real(int[] k) {
        return X.next().real(k[0], k[1], k[2], k[3], k[4]);
    }

    private static void reals() {
        for (int n = 0; n < 5; n++) {
            for (int base = 0; base < 3; base++) {
                int[] k = {base == 0 ? 0 : 1, 1, base, -2, base - 1};
                for (int far : new int[] {LEAST, LEAST + 1, -65536, -32, -31, 31, 32, 65536, MOST}) {
                    k[n] = far;
                    int[] all = k.clone();
                    Check.argument("40: " + n + " is " + far, () -> real(all));
                }
                for (int far : new int[] {-30, -29, 29, 30}) {
                    k[n] = far;
                    int[] all = k.clone();
                    int[] due = k[0] == 0 ? new int[] {k[1], k[2], k[3], k[4]} : all;
                    Check.due("40: " + n + " is " + far, Whole.real(due), () -> real(all));
                }
            }
        }
        Check.argument("40: a 0, b 0", () -> X.next().real(0, 0, 1, 0, -1));
        Check.argument("40: a 0, b 0, all 0", () -> X.next().real(0, 0, 0, 0, 0));
        Check.argument("40: a 0, b 0, c 30", () -> X.next().real(0, 0, 30, 30, 30));
        Check.due("40: a 0, b 1", 3, () -> X.next().real(0, 1, 0, -1, 0));
        Check.due("40: a 0, b - 1", 3, () -> X.next().real(0, -1, 0, 1, 0));
        Check.due("40: a 1, b 0", 3, () -> X.next().real(1, 0, -1, 0, 0));
        Check.due("40: a - 1, b 0", 3, () -> X.next().real(-1, 0, 1, 0, 0));
        // one more, or less, in the last number: two roots meet, and are gone
        Check.due("40: a cubic's two roots", 3, () -> X.next().real(0, 1, 0, -3, 1));
        Check.due("40: meet", 2, () -> X.next().real(0, 1, 0, -3, 2));
        Check.due("40: and are gone", 1, () -> X.next().real(0, 1, 0, -3, 3));
        Check.due("40: on the other side", 3, () -> X.next().real(0, 1, 0, -3, -1));
        Check.due("40: meet", 2, () -> X.next().real(0, 1, 0, -3, -2));
        Check.due("40: and are gone", 1, () -> X.next().real(0, 1, 0, -3, -3));
        Check.due("40: a quartic's two roots", 2, () -> X.next().real(1, 0, 0, 0, -1));
        Check.due("40: meet, all four", 1, () -> X.next().real(1, 0, 0, 0, 0));
        Check.due("40: and are gone", 0, () -> X.next().real(1, 0, 0, 0, 1));
        Check.due("40: four", 4, () -> X.next().real(1, 0, -4, 0, 3));
        Check.due("40: twice two meet", 2, () -> X.next().real(1, 0, -4, 0, 4));
        Check.due("40: and are gone", 0, () -> X.next().real(1, 0, -4, 0, 5));
        Check.due("40: two of four meet", 3, () -> X.next().real(1, 0, -4, 0, 0));
        Check.due("40: and are gone", 2, () -> X.next().real(1, 0, -4, 0, -1));
        Check.due("40: three of four meet", 2, () -> X.next().real(1, -1, 0, 0, 0));
        Check.due("40: the greatest, all alike", 0, () -> X.next().real(30, 30, 30, 30, 30));
        Check.due("40: the least, all alike", 0, () -> X.next().real(-30, -30, -30, -30, -30));
        Check.due("40: far from one another", Whole.real(new int[] {30, -30, -30, 30, -30}), () -> X.next().real(30, -30, -30, 30, -30));
    }
}
