/** Promises 15 and 17 to 21: what signs come to, whether it stays, agrees, how many there can be and are. */
public final class ValueTest {
    public static void main(String[] args) {
        values();
        tooGreat();
        stays();
        agrees();
        counts();
        spans();
        drawnSpans();
        powersOfOne();
        longRows();
        Check.end("ValueTest");
    }

    private static void value(String due, String text, int... numbers) {
        LetterForms x = new LetterForms();
        Check.form(x, numbers);
        Check.signs(x, text);
        Check.due("15: " + text, due, () -> Check.value(x, 0, 0));
    }

    private static void values() {
        value("1 2 3", "f", 1, 2, 3);
        value("10 9 8", "-f", 1, 2, 3);
        value("1 2 3", "--f", 1, 2, 3);
        value("0", "-0", 1, 2, 3);
        value("1", "012", 1, 2, 3);
        value("9", "999", 1, 2, 3);
        value("2 4 6", "f+f", 1, 2, 3);
        value("1 4 10 1 9", "f*f", 1, 2, 3);
        value("3 6 9", "3*f", 1, 2, 3);
        value("0 0 0", "f+-f", 1, 2, 3);
        value("5", "[f,f]2", 1, 2, 3);
        value("0 0 0", "[f,f]1", 1, 2, 3);
        value("1 4 10 1 9", "[f,f]0", 1, 2, 3);
        value("6 1 7", "f+f*2*2+0*f", 10, 9, 8);
        value("2 8 9 2 7", "f*(f+f)", 1, 2, 3);
        value("2", "1+1", 0);
        value("4", "f*f", 2);
        value("5", "-2*3", 7);
        value("9", "[2+f,-1]0", 0);
        // a number ahead of + needs a form of degree 0
        value("none", "f+1", 1, 2, 3);
        value("8", "f+1", 7);
        value("none", "f*f+f", 1, 2, 3);
        value("6", "f*f+f", 2);
        value("none", "[f,f]3", 1, 2, 3);
        value("none", "[f,1]1", 1, 2, 3);
        value("none", "[f*f,f]3", 1, 2, 3);
        value("none", "[f,f*f]3", 1, 2, 3);
        value("none", "0*[f,f]3", 1, 2, 3);
        value("none", "-(f+1)", 0, 0);
        value("none", "[f+1,f]0", 0, 0);
        // twice ((6x and 4y) (6x and 24y) less (4x and 6y) squared)
        value("7 9 10", "[f,f]2", 1, 2, 3, 4);
        LetterForms x = new LetterForms();
        Check.form(x, 1, 2, 3);
        Check.form(x, 5);
        Check.signs(x, "[f,f]2");
        Check.due("15: degree", 0, () -> x.value(0, 0, -1));
        Check.due("15: number", 5, () -> x.value(0, 0, 0));
        Check.due("15: behind", -1, () -> x.value(0, 0, 1));
        Check.due("15: ahead", -1, () -> x.value(0, 0, -2));
        Check.due("15: none", -2, () -> x.value(0, 1, -1));
        Check.due("15: none, behind", -2, () -> x.value(0, 1, 99));
        Check.due("15: none, ahead", -2, () -> x.value(0, 1, -99));
        Check.index("15: no signs", () -> x.value(1, 0, 0));
        Check.index("15: no form", () -> x.value(0, 2, 0));
        Check.index("15: below", () -> x.value(-1, 0, 0));
        Check.index("15: below", () -> x.value(0, -1, 0));
        Check.due("15: the form stays", "1 2 3", () -> Check.look(x, 0));
        x.table(2, 0, 0, 1);
        x.mix(0, 0);
        Check.due("15: of the form as it is now", "9", () -> Check.value(x, 0, 0));
    }

    private static void tooGreat() {
        int[] eight = {1, 0, 0, 0, 0, 0, 0, 0, 0};
        value("1" + " 0".repeat(40), "f*f*f*f*f", eight);
        value("0 ".repeat(40) + "1", "f*f*f*f*f", 0, 0, 0, 0, 0, 0, 0, 0, 1);
        // twice (9x and y) to the 5, times y to the 35
        value("0 ".repeat(35) + "2 6 5 3 2 2", "f*f*f*f*(f+f)", 0, 0, 0, 0, 0, 0, 0, 9, 1);
        value("none", "f*f*f*f*f*f", eight);
        value("1" + " 0".repeat(40), "f*f*(f*f*f)*1", eight);
        value("none", "[f*f*f*f*f*f,f*f]8", eight);
        value("none", "[f*f*f*f,f*f]3", eight);
        value("0" + " 0".repeat(40), "[f*f*f*f,f*f]4", eight);
        value("none", "[f*f*f*f*f,f*f*f]8", eight);
        value("none", "[f*f*f*f*f,f]0", eight);
        value("none", "0*(f*f*f*f*f*f)", eight);
        value("none", "-[f*f*f*f*f,f*f]7", eight);
        value("1" + " 0".repeat(40), "f" + "*f".repeat(19) + "", 1, 0, 0);
        value("none", "f" + "*f".repeat(14), 1, 0, 0, 0);
        value("1" + " 0".repeat(39), "f" + "*f".repeat(12), 1, 0, 0, 0);
        // the most signs - there can be: each of 20 letters 6 times
        String less = "------f";
        value("9 7", less + ("+" + less).repeat(19), 1, 2);
        value("4", "[f,f]8*0+4", eight);
        value("none", "[f,f*f*f*f]8*0+4", eight);
        value("none", "[f,1]8*0+4", eight);
    }

    private static void stays() {
        LetterForms x = new LetterForms();
        Check.form(x, 1, 2, 3, 4, 5);
        Check.form(x, 7, 8, 9);
        Check.form(x, 3);
        x.table(2, 1, 1, 3);
        x.table(10, 0, 0, 1);
        String[] texts = {"[f,f]2", "[f,[f,f]2]1", "[f,f]4", "f+f*f", "f*f+[f,f]0*1", "[f,f]2*f+f*f*f", "7", "f"};
        for (String text : texts) {
            Check.signs(x, text);
        }
        int[] four = {1, 1, 1, 0, 1, 0, 1, 1};
        LetterForms great = new LetterForms();
        Check.form(great, 1, 2, 3, 4, 5, 6, 7, 8, 9);
        great.table(2, 1, 1, 3);
        Check.signs(great, "f*f*f*f*f");
        Check.signs(great, "[f,f]8*0*(f*f*f*f*f)");
        Check.signs(great, "f*f*f*f*f*f");
        Check.due("17: degree 40", true, () -> great.stays(0, 0, 0));
        Check.due("17: degree 40, weight 8", true, () -> great.stays(1, 0, 0));
        Check.due("17: degree 48", false, () -> great.stays(2, 0, 0));
        int[] two = {1, 0, 0, 0, 1, 0, 1, 1};
        // of degree 0 all are numbers: an overlap by more than 0 has no value, but a sum has
        int[] none = {0, 0, 0, 1, 1, 0, 1, 1};
        for (int n = 0; n < 8; n++) {
            int s = n;
            for (int t = 0; t < 2; t++) {
                int by = t;
                Check.due("17: degree 4 " + texts[n], four[n], () -> x.stays(s, 0, by));
                Check.due("17: degree 2 " + texts[n], two[n], () -> x.stays(s, 1, by));
                Check.due("17: degree 0 " + texts[n], none[n], () -> x.stays(s, 2, by));
            }
        }
        Check.due("17: the form stays", "1 2 3 4 5", () -> Check.look(x, 0));
        Check.due("17: it is no act", 0, () -> x.stock(4));
        Check.index("17: no signs", () -> x.stays(8, 0, 0));
        Check.index("17: no form", () -> x.stays(0, 3, 0));
        Check.index("17: no table", () -> x.stays(0, 0, 2));
        Check.index("17: no table, without a weight", () -> x.stays(5, 0, 2));
        Check.index("17: below", () -> x.stays(-1, 0, 0));
        Check.index("17: below", () -> x.stays(0, -1, 0));
        Check.index("17: below", () -> x.stays(0, 0, -1));
    }

    private static void agrees() {
        LetterForms x = new LetterForms();
        Check.form(x, 1, 0, 0);
        Check.form(x, 3);
        Check.form(x, 0, 1, 0);
        Check.form(x, 0, 0, 0);
        Check.form(x, 1);
        Check.form(x, 5, 1);
        Check.signs(x, "[f,f]2*f");
        Check.signs(x, "0*f");
        Check.signs(x, "f*f");
        Check.signs(x, "f");
        Check.signs(x, "[f,f]2");
        Check.signs(x, "0*f*f");
        Check.due("18: not on x y", 2, () -> x.agree(0, 1, 2));
        Check.due("18: the other way", 2, () -> x.agree(1, 0, 2));
        Check.due("18: a law", -1, () -> x.agree(0, 0, 2));
        Check.due("18: unlike degrees", 0, () -> x.agree(2, 3, 2));
        Check.due("18: both nought, of unlike degrees", 0, () -> x.agree(1, 5, 2));
        Check.due("18: squares of numbers", 1, () -> x.agree(2, 3, 0));
        Check.due("18: both without value", -1, () -> x.agree(0, 4, 1));
        Check.due("18: the first without", 1, () -> x.agree(4, 1, 0));
        Check.due("18: the second without", 1, () -> x.agree(1, 4, 0));
        Check.due("18: no such forms", -1, () -> x.agree(0, 3, 7));
        Check.argument("18: degree 9", () -> x.agree(0, 1, 9));
        Check.argument("18: degree below", () -> x.agree(0, 1, -1));
        Check.due("18: degree 8", -1, () -> x.agree(0, 1, 8));
        Check.index("18: no first", () -> x.agree(6, 1, 9));
        Check.index("18: no second", () -> x.agree(1, 6, -1));
        Check.index("18: below", () -> x.agree(-1, 1, 2));
        Check.index("18: below", () -> x.agree(1, -1, 2));
    }

    private static void counts() {
        Fresh x = new Fresh();
        Check.due("19: a quadratic's", 1, () -> x.next().count(2, 2, 0));
        Check.due("19: a quartic's 2", 1, () -> x.next().count(2, 4, 0));
        Check.due("19: a quartic's 3", 1, () -> x.next().count(3, 4, 0));
        Check.due("19: a quartic's 6", 2, () -> x.next().count(6, 4, 0));
        Check.due("19: a quintic's 18 is behind", "throws.IllegalArgumentException", () -> x.next().count(18, 5, 0));
        Check.due("19: odd", 0, () -> x.next().count(3, 3, 0));
        Check.due("19: all of it", 1, () -> x.next().count(12, 8, 96));
        Check.due("19: one less", 0, () -> x.next().count(12, 8, 94));
        Check.due("19: below 0", 0, () -> x.next().count(11, 8, 96));
        Check.due("19: below 0 and odd", 0, () -> x.next().count(1, 1, 96));
        Check.due("19: rank 0", 1, () -> x.next().count(0, 8, 0));
        Check.due("19: rank 0 of degree 2", 0, () -> x.next().count(0, 8, 2));
        Model model = new Model();
        for (int r = -1; r <= 13; r++) {
            for (int d = 0; d <= 9; d++) {
                for (int m = -1; m <= 97; m += r > 9 && m > 0 && m < 90 ? 7 : 1) {
                    int rank = r;
                    int degree = d;
                    int most = m;
                    Check.due("19: " + r + " " + d + " " + m, Check.answer(() -> model.count(rank, degree, most)),
                        () -> x.next().count(rank, degree, most));
                }
            }
        }
        Check.argument("19: far off", () -> x.next().count(Integer.MAX_VALUE, 8, 0));
        Check.argument("19: far off", () -> x.next().count(1, Integer.MIN_VALUE, 0));
    }

    private static void spans() {
        LetterForms x = new LetterForms();
        String[] texts = {"f", "f+f", "[f,f]2", "0*f", "f*7", "[f,f]4", "-f", "[f,[f,f]2]2"};
        for (String text : texts) {
            Check.signs(x, text);
        }
        Check.due("20: one", 1, () -> x.span(1, 4, 7));
        Check.due("21: one", 1, () -> x.basis(1, 4, 7));
        Check.due("20: twice the same", 1, () -> x.span(3, 4, 7));
        Check.due("21: the lesser", 1, () -> x.basis(3, 4, 7));
        Check.due("21: the second alone", 2, () -> x.basis(2, 4, 7));
        Check.due("20: two", 2, () -> x.span(7, 4, 7));
        Check.due("21: two", 5, () -> x.basis(7, 4, 7));
        Check.due("20: nought", 0, () -> x.span(8, 4, 7));
        Check.due("21: nought", 0, () -> x.basis(8, 4, 7));
        Check.due("21: all of degree 4", 1 | 4 | 128, () -> x.basis(0b11011111, 4, 7));
        Check.due("20: one of degree 0", -1, () -> x.span(0b00111111, 4, 7));
        Check.due("21: one of degree 0", -1, () -> x.basis(33, 4, 7));
        Check.due("20: alone", 1, () -> x.span(32, 4, 7));
        Check.due("20: without value", -1, () -> x.span(32, 3, 7));
        Check.due("20: some without value", -1, () -> x.span(33, 3, 7));
        Check.due("20: none", 0, () -> x.span(0, 4, 7));
        Check.due("21: none", 0, () -> x.basis(0, 4, 7));
        Check.due("20: none that are there", 0, () -> x.span(-256, 4, 7));
        Check.due("21: some that are there", 1, () -> x.basis(-255, 4, 7));
        Check.argument("20: degree 0", () -> x.span(1, 0, 7));
        Check.argument("20: degree 9", () -> x.span(1, 9, 7));
        Check.argument("21: degree 0", () -> x.basis(1, 0, 7));
        Check.argument("21: degree 9", () -> x.basis(0, 9, 7));
        Check.argument("21: below", () -> x.basis(0, -1, 7));
        Check.due("20: degree 8", 1, () -> x.span(1, 8, 7));
        Check.due("20: degree 1", 1, () -> x.span(1, 1, 7));
        Check.due("20: no form is told", 0, () -> x.stock(1));
        LetterForms y = new LetterForms();
        Check.due("20: without signs", 0, () -> y.span(255, 4, 7));
        Check.due("21: without signs", 0, () -> y.basis(255, 4, 7));
    }

    /**
     * The first eight powers of the one number that stays of a quadratic: as many are independent as it
     * has numbers that are not 0 and not the same on the 12 forms. So each drawn number counts.
     */
    private static void powersOfOne() {
        for (int turn = 0; turn < 12; turn++) {
            int p = new int[] {11, 13, 17, 19}[turn % 4];
            int from = turn / 4 * 100 - 150;
            LetterForms x = new LetterForms();
            x.field(p);
            String text = "[f,f]2";
            for (int n = 1; n <= 8; n++) {
                Check.signs(x, text + "*[f,f]2".repeat(n - 1));
            }
            for (int seed = from; seed < from + 100; seed++) {
                int s = seed * 7919 * 104729;
                java.util.Set<Integer> all = new java.util.TreeSet<>();
                long now = s;
                for (int n = 0; n < 12; n++) {
                    long[] f = new long[3];
                    for (int k = 0; k < 3; k++) {
                        now = now * 1103515245L + 12345L;
                        f[k] = (now & 0x7fffffff) / 65536 % p;
                    }
                    all.add(Plain.mod(f[1] * f[1] - 4 * f[0] * f[2], p));
                }
                all.remove(0);
                int many = Math.min(8, all.size());
                Check.due("20: " + p + " " + s, many, () -> x.span(255, 2, s));
                Check.due("21: " + p + " " + s, (1 << many) - 1, () -> x.basis(255, 2, s));
                Check.due("20: the last three, " + p + " " + s, Math.min(3, all.size()), () -> x.span(0b11100000, 2, s));
            }
        }
    }

    /** The same with the number of a form of degree 8, times its fifth power: the longest rows. */
    private static void longRows() {
        for (int p : new int[] {11, 13, 17, 19}) {
            LetterForms x = new LetterForms();
            x.field(p);
            for (int n = 0; n < 8; n++) {
                Check.signs(x, "[f,f]8*".repeat(n) + "f*f*f*f*f");
            }
            for (int seed = 1; seed <= 25; seed++) {
                int s = seed * 1299709;
                java.util.Set<Integer> all = new java.util.TreeSet<>();
                int now = s;
                for (int n = 0; n < 12; n++) {
                    int[] f = new int[9];
                    for (int k = 0; k < 9; k++) {
                        now = now * 1103515245 + 12345;
                        f[k] = (now >> 16 & 0x7fff) % p;
                    }
                    all.add(Plain.overlap(f, f, 8, p)[0]);
                }
                int many = Math.min(8, all.size());
                Check.due("20: long, " + p + " " + s, many, () -> x.span(255, 8, s));
                Check.due("21: long, " + p + " " + s, (1 << many) - 1, () -> x.basis(255, 8, s));
            }
        }
        lastNumber(11, 631000778, 7);
        lastNumber(13, 1615175269, 8);
    }

    /** Seeds by which the 12th form is y to the 8 alone: one more is independent by the last of all 492 numbers. */
    private static void lastNumber(int p, int seed, int due) {
        LetterForms x = new LetterForms();
        x.field(p);
        for (int n = 0; n < 8; n++) {
            Check.signs(x, "[f,f]8*".repeat(n) + "f*f*f*f*f");
        }
        Check.due("20: the last number, " + p, due, () -> x.span(255, 8, seed));
        Check.due("21: the last number, " + p, (1 << due) - 1, () -> x.basis(255, 8, seed));
    }

    /** All seeds and fields: the rows of 12 forms of degree 1 tell many of the drawn numbers. */
    private static void drawnSpans() {
        String[] texts = {"f*f*f*f", "[f*f,f*f]2", "[f,f]2*f*f", "[f,f]2*[f,f]2", "[f*f,f*f]4", "[f*f,[f,f]2]2", "3*[f,f]2*f*f", "f*[f,[f,f]2]0"};
        Drawn drawn = new Drawn(9);
        for (int p : new int[] {11, 13, 17, 19}) {
            LetterForms x = new LetterForms();
            Model m = new Model();
            x.field(p);
            m.field(p);
            for (String text : texts) {
                int[] b = Check.bytes(text);
                Check.tape(x, b);
                x.signs();
                int[] n = new int[5];
                for (int k = 0; k < b.length; k++) {
                    n[k / 4] |= b[k] << (24 - k % 4 * 8);
                }
                m.feed(n);
                m.end(b.length);
                m.signs();
            }
            for (int turn = 0; turn < 40; turn++) {
                int set = drawn.below(256);
                int degree = drawn.between(1, 6);
                int seed = drawn.below(1 << 30) * 5;
                Check.due("20: " + p + " " + set + " " + degree + " " + seed, m.span(set, degree, seed), () -> x.span(set, degree, seed));
                Check.due("21: " + p + " " + set + " " + degree + " " + seed, m.basis(set, degree, seed), () -> x.basis(set, degree, seed));
            }
        }
    }
}
