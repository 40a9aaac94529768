/** Promises 9 to 12 and 24 to 30, 35, 36: forms looked at, tables joined and turned, roots, quotients, overlaps. */
public final class FormTest {
    public static void main(String[] args) {
        looks();
        mixes();
        tables();
        roots();
        quotients();
        commons();
        plains();
        overlaps();
        Check.end("FormTest");
    }

    private static void looks() {
        LetterForms x = new LetterForms();
        Check.form(x, 3, 0, 5);
        Check.due("9: degree", 2, () -> x.look(0, -1));
        Check.due("9: first", 3, () -> x.look(0, 0));
        Check.due("9: last", 5, () -> x.look(0, 2));
        Check.due("9: behind", -1, () -> x.look(0, 3));
        Check.due("9: far behind", -1, () -> x.look(0, Integer.MAX_VALUE));
        Check.due("9: ahead", -1, () -> x.look(0, -2));
        Check.index("9: none", () -> x.look(1, -1));
        Check.index("9: below", () -> x.look(-1, -1));
        Check.due("10: 3 times 4 and 5 times 9", 2, () -> x.at(0, 2, 3));
        Check.due("10: below 0", 2, () -> x.at(0, -2, 3 - 11));
        Check.due("10: least and greatest", 6, () -> x.at(0, Integer.MIN_VALUE, Integer.MAX_VALUE));
        Check.due("10: 0, 0", 0, () -> x.at(0, 0, 0));
        Check.index("10: none", () -> x.at(1, 0, 0));
        Check.form(x, 7);
        Check.due("9: degree 0", 0, () -> x.look(1, -1));
        Check.due("10: degree 0", 7, () -> x.at(1, 0, 0));
        Check.due("10: degree 0 elsewhere", 7, () -> x.at(1, 5, 9));
        Check.form(x, 1, 2, 3, 4, 5, 6, 7, 8, 9);
        Check.due("10: x 1, y 0", 1, () -> x.at(2, 1, 0));
        Check.due("10: x 0, y 1", 9, () -> x.at(2, 0, 1));
        Check.due("10: the sum", 1, () -> x.at(2, 1, 1));
        Check.due("10: x -1", 5, () -> x.at(2, -1, 1));
    }

    private static void mixes() {
        LetterForms x = new LetterForms();
        Check.form(x, 1, 0, 0);
        Check.form(x, 0, 1);
        Check.form(x, 4);
        Check.form(x, 0, 0, 0);
        x.table(2, 3, 5, 1);
        x.table(10, 0, 0, 10);
        Check.due("12: x x", true, () -> x.mix(0, 0));
        Check.due("12: (2x and 3y) squared", "4 1 9", () -> Check.look(x, 0));
        Check.due("12: y", true, () -> x.mix(1, 0));
        Check.due("12: 5x and y", "5 1", () -> Check.look(x, 1));
        Check.due("12: - x for x of degree 2", false, () -> x.mix(0, 1));
        Check.due("12: but of degree 1", true, () -> x.mix(1, 1));
        Check.due("12: it", "6 10", () -> Check.look(x, 1));
        Check.due("12: degree 0", false, () -> x.mix(2, 0));
        Check.due("12: degree 0 as it was", "4", () -> Check.look(x, 2));
        Check.due("12: nought", false, () -> x.mix(3, 0));
        Check.due("12: all are acts", 6, () -> x.stock(4));
        Check.index("12: no form", () -> x.mix(4, 0));
        Check.index("12: no form below", () -> x.mix(-1, 0));
        Check.index("12: no table", () -> x.mix(0, 2));
        Check.index("12: no table below", () -> x.mix(0, -1));
        Check.due("12: refused ones are none", 6, () -> x.stock(4));
        Check.due("12: and change nothing", "4 1 9", () -> Check.look(x, 0));
    }

    private static void tables() {
        LetterForms x = new LetterForms();
        x.table(2, 3, 5, 1);
        x.table(1, 4, 0, 6);
        Check.due("11: 2 less 15", 9, () -> x.det(0));
        Check.due("24: joined", 2, () -> x.join(0, 1));
        Check.due("24: it", "2 4 5 4", () -> Check.table(x, 2));
        Check.due("24: the other way", 3, () -> x.join(1, 0));
        Check.due("24: is another", "0 7 8 6", () -> Check.table(x, 3));
        Check.due("25: turned", 4, () -> x.turn(0));
        Check.due("25: it", "5 7 8 10", () -> Check.table(x, 4));
        Check.due("24: both", 5, () -> x.join(0, 4));
        Check.due("24: do nothing", "1 0 0 1", () -> Check.table(x, 5));
        Check.form(x, 1, 2, 3, 4);
        Check.form(x, 1, 2, 3, 4);
        x.mix(0, 0);
        x.mix(0, 1);
        x.mix(1, 2);
        Check.due("24: first, then second", Check.look(x, 0), () -> Check.look(x, 1));
        Check.index("24: no first", () -> x.join(6, 0));
        Check.index("24: no second", () -> x.join(0, 6));
        Check.index("24: below", () -> x.join(-1, 0));
        Check.index("25: none", () -> x.turn(6));
        Check.index("25: below", () -> x.turn(-1));
        x.turn(1);
        x.turn(6);
        Check.due("25: twice", "1 4 0 6", () -> Check.table(x, 7));
        Check.full("24: a 9th", () -> x.join(0, 0));
        Check.full("25: a 9th", () -> x.turn(0));
        Check.index("24: the first exception", () -> x.join(0, 8));
        Check.index("25: the first exception", () -> x.turn(8));
        Check.due("24: 8", 8, () -> x.stock(2));
        Check.due("26: a", 2, () -> x.told(0, 0));
        Check.due("26: b", 3, () -> x.told(0, 1));
        Check.due("26: c", 5, () -> x.told(0, 2));
        Check.due("26: d", 1, () -> x.told(0, 3));
    }

    private static void roots() {
        LetterForms x = new LetterForms();
        // (x less 3y) cubed times y squared
        Check.form(x, 0, 0, 1, 2, 5, 6);
        Check.due("29: 3", 3, () -> x.root(0, 3));
        Check.due("29: y 0", 2, () -> x.root(0, 11));
        Check.due("29: no root", 0, () -> x.root(0, 0));
        Check.argument("29: no point", () -> x.root(0, 12));
        Check.argument("29: no point below", () -> x.root(0, -1));
        Check.index("29: no form, and no point", () -> x.root(1, 12));
        Check.due("30: bits", 1 << 3 | 1 << 11, () -> x.roots(0));
        Check.due("31: 3 of 5", true, () -> x.empty(0));
        // x x y y: twice of four is not more than half
        Check.form(x, 0, 0, 1, 0, 0);
        Check.due("29: x 0", 2, () -> x.root(1, 0));
        Check.due("30: x 0 and y 0", 1 | 1 << 11, () -> x.roots(1));
        Check.due("31: half", false, () -> x.empty(1));
        Check.form(x, 0, 0, 0, 1, 0);
        Check.due("31: y 0, three times", true, () -> x.empty(2));
        Check.form(x, 0, 0, 0);
        Check.due("29: nought", 99, () -> x.root(3, 4));
        Check.due("29: nought, y 0", 99, () -> x.root(3, 11));
        Check.argument("29: nought, no point", () -> x.root(3, 12));
        Check.due("30: nought", 4095, () -> x.roots(3));
        Check.due("31: nought", true, () -> x.empty(3));
        Check.form(x, 5);
        Check.due("29: degree 0", 0, () -> x.root(4, 11));
        Check.due("30: degree 0", 0, () -> x.roots(4));
        Check.due("31: degree 0", false, () -> x.empty(4));
        Check.form(x, 1, 0);
        Check.due("31: degree 1", true, () -> x.empty(5));
        Check.form(x, 0);
        Check.due("31: nought of degree 0", true, () -> x.empty(6));
        Check.due("30: nought of degree 0", 4095, () -> x.roots(6));
        Check.form(x, 1, 0, 0, 0, 0, 0, 0, 0, 0);
        Check.due("29: eight times", 8, () -> x.root(7, 0));
        Check.index("30: none", () -> x.roots(8));
        Check.index("31: none", () -> x.empty(8));
        Check.index("30: below", () -> x.roots(-1));
        Check.index("31: below", () -> x.empty(-1));
        LetterForms y = new LetterForms();
        y.field(19);
        Check.form(y, 0, 1);
        Check.due("29: 19 is a point", 1, () -> y.root(0, 19));
        Check.argument("29: 20 is none", () -> y.root(0, 20));
        Check.due("30: of 19", 1 << 19, () -> y.roots(0));
    }

    private static void quotients() {
        LetterForms x = new LetterForms();
        Check.form(x, 1, 0, 10);
        Check.form(x, 1, 1);
        Check.form(x, 0, 2);
        Check.form(x, 0, 3, 4, 0);
        Check.form(x, 0, 0);
        Check.form(x, 6);
        Check.form(x, 0);
        Check.due("27: degree", 1, () -> x.quotient(0, 1, -1));
        Check.due("27: x", 1, () -> x.quotient(0, 1, 0));
        Check.due("27: less y", 10, () -> x.quotient(0, 1, 1));
        Check.due("27: behind", -1, () -> x.quotient(0, 1, 2));
        Check.due("27: ahead", -1, () -> x.quotient(0, 1, -2));
        Check.due("27: y does not divide", -2, () -> x.quotient(0, 2, -1));
        Check.due("27: whatever k is", -2, () -> x.quotient(0, 2, 7));
        Check.due("27: y divides", 2, () -> x.quotient(3, 2, -1));
        Check.due("27: 3 by 2", 7, () -> x.quotient(3, 2, 0));
        Check.due("27: 4 by 2", 2, () -> x.quotient(3, 2, 1));
        Check.due("27: 0 by 2", 0, () -> x.quotient(3, 2, 2));
        Check.due("27: of greater degree", -2, () -> x.quotient(1, 0, -1));
        Check.due("27: by nought", -2, () -> x.quotient(0, 4, -1));
        Check.due("27: nought by nought", -2, () -> x.quotient(4, 4, 0));
        Check.due("27: nought", 0, () -> x.quotient(4, 1, -1));
        Check.due("27: nought's number", 0, () -> x.quotient(4, 1, 0));
        Check.due("27: nought by more", -2, () -> x.quotient(4, 0, -1));
        Check.due("27: by a number", 2, () -> x.quotient(0, 5, 0));
        Check.due("27: by the number 0", -2, () -> x.quotient(0, 6, 0));
        Check.due("27: 0 by a number", 0, () -> x.quotient(6, 5, 0));
        Check.due("27: by itself", 1, () -> x.quotient(3, 3, 0));
        Check.due("27: rest at the end", -2, () -> x.quotient(3, 1, -1));
        Check.index("27: no first", () -> x.quotient(7, 0, 0));
        Check.index("27: no second", () -> x.quotient(0, 7, 0));
        Check.index("27: below", () -> x.quotient(-1, 0, 0));
    }

    private static void commons() {
        LetterForms x = new LetterForms();
        // y (x less y) (x and 2y); 3 y y (x less y); x x; nought; 5
        Check.form(x, 0, 1, 1, 9);
        Check.form(x, 0, 0, 3, 8);
        Check.form(x, 1, 0, 0);
        Check.form(x, 0, 0);
        Check.form(x, 5);
        Check.due("35: degree", 2, () -> x.common(0, 1, -1));
        Check.due("35: 0", 0, () -> x.common(0, 1, 0));
        Check.due("35: 1", 1, () -> x.common(0, 1, 1));
        Check.due("35: - 1", 10, () -> x.common(0, 1, 2));
        Check.due("35: behind", -1, () -> x.common(0, 1, 3));
        Check.due("35: ahead", -1, () -> x.common(0, 1, -2));
        Check.due("35: the other way", 10, () -> x.common(1, 0, 2));
        Check.due("35: nothing", 0, () -> x.common(0, 2, -1));
        Check.due("35: but 1", 1, () -> x.common(2, 0, 0));
        Check.due("35: nought", -2, () -> x.common(0, 3, -1));
        Check.due("35: nought first", -2, () -> x.common(3, 0, 9));
        Check.due("35: both nought", -2, () -> x.common(3, 3, 0));
        Check.due("35: of a number", 0, () -> x.common(4, 1, -1));
        Check.due("35: of a number 1", 1, () -> x.common(4, 4, 0));
        Check.due("35: with itself", 1, () -> x.common(1, 1, 2));
        Check.due("35: all of it", 3, () -> x.common(1, 1, -1));
        Check.index("35: no first", () -> x.common(5, 0, 0));
        Check.index("35: no second", () -> x.common(0, 5, 0));
        Check.index("35: none ahead of nought", () -> x.common(3, -1, 0));
        products();
    }

    /** Products made of few factors, so that much is in common: compared with equations. */
    private static void products() {
        Drawn drawn = new Drawn(77);
        int[] primes = {11, 13, 17, 19};
        for (int turn = 0; turn < 300; turn++) {
            int p = primes[turn % 4];
            LetterForms x = new LetterForms();
            x.field(p);
            int[] f = {1 + drawn.below(10)};
            int[] g = {1 + drawn.below(10)};
            int[] h = {1 + drawn.below(10)};
            int[][] lines = {{0, 1}, {1, 0}, {1, drawn.below(p)}, {2, drawn.below(p)}, {1, 0, 2}};
            for (int k = 0; k < 5; k++) {
                int[] line = lines[drawn.below(5)];
                boolean isFirst = drawn.once(2);
                boolean isSecond = drawn.once(2) || !isFirst;
                f = isFirst && f.length + line.length <= 10 ? Plain.times(f, line, p) : f;
                g = isSecond && g.length + line.length <= 10 ? Plain.times(g, line, p) : g;
                h = isFirst && isSecond && h.length + line.length <= 10 ? Plain.times(h, line, p) : h;
            }
            if (drawn.once(3)) {
                int at = drawn.below(f.length);
                f[at] = (f[at] + 1) % p;
            }
            Check.form(x, f);
            Check.form(x, g);
            Check.form(x, h);
            int[][] all = {f, g, h};
            for (int i = 0; i < 3; i++) {
                for (int j = 0; j < 3; j++) {
                    compare(x, all, i, j, p);
                }
            }
        }
    }

    private static void compare(LetterForms x, int[][] all, int i, int j, int p) {
        boolean isNought = Plain.nought(all[i]) || Plain.nought(all[j]);
        int[] c = isNought ? null : Plain.common(all[i], all[j], p);
        int[] q = Plain.nought(all[j]) ? null : Plain.quotient(all[i], all[j], p);
        Check.due("35: degree in common", c == null ? -2 : c.length - 1, () -> x.common(i, j, -1));
        Check.due("27: degree of the quotient", q == null ? -2 : q.length - 1, () -> x.quotient(i, j, -1));
        for (int k = 0; k < 9; k++) {
            int at = k;
            Check.due("35: number", c == null ? -2 : at < c.length ? c[at] : -1, () -> x.common(i, j, at));
            Check.due("27: number", q == null ? -2 : at < q.length ? q[at] : -1, () -> x.quotient(i, j, at));
        }
        boolean isPlain = all[i].length > 2 && !Plain.nought(Plain.byX(all[i], p)) && !Plain.nought(Plain.byY(all[i], p))
            && Plain.common(Plain.byX(all[i], p), Plain.byY(all[i], p), p).length == 1;
        Check.due("28: plain", isPlain, () -> x.plain(i));
        for (int point = 0; point <= p; point++) {
            int[] line = point == p ? new int[] {0, 1} : new int[] {1, (p - point) % p};
            int often = 0;
            while (!Plain.nought(all[i]) && Plain.quotient(all[i], Plain.power(line, often + 1, p), p) != null) {
                often++;
            }
            int due = Plain.nought(all[i]) ? 99 : often;
            int at = point;
            Check.due("29: how often", due, () -> x.root(i, at));
        }
    }

    private static void plains() {
        LetterForms x = new LetterForms();
        Check.form(x, 0, 1, 0);
        Check.due("28: x y", true, () -> x.plain(0));
        Check.form(x, 1, 0, 0);
        Check.due("28: x x, not by y", false, () -> x.plain(1));
        Check.form(x, 0, 0, 1);
        Check.due("28: y y, not by x", false, () -> x.plain(2));
        Check.form(x, 1, 2, 1);
        Check.due("28: a square", false, () -> x.plain(3));
        Check.form(x, 1, 1);
        Check.due("28: degree 1", false, () -> x.plain(4));
        Check.form(x, 1);
        Check.due("28: degree 0", false, () -> x.plain(5));
        Check.form(x, 0, 0, 0, 0);
        Check.due("28: nought", false, () -> x.plain(6));
        Check.form(x, 1, 0, 0, 1);
        Check.due("28: two cubes", true, () -> x.plain(7));
        Check.form(x, 0, 1, 0, 0);
        Check.due("28: x x y", false, () -> x.plain(8));
        Check.form(x, 1, 0, 0, 0, 0, 0, 0, 0, 1);
        Check.due("28: degree 8", true, () -> x.plain(9));
        Check.index("28: none", () -> x.plain(10));
        Check.index("28: below", () -> x.plain(-1));
    }

    private static void overlaps() {
        LetterForms x = new LetterForms();
        Check.form(x, 1, 2, 3);
        Check.form(x, 4, 5);
        Check.form(x, 7);
        // by 1: (2x and 2y) 5 less (2x and 6y) 4
        Check.due("36: degree", 1, () -> x.overlap(0, 1, 1, -1));
        Check.due("36: 10 less 8", 2, () -> x.overlap(0, 1, 1, 0));
        Check.due("36: 10 less 24", 8, () -> x.overlap(0, 1, 1, 1));
        Check.due("36: behind", -1, () -> x.overlap(0, 1, 1, 2));
        Check.due("36: ahead", -1, () -> x.overlap(0, 1, 1, -2));
        Check.due("36: the other way", 9, () -> x.overlap(1, 0, 1, 0));
        Check.due("36: by 0, degree", 3, () -> x.overlap(0, 1, 0, -1));
        Check.due("36: by 0, a product", 2, () -> x.overlap(0, 1, 0, 1));
        // twice (2 times 6 less 2 times 2)
        Check.due("36: with itself by 2", 5, () -> x.overlap(0, 0, 2, 0));
        Check.due("36: with itself by 1, degree", 2, () -> x.overlap(0, 0, 1, -1));
        Check.due("36: with itself by 1", 0, () -> x.overlap(0, 0, 1, 1));
        Check.due("36: with a number", 10, () -> x.overlap(0, 2, 0, 2));
        Check.argument("36: more than the lesser", () -> x.overlap(0, 1, 2, 0));
        Check.argument("36: more than the lesser, ahead", () -> x.overlap(1, 0, 2, 0));
        Check.argument("36: below 0", () -> x.overlap(0, 1, -1, 0));
        Check.argument("36: a number has none but 0", () -> x.overlap(2, 0, 1, -1));
        Check.argument("36: whatever k is", () -> x.overlap(2, 0, Integer.MAX_VALUE, -5));
        Check.index("36: no first", () -> x.overlap(3, 0, 9, 0));
        Check.index("36: no second", () -> x.overlap(0, 3, 9, 0));
        Check.index("36: below", () -> x.overlap(-1, 0, 0, 0));
        Check.form(x, 1, 0, 0, 0, 0, 0, 0, 0, 0);
        Check.form(x, 0, 0, 0, 0, 0, 0, 0, 0, 1);
        Check.due("36: degree 16", 16, () -> x.overlap(3, 4, 0, -1));
        Check.due("36: its middle", 1, () -> x.overlap(3, 4, 0, 8));
        // 40320 squared modulo 11: 40320 is 5
        Check.due("36: by 8", 3, () -> x.overlap(3, 4, 8, 0));
        Check.due("36: by 8, degree", 0, () -> x.overlap(3, 4, 8, -1));
        Check.argument("36: by 9", () -> x.overlap(3, 4, 9, 0));
    }
}
