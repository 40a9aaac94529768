/**
 * The sentences of the document that name a bound, one behind another: promises 1 to 8, 12 to 14 and 41 to 43 (what is
 * told, the tape, acts, the image, the stock). BoundsFormTest and BoundsWholeTest have the others.
 */
public final class BoundsTest {
    private static final int LEAST = Integer.MIN_VALUE;
    private static final int MOST = Integer.MAX_VALUE;
    private static final int[] FIELDS = {11, 13, 17, 19};

    public static void main(String[] args) {
        nothingTold();
        twentyBytes();
        fourHundred();
        ends();
        fields();
        lengths();
        bytes();
        noughts();
        sixteen();
        eightTables();
        dets();
        eightSigns();
        faults();
        oneByte();
        mixes();
        actsToForty();
        whatEndsRedo();
        images();
        stocks();
        lastCall();
        Check.end("BoundsTest");
    }

    // ==== 1: nothing told ====

    private static void nothingTold() {
        for (int n : new int[] {0, -1, 1, LEAST, MOST}) {
            LetterForms x = new LetterForms();
            Check.index("1: look", () -> x.look(n, -1));
            Check.index("1: at", () -> x.at(n, 0, 0));
            Check.index("1: det", () -> x.det(n));
            Check.index("1: mix", () -> x.mix(n, n));
            Check.index("1: value", () -> x.value(n, n, 0));
            Check.index("1: rank", () -> x.rank(n, false));
            Check.index("1: stays", () -> x.stays(n, n, n));
            Check.index("1: agree", () -> x.agree(n, n, 0));
            Check.index("1: kind", () -> x.kind(n));
            Check.index("1: orbit", () -> x.orbit(n));
            Check.index("1: join", () -> x.join(n, n));
            Check.index("1: turn", () -> x.turn(n));
            Check.index("1: told", () -> x.told(n, 0));
            Check.index("1: quotient", () -> x.quotient(n, n, 0));
            Check.index("1: plain", () -> x.plain(n));
            Check.index("1: root", () -> x.root(n, 0));
            Check.index("1: roots", () -> x.roots(n));
            Check.index("1: empty", () -> x.empty(n));
            Check.index("1: same", () -> x.same(n, n));
            Check.index("1: keep", () -> x.keep(n));
            Check.index("1: powers", () -> x.powers(n, 0));
            Check.index("1: common", () -> x.common(n, n, 0));
            Check.index("1: overlap", () -> x.overlap(n, n, 0, 0));
        }
        LetterForms x = new LetterForms();
        Check.argument("1: no byte for a form", x::form);
        Check.due("1: no signs in a span", 0, () -> x.span(-1, 1, 0));
        Check.due("1: no signs in a basis", 0, () -> x.basis(-1, 8, 0));
        Check.due("1: nothing to undo", -1, x::undo);
        Check.due("1: nothing to do again", -1, x::redo);
        Check.due("1: no image", false, x::back);
        Check.due("1: no text", -1, x::fault);
        Check.argument("1: no byte for signs", x::signs);
        Check.due("1: what the empty text lacks", 0, x::fault);
    }

    // ==== 2 and 3: the tape ====

    /** Five numbers of four blanks each, but for one byte. */
    private static int[] blanks(int at, int sign) {
        int[] n = new int[5];
        for (int k = 0; k < 20; k++) {
            n[k / 4] = n[k / 4] << 8 | (k == at ? sign : ' ');
        }
        return n;
    }

    private static int feed(LetterForms x, int[] n) {
        return x.feed(n[0], n[1], n[2], n[3], n[4]);
    }

    /** Where a wrong byte stands in a text of blanks tells where it came to. */
    private static void twentyBytes() {
        for (int k = 0; k < 20; k++) {
            int at = k;
            LetterForms x = new LetterForms();
            Check.due("2: twenty", 20, () -> feed(x, blanks(at, 'g')));
            Check.argument("2: byte " + k, x::signs);
            Check.due("2: byte " + k + " of five numbers, the highest first", k, x::fault);
            Check.due("2: twenty behind twenty", 40, () -> {
                feed(x, blanks(-1, 0));
                return feed(x, blanks(at, 'g'));
            });
            Check.argument("2: byte " + (20 + k), x::signs);
            Check.due("2: byte " + k + " of the next five", 20 + k, x::fault);
            LetterForms y = new LetterForms();
            feed(y, blanks(at, 'f'));
            Check.due("2: f at " + k, 0, y::signs);
            LetterForms z = new LetterForms();
            feed(z, blanks(at, 255));
            Check.argument("2: the greatest byte at " + k, z::signs);
            Check.due("2: the greatest byte at " + k, k, z::fault);
        }
        LetterForms x = new LetterForms();
        x.feed(-1, LEAST, MOST, 0, 1);
        x.end(9);
        x.form();
        // 255 is 2 modulo 11, 128 is 7, 127 is 6
        Check.due("2: - 1, the least", "2 2 2 2 7 0 0 0 6", () -> Check.look(x, 0));
        LetterForms y = new LetterForms();
        y.feed(0x7fffffff, 0x80ff7f00, 0x01000000, 0, 0);
        y.end(9);
        y.form();
        Check.due("2: the greatest, and others", "6 2 2 2 7 2 6 0 1", () -> Check.look(y, 0));
    }

    /** Of each length from 0 on: twenty more, or none above 400. */
    private static void fourHundred() {
        for (int length = 0; length <= 400; length++) {
            int held = length;
            LetterForms x = new LetterForms();
            for (int k = 0; k < length; k += 20) {
                feed(x, blanks(-1, 0));
            }
            x.end(length);
            int due = length <= 380 ? length + 20 : -1;
            Check.due("2: twenty behind " + length, due, () -> feed(x, blanks(0, 'g')));
            int now = length <= 380 ? length + 20 : length;
            Check.due("2: not one more, behind " + length, false, () -> x.end(now + 1));
            Check.due("2: as many, behind " + length, true, () -> x.end(now));
            Check.argument("2: the first byte behind " + length, x::signs);
            Check.due("2: where it came, or that none did, behind " + length, held, x::fault);
            Check.due("2: twenty when all are used up", 20, () -> feed(x, blanks(-1, 0)));
        }
        LetterForms x = new LetterForms();
        for (int n = 1; n <= 20; n++) {
            int many = 20 * n;
            int at = n == 20 ? 19 : -1;
            Check.due("2: " + many, many, () -> feed(x, blanks(at, 'g')));
        }
        Check.due("2: 420", -1, () -> feed(x, blanks(0, 'f')));
        Check.due("2: 420 again", -1, () -> x.feed(0, 0, 0, 0, 0));
        Check.argument("2: all 400 are as they were", x::signs);
        Check.due("2: with the wrong one at the end", 399, x::fault);
    }

    private static void ends() {
        for (int have : new int[] {0, 1, 19, 20, 21, 399, 400}) {
            for (int n : new int[] {LEAST, -400, -2, -1, 0, 1, have - 1, have, have + 1, 401, MOST}) {
                LetterForms x = new LetterForms();
                for (int k = 0; k < have; k += 20) {
                    feed(x, blanks(-1, 0));
                }
                x.end(have);
                boolean isOne = n >= 0 && n <= have;
                int left = isOne ? n : have;
                Check.due("3: " + n + " of " + have, isOne, () -> x.end(n));
                Check.due("3: " + n + " of " + have + ": no more", false, () -> x.end(left + 1));
                Check.argument("3: blanks alone", x::signs);
                Check.due("3: " + n + " of " + have + ": so long a text", left, x::fault);
            }
        }
        LetterForms x = new LetterForms();
        x.feed(0x01020304, 0x05060708, 0x090a0000, 0, 0);
        x.end(3);
        Check.due("3: its first ones alone", 0, x::form);
        Check.due("3: its first ones alone", "1 2 3", () -> Check.look(x, 0));
        x.feed(0x01020304, 0, 0, 0, 0);
        x.end(2);
        x.feed(0x05060000, 0, 0, 0, 0);
        x.end(4);
        Check.due("3: others come behind them", 1, x::form);
        Check.due("3: others come behind them", "1 2 5 6", () -> Check.look(x, 1));
    }

    // ==== 4 to 6: field, forms, tables ====

    private static void fields() {
        for (int p : new int[] {LEAST, -19, -13, -11, -1, 0, 1, 2, 3, 5, 7, 9, 10, 12, 14, 15, 16, 18, 20, 21, 22, 23, 29, 256 + 11, MOST}) {
            LetterForms x = new LetterForms();
            Check.argument("4: " + p, () -> Check.done(() -> x.field(p)));
            Check.due("4: P stays, " + p, 11, () -> x.stock(0));
            x.table(1, 0, 0, 1);
            Check.argument("4: first of both, " + p, () -> Check.done(() -> x.field(p)));
        }
        for (int p : FIELDS) {
            LetterForms x = new LetterForms();
            Check.due("4: " + p, "done", () -> Check.done(() -> x.field(p)));
            Check.due("4: P is " + p, p, () -> x.stock(0));
            x.image();
            Check.form(x, 1);
            Check.due("4: a form", "throws.IllegalStateException", () -> Check.done(() -> x.field(p)));
            x.back();
            x.table(1, 0, 0, 1);
            Check.due("4: a table", "throws.IllegalStateException", () -> Check.done(() -> x.field(11)));
            Check.form(x, 1);
            Check.due("4: both", "throws.IllegalStateException", () -> Check.done(() -> x.field(19)));
            x.back();
            Check.signs(x, "f");
            x.feed(1, 2, 3, 4, 5);
            Check.due("4: signs, a tape, an image are no hindrance", "done", () -> Check.done(() -> x.field(13)));
            Check.due("4: P is 13", 13, () -> x.stock(0));
            Check.due("4: back", true, x::back);
            Check.due("4: P is as it was", p, () -> x.stock(0));
        }
    }

    private static void lengths() {
        for (int many = 0; many <= 400; many += many < 24 ? 1 : 47) {
            int length = many;
            LetterForms x = new LetterForms();
            int[] n = new int[many];
            for (int k = 0; k < many; k++) {
                n[k] = k + 1;
            }
            if (many >= 1 && many <= 9) {
                Check.due("5: of " + many, 0, () -> Check.form(x, n));
                Check.due("5: its degree", length - 1, () -> x.look(0, -1));
                Check.due("5: its last number", length, () -> x.look(0, length - 1));
            } else {
                Check.argument("5: of " + many, () -> Check.form(x, n));
                Check.due("5: none came, of " + many, 0, () -> x.stock(1));
            }
            Check.due("5: used up, of " + many, false, () -> x.end(1));
        }
    }

    /** Each byte modulo P: 255 is not - 1. */
    private static void bytes() {
        for (int p : FIELDS) {
            for (int from = 0; from < 256; from += 128) {
                LetterForms x = new LetterForms();
                x.field(p);
                for (int n = 0; n < 16; n++) {
                    int[] f = new int[8];
                    StringBuilder due = new StringBuilder();
                    for (int k = 0; k < 8; k++) {
                        f[k] = from + 8 * n + k;
                        due.append(k == 0 ? "" : " ").append(f[k] % p);
                    }
                    int form = n;
                    Check.due("5: numbers", n, () -> Check.form(x, f));
                    Check.due("5: bytes modulo " + p, due, () -> Check.look(x, form));
                }
            }
        }
    }

    private static void noughts() {
        for (int p : FIELDS) {
            for (int d = 0; d <= 8; d++) {
                int degree = d;
                LetterForms x = new LetterForms();
                x.field(p);
                int[] f = new int[d + 1];
                for (int k = 0; k <= d; k++) {
                    f[k] = k % 3 * p;
                }
                Check.form(x, f);
                Check.due("NOUGHT has a degree", degree, () -> x.look(0, -1));
                Check.due("43: it is NOUGHT", 1, () -> x.stock(6));
                f[d] = 1;
                Check.form(x, f);
                Check.due("43: with one number it is not", 1, () -> x.stock(6));
                f[d] = 0;
                f[0] = p - 1;
                Check.form(x, f);
                Check.due("43: with another neither", 1, () -> x.stock(6));
            }
        }
    }

    private static void sixteen() {
        LetterForms x = new LetterForms();
        for (int n = 0; n < 16; n++) {
            int form = n;
            Check.due("5: numbered from 0 on", n, () -> Check.form(x, form));
            Check.due("5: how many", n + 1, () -> x.stock(1));
            Check.index("5: none behind", () -> x.look(form + 1, 0));
        }
        Check.full("5: a 17th", () -> Check.form(x, 1));
        Check.argument("5: a 17th of none", () -> Check.form(x));
        Check.argument("5: a 17th of ten", () -> Check.form(x, new int[10]));
        for (int n = 0; n < 16; n++) {
            int form = n;
            Check.due("5: all stay", n % 11, () -> x.look(form, 0));
        }
    }

    private static void eightTables() {
        for (int way = 0; way < 3; way++) {
            int how = way;
            LetterForms x = new LetterForms();
            Check.due("6: from 0 on", 0, () -> x.table(2, 1, 1, 1));
            for (int n = 1; n < 8; n++) {
                Check.index("6: none behind", () -> x.det(x.stock(2)));
                Check.due("6, 24, 25: numbered " + n, n, () -> how == 0 ? x.table(2, 1, 1, 1) : how == 1 ? x.join(0, 0) : x.turn(0));
                Check.due("43: how many", n + 1, () -> x.stock(2));
            }
            Check.full("6: a 9th", () -> x.table(1, 0, 0, 1));
            Check.full("24: a 9th", () -> x.join(7, 7));
            Check.full("25: a 9th", () -> x.turn(7));
            Check.argument("6: first of both", () -> x.table(0, 0, 0, 0));
            Check.index("24: first of both", () -> x.join(8, 0));
            Check.index("24: first of both", () -> x.join(0, -1));
            Check.index("25: first of both", () -> x.turn(8));
            Check.due("6: eight", 8, () -> x.stock(2));
            Check.due("6: the last stays", way == 0 ? "2 1 1 1" : way == 1 ? "5 3 3 2" : "1 10 10 2", () -> Check.table(x, 7));
        }
    }

    /** DET is 0 modulo P, whatever the numbers are. */
    private static void dets() {
        for (int p : FIELDS) {
            int[] some = {0, 1, 2, p - 1, p, p + 1, -1, -p, LEAST, LEAST + 1, MOST, MOST - 1, 46341, 65536};
            int next = 8;
            LetterForms x = null;
            for (int n = 0; n < 14 * 14 * 14 * 14; n += 3) {
                if (next == 8) {
                    x = new LetterForms();
                    x.field(p);
                    next = 0;
                }
                int a = some[n / 2744];
                int b = some[n / 196 % 14];
                int c = some[n / 14 % 14];
                int d = some[n % 14];
                int det = Plain.mod((long) Plain.mod(a, p) * Plain.mod(d, p) - (long) Plain.mod(b, p) * Plain.mod(c, p), p);
                LetterForms y = x;
                int table = next;
                String name = p + ": " + a + " " + b + " " + c + " " + d;
                if (det == 0) {
                    if (n % 4 == 0) {
                        Check.argument("6: " + name, () -> y.table(a, b, c, d));
                    }
                } else {
                    Check.due("6: " + name, table, () -> y.table(a, b, c, d));
                    Check.due("11: " + name, det, () -> y.det(table));
                    Check.due("26: " + name, Plain.mod(a, p) + " " + Plain.mod(b, p) + " " + Plain.mod(c, p) + " " + Plain.mod(d, p),
                        () -> Check.table(y, table));
                    next++;
                }
            }
        }
        LetterForms x = new LetterForms();
        x.table(1, 2, 3, 4);
        for (int what : new int[] {LEAST, -2, -1, 4, 5, MOST}) {
            Check.due("26: another what, " + what, -1, () -> x.told(0, what));
        }
        for (int what = 0; what < 4; what++) {
            int w = what;
            Check.due("26: " + what, what + 1, () -> x.told(0, w));
        }
    }

    // ==== 7 and 8: signs ====

    private static void eightSigns() {
        LetterForms x = new LetterForms();
        for (int n = 0; n < 8; n++) {
            int signs = n;
            Check.index("7: none behind", () -> x.rank(signs, false));
            Check.due("7: numbered from 0 on", n, () -> Check.signs(x, "f" + "*f".repeat(signs)));
            Check.due("43: how many", n + 1, () -> x.stock(3));
        }
        Check.full("7: a 9th", () -> Check.signs(x, "f"));
        Check.argument("7: a 9th that is wrong", () -> Check.signs(x, "f)"));
        for (int n = 0; n < 8; n++) {
            int signs = n;
            Check.due("7: all stay", n + 1, () -> x.rank(signs, false));
        }
    }

    private static void faults() {
        LetterForms x = new LetterForms();
        Check.due("8: ahead of any", -1, x::fault);
        Check.argument("7: f g", () -> Check.signs(x, "f g"));
        Check.due("8: wrong", 2, x::fault);
        Check.form(x, 1);
        Check.argument("5: no bytes", () -> Check.form(x));
        Check.due("8: a form is no text", 2, x::fault);
        x.image();
        Check.due("7: f", 0, () -> Check.signs(x, "f"));
        Check.due("8: none in the latest", -1, x::fault);
        x.back();
        Check.due("8: it is not in the image", -1, x::fault);
        Check.argument("7: blanks", () -> Check.signs(x, "  "));
        x.back();
        Check.due("8: nor undone by going back", 2, x::fault);
    }

    /** Every byte there is, alone, behind f, ahead of f, and as the number of an overlap. */
    private static void oneByte() {
        for (int b = 0; b < 256; b++) {
            boolean isDigit = b >= '0' && b <= '9';
            boolean isLetter = b >= 'a' && b <= 'z' || b >= 'A' && b <= 'Z';
            boolean isOpen = b == '(' || b == '[' || b == '-';
            boolean isJoin = b == '+' || b == '*';
            one("alone", b == 'f' || isDigit ? -1 : isOpen || b == ' ' ? 1 : 0, b);
            one("behind f", b == ' ' ? -1 : isJoin ? 2 : isLetter ? 0 : 1, 'f', b);
            one("behind f and a blank", b == ' ' ? -1 : isJoin ? 3 : 2, 'f', ' ', b);
            one("behind 7", b == ' ' || isDigit ? -1 : isJoin ? 2 : 1, '7', b);
            one("ahead of f", b == ' ' || b == '-' ? -1 : b == '(' || b == '[' ? 2 : isDigit ? 1 : 0, b, 'f');
            one("as k", b >= '0' && b <= '8' ? -1 : b == ' ' ? 6 : 5, '[', 'f', ',', 'f', ']', b);
            one("behind k", b == ' ' ? -1 : isJoin ? 7 : isDigit ? 5 : 6, '[', 'f', ',', 'f', ']', '1', b);
            one("for ,", b == ',' ? 3 : b == ' ' ? 3 : isJoin ? 3 : isLetter ? 1 : 2, '[', 'f', b);
        }
    }

    private static void one(String where, int fault, int... bytes) {
        LetterForms x = new LetterForms();
        Check.tape(x, bytes);
        String what = where + ": byte " + java.util.Arrays.toString(bytes);
        Check.due("7: " + what, fault < 0 ? "0" : "throws.IllegalArgumentException", x::signs);
        Check.due("8: " + what, fault, x::fault);
    }

    // ==== 12 to 14: acts ====

    private static void mixes() {
        for (int p : FIELDS) {
            LetterForms x = new LetterForms();
            x.field(p);
            x.table(p + 1, p, -p, 1);
            x.table(-1, 0, 0, -1);
            for (int d = 0; d <= 8; d++) {
                int form = d;
                int[] f = new int[d + 1];
                f[0] = 1;
                Check.form(x, f);
                Check.due("12: by 1, 0, 0, 1 it is no other one", false, () -> x.mix(form, 0));
                Check.due("12: by - 1, 0, 0, - 1 if the degree is odd", d % 2 == 1, () -> x.mix(form, 1));
                Check.due("12: both are acts", 2 * d + 2, () -> x.stock(4));
                Check.due("12: its number", d % 2 == 1 ? p - 1 : 1, () -> x.look(form, 0));
            }
            Check.due("13: the last form", 8, x::undo);
            Check.due("13: of an act that made no other", 8, x::undo);
            Check.due("14: likewise", 8, x::redo);
            Check.due("14: what was done again", 17, () -> x.stock(4));
        }
    }

    /** Of 0 to 45 acts: 40 at most can be undone, the latest. */
    private static void actsToForty() {
        for (int acts = 0; acts <= 45; acts++) {
            LetterForms x = new LetterForms();
            x.field(19);
            Check.form(x, 1, 0);
            Check.form(x, 1, 0);
            x.table(1, 1, 0, 1);
            for (int n = 0; n < acts; n++) {
                x.mix(n % 2, 0);
            }
            int most = Math.min(acts, 40);
            Check.due("43: of " + acts, most, () -> x.stock(4));
            for (int n = 0; n < most; n++) {
                int form = (acts - 1 - n) % 2;
                Check.due("13: the latest first, of " + acts, form, x::undo);
            }
            Check.due("13: none behind, of " + acts, -1, x::undo);
            Check.due("43: none, of " + acts, 0, () -> x.stock(4));
            Check.due("43: all can be done again, of " + acts, most, () -> x.stock(5));
            int gone = acts - most;
            Check.due("13: what can no longer be undone, of " + acts, (gone + 1) / 2, () -> x.look(0, 1));
            Check.due("13: and of the other form", gone / 2, () -> x.look(1, 1));
            for (int n = most - 1; n >= 0; n--) {
                int form = (acts - 1 - n) % 2;
                Check.due("14: the last undone first, of " + acts, form, x::redo);
            }
            Check.due("14: none behind, of " + acts, -1, x::redo);
            Check.due("14: all as it was, of " + acts, (acts + 1) / 2 % 19 + " " + acts / 2 % 19,
                () -> x.look(0, 1) + " " + x.look(1, 1));
        }
    }

    private static LetterForms withUndone(int done, int undone) {
        LetterForms x = new LetterForms();
        Check.form(x, 1, 0);
        x.table(1, 1, 0, 1);
        for (int n = 0; n < done + undone; n++) {
            x.mix(0, 0);
        }
        for (int n = 0; n < undone; n++) {
            x.undo();
        }
        return x;
    }

    private static void whatEndsRedo() {
        for (int undone : new int[] {1, 2, 20, 39, 40}) {
            int done = 40 - undone;
            LetterForms x = withUndone(done, undone);
            Check.due("12: a new act", true, () -> x.mix(0, 0));
            Check.due("12: it can be undone", done + 1, () -> x.stock(4));
            Check.due("12: none can be done again", 0, () -> x.stock(5));
            Check.due("14: none", -1, x::redo);
            Check.due("13: it", 0, x::undo);
            Check.due("13: to what was", done % 11, () -> x.look(0, 1));
            Check.due("14: it again", 0, x::redo);
            Check.due("14: none but it", -1, x::redo);
            LetterForms y = withUndone(done, undone);
            Check.form(y, 1);
            Check.due("5: a new form", 0, () -> y.stock(5));
            Check.due("5: what is done stays done", done, () -> y.stock(4));
            Check.due("14: none", -1, y::redo);
            LetterForms z = withUndone(done, undone);
            z.table(1, 1, 1, 0);
            z.join(0, 1);
            z.turn(1);
            Check.signs(z, "f");
            z.image();
            Check.argument("5: no form", () -> Check.form(z));
            Check.argument("7: no text", z::signs);
            Check.index("12: no table", () -> z.mix(0, 4));
            Check.index("12: no form", () -> z.mix(1, 0));
            Check.due("43: nothing else ends it", undone, () -> z.stock(5));
            Check.due("14: it is done again", 0, z::redo);
            LetterForms w = withUndone(done, undone);
            Check.due("12: an act that makes no other one", true, () -> {
                w.table(1, 0, 0, 1);
                return !w.mix(0, 1);
            });
            Check.due("12: ends it too", 0, () -> w.stock(5));
        }
    }

    // ==== 41 to 43: the image, the stock ====

    private static void images() {
        LetterForms x = withUndone(38, 2);
        x.image();
        for (int n = 0; n < 3; n++) {
            x.redo();
            x.redo();
            x.mix(0, 0);
            Check.due("12: 40", 40, () -> x.stock(4));
            Check.due("42", true, x::back);
            Check.due("42: what can be undone", 38, () -> x.stock(4));
            Check.due("42: what can be done again", 2, () -> x.stock(5));
            Check.due("42: the form", 38 % 11, () -> x.look(0, 1));
        }
        for (int n = 37; n >= 0; n--) {
            int due = n % 11;
            Check.due("42: each act is as it was", 0, x::undo);
            Check.due("42: its numbers", due, () -> x.look(0, 1));
        }
        Check.due("13: none", -1, x::undo);
        x.image();
        x.mix(0, 0);
        Check.due("42: one image, the latest", true, x::back);
        Check.due("42: none can be undone", 0, () -> x.stock(4));
        Check.due("42: all can be done again", 40, () -> x.stock(5));
        for (int n = 1; n <= 40; n++) {
            int due = n % 11;
            Check.due("42: done again", 0, x::redo);
            Check.due("42: its numbers", due, () -> x.look(0, 1));
        }
        fullImage();
        LetterForms y = new LetterForms();
        Check.form(y, 1, 2);
        y.table(1, 1, 0, 1);
        y.mix(0, 0);
        Check.tape(y, 3, 4, 5);
        Check.due("42: none was kept", false, y::back);
        Check.due("42: nothing happens: the form", "1 3", () -> Check.look(y, 0));
        Check.due("42: nothing happens: acts", 1, () -> y.stock(4));
        Check.due("42: nothing happens: the tape", false, () -> y.end(4));
        Check.due("42: nothing happens: the tape", true, () -> y.end(3));
    }

    /** An image of as much as there can be, gone back to from less. */
    private static void fullImage() {
        LetterForms x = new LetterForms();
        x.field(19);
        for (int n = 0; n < 16; n++) {
            Check.form(x, n, 1, 2, 3, 4, 5, 6, 7, n);
        }
        for (int n = 1; n <= 8; n++) {
            x.table(n, 0, 0, 1);
            Check.signs(x, "f" + "*f".repeat(n - 1));
        }
        for (int n = 0; n < 41; n++) {
            x.mix(n % 16, 1);
        }
        x.image();
        int[] first = new int[16];
        for (int n = 0; n < 16; n++) {
            first[n] = x.look(n, 1);
        }
        for (int n = 0; n < 40; n++) {
            x.mix(15 - n % 16, n % 8);
        }
        Check.due("42", true, x::back);
        for (int n = 0; n < 16; n++) {
            int form = n;
            Check.due("42: form " + n, first[n], () -> x.look(form, 1));
        }
        Check.due("42: acts", 40, () -> x.stock(4));
        Check.due("42: the latest", 40 % 16, x::undo);
        Check.full("5: still full", () -> Check.form(x, 1));
        Check.full("6: still full", () -> x.table(1, 0, 0, 1));
        Check.full("7: still full", () -> Check.signs(x, "f"));
        Check.due("42: the last table", 8, () -> x.det(7));
        Check.due("42: the last signs", 8, () -> x.rank(7, false));
    }

    private static void stocks() {
        LetterForms x = new LetterForms();
        for (int n = 0; n < 16; n++) {
            Check.form(x, new int[n % 9 + 1]);
            int many = n + 1;
            Check.due("43: NOUGHT " + n, many, () -> x.stock(6));
        }
        for (int n = 0; n < 8; n++) {
            x.table(1, 0, 0, 1);
            Check.signs(x, "f");
        }
        for (int n = 0; n < 41; n++) {
            x.mix(0, 0);
        }
        int[] due = {11, 16, 8, 8, 40, 0, 16};
        for (int what = 0; what < 7; what++) {
            int w = what;
            Check.due("43: " + what, due[w], () -> x.stock(w));
        }
        for (int what : new int[] {LEAST, -2, -1, 7, 8, 256, MOST}) {
            Check.due("43: another what, " + what, -1, () -> x.stock(what));
        }
        for (int n = 0; n < 40; n++) {
            x.undo();
        }
        Check.due("43: none can be undone", 0, () -> x.stock(4));
        Check.due("43: 40 can be done again", 40, () -> x.stock(5));
    }

    /** The 512th call of an object is answered like all ahead of it. */
    private static void lastCall() {
        LetterForms x = new LetterForms();
        x.feed(0x01000000, 0, 0, 0, 0);
        x.end(2);
        x.form();
        x.table(1, 1, 0, 1);
        for (int n = 5; n < 510; n++) {
            x.mix(0, 0);
        }
        Check.due("the 510th call", 40, () -> x.stock(4));
        Check.due("the 511th call", 0, x::undo);
        Check.due("the 512th call", 504 % 11, () -> x.look(0, 1));
    }
}
