/** Promises 1 to 6, 8, 41 to 43: the new object, the tape, the field, forms and tables told, the image, the stock. */
public final class StateTest {
    public static void main(String[] args) {
        newObject();
        tape();
        field();
        forms();
        tables();
        image();
        stock();
        Check.end("StateTest");
    }

    private static void newObject() {
        LetterForms x = new LetterForms();
        Check.due("1: new", "11 0 0 0 0 0 0 ", () -> Check.all(x));
        Check.due("1: no fault", -1, x::fault);
        Check.due("1: no image", false, x::back);
        Check.due("1: the tape is empty", true, () -> x.end(0));
        Check.due("1: the tape has no byte", false, () -> x.end(1));
    }

    private static void tape() {
        LetterForms x = new LetterForms();
        Check.due("2: first", 20, () -> x.feed(0x01020304, 0x05060708, 0x090a0b0c, -1, 0));
        Check.due("2: second", 40, () -> x.feed(0, 0, 0, 0, 0));
        Check.due("3: more than there are", false, () -> x.end(41));
        Check.due("3: below 0", false, () -> x.end(-1));
        Check.due("3: all", true, () -> x.end(40));
        Check.due("3: some", true, () -> x.end(9));
        Check.due("3: they are gone", false, () -> x.end(10));
        Check.due("2: highest first", 0, x::form);
        Check.due("2: in order", "1 2 3 4 5 6 7 8 9", () -> Check.look(x, 0));
        Check.due("5: used up", false, () -> x.end(1));
        Check.due("2: behind what is left", 20, () -> x.feed(0x07000000, 0, 0, 0, 0));
        Check.due("3: one", true, () -> x.end(1));
        Check.due("2: behind one", 21, () -> x.feed(0x01020300, 0, 0, 0, 0x0000000a));
        Check.due("3: four", true, () -> x.end(4));
        Check.due("2: form of both", 1, x::form);
        Check.due("2: both", "7 1 2 3", () -> Check.look(x, 1));
        for (int n = 1; n <= 19; n++) {
            int many = 20 * n;
            Check.due("2: " + n, many, () -> x.feed(1, 2, 3, 4, 5));
        }
        Check.due("3: 375 less", true, () -> x.end(379));
        Check.due("2: 399", 399, () -> x.feed(0, 0, 0, 0, 0));
        Check.due("2: too many", -1, () -> x.feed(0, 0, 0, 0, 0));
        Check.due("2: none came", false, () -> x.end(400));
        Check.due("3: 380", true, () -> x.end(380));
        Check.due("2: 400", 400, () -> x.feed(0, 0, 0, 0, 0));
        Check.due("2: not even then", -1, () -> x.feed(0, 0, 0, 0, 0));
        Check.due("3: 400", true, () -> x.end(400));
    }

    private static void field() {
        LetterForms x = new LetterForms();
        for (int p = -20; p <= 40; p++) {
            int q = p;
            if (p == 11 || p == 13 || p == 17 || p == 19) {
                Check.due("4: " + p, "done", () -> Check.done(() -> x.field(q)));
                Check.due("4: is " + p, p, () -> x.stock(0));
            } else {
                Check.argument("4: " + p, () -> Check.done(() -> x.field(q)));
            }
        }
        Check.due("4: stays", 19, () -> x.stock(0));
        Check.due("4: signs are no hindrance", 0, () -> Check.signs(x, "30"));
        Check.due("4: 17", "done", () -> Check.done(() -> x.field(17)));
        Check.form(x, 1, 1);
        Check.due("15: a number is modulo what P is then", "13", () -> Check.value(x, 0, 0));
        Check.due("4: there is a form", "throws.IllegalStateException", () -> Check.done(() -> x.field(11)));
        Check.due("4: even the same", "throws.IllegalStateException", () -> Check.done(() -> x.field(17)));
        Check.argument("4: the first exception", () -> Check.done(() -> x.field(12)));
        LetterForms y = new LetterForms();
        y.table(1, 0, 0, 1);
        Check.due("4: there is a table", "throws.IllegalStateException", () -> Check.done(() -> y.field(13)));
        Check.due("4: P as it was", 11, () -> y.stock(0));
    }

    private static void forms() {
        LetterForms x = new LetterForms();
        Check.argument("5: no byte", () -> Check.form(x));
        Check.due("5: one byte", 0, () -> Check.form(x, 255));
        Check.due("5: modulo 11", "2", () -> Check.look(x, 0));
        Check.argument("5: ten bytes", () -> Check.form(x, 1, 2, 3, 4, 5, 6, 7, 8, 9, 10));
        Check.due("5: used up by a refused one", false, () -> x.end(1));
        Check.due("5: one form", 1, () -> x.stock(1));
        for (int n = 1; n < 16; n++) {
            int many = n;
            Check.due("5: form " + n, n, () -> Check.form(x, many, 200, 11));
        }
        Check.full("5: a 17th", () -> Check.form(x, 1, 2));
        Check.due("5: used up by it too", false, () -> x.end(1));
        Check.argument("5: the first exception", () -> Check.form(x));
        Check.argument("5: the first exception, ten", () -> Check.form(x, 1, 1, 1, 1, 1, 1, 1, 1, 1, 1));
        Check.due("5: 16 forms", 16, () -> x.stock(1));
        Check.due("5: the last", "4 2 0", () -> Check.look(x, 15));
        Check.due("5: the tape alone was cut", -1, x::fault);
    }

    private static void tables() {
        LetterForms x = new LetterForms();
        Check.due("6: modulo", 0, () -> x.table(-1, 12, Integer.MIN_VALUE, Integer.MAX_VALUE));
        // modulo 11 the 31st power of 2 is 2: the least int is - 2, the greatest 1
        Check.due("26: modulo", "10 1 9 1", () -> Check.table(x, 0));
        Check.due("11: det", 1, () -> x.det(0));
        Check.argument("6: det is 0", () -> x.table(2, 4, 3, 6));
        Check.argument("6: det is 0 modulo 11", () -> x.table(5, 4, 2, 6));
        Check.argument("6: all 0", () -> x.table(0, 0, 0, 0));
        Check.argument("6: 11 is 0", () -> x.table(11, 22, 33, 1));
        // 46341 squared goes over an int; modulo 11 it is 9 squared
        Check.due("6: great numbers", 1, () -> x.table(46341, 1, 1, 46341));
        Check.due("11: of great numbers", 3, () -> x.det(1));
        for (int n = 2; n < 8; n++) {
            int a = n;
            Check.due("6: table " + n, n, () -> x.table(a, 0, 0, 1));
        }
        Check.full("6: a 9th", () -> x.table(1, 0, 0, 1));
        Check.argument("6: the first exception", () -> x.table(0, 0, 0, 1));
        Check.due("6: 8 tables", 8, () -> x.stock(2));
        Check.due("11: the last", 7, () -> x.det(7));
        Check.index("11: none", () -> x.det(8));
        Check.index("11: below", () -> x.det(-1));
        Check.index("26: none", () -> x.told(8, 0));
        Check.index("26: below", () -> x.told(-1, 9));
        Check.due("26: another", -1, () -> x.told(7, 4));
        Check.due("26: another below", -1, () -> x.told(7, -1));
    }

    private static void image() {
        LetterForms x = new LetterForms();
        x.field(13);
        Check.due("42: none", false, x::back);
        Check.due("42: nothing happened", 13, () -> x.stock(0));
        Check.due("41", "done", () -> Check.done(x::image));
        Check.form(x, 1, 2, 3);
        x.table(2, 1, 1, 1);
        Check.signs(x, "[f,f]2");
        x.mix(0, 0);
        x.undo();
        x.mix(0, 0);
        x.undo();
        String empty = "13 0 0 0 0 0 0 ";
        String told = Check.all(x);
        Check.due("42: to nothing", true, x::back);
        Check.due("42: nothing is there", empty, () -> Check.all(x));
        Check.index("42: no form", () -> x.look(0, 0));
        Check.index("42: no table", () -> x.det(0));
        Check.index("42: no signs", () -> x.rank(0, true));
        Check.due("42: nor act", -1, x::redo);
        Check.due("4: as if new", "done", () -> Check.done(() -> x.field(17)));
        Check.due("42: again", true, x::back);
        Check.due("42: P", 13, () -> x.stock(0));
        Check.due("modulo P again", 0, () -> Check.form(x, 14, 2, 3));
        x.table(2, 1, 1, 1);
        Check.signs(x, "[f,f]2");
        x.mix(0, 0);
        x.undo();
        Check.due("the same as ahead", told, () -> Check.all(x));
        x.image();
        x.redo();
        x.mix(0, 0);
        Check.form(x, 0, 0);
        x.turn(0);
        Check.signs(x, "f*f");
        Check.tape(x, 7, 8);
        Check.due("42: back", true, x::back);
        Check.due("42: all as it was", told, () -> Check.all(x));
        Check.due("42: but for the tape", true, () -> x.end(2));
        Check.due("42: the tape's form", 1, x::form);
        Check.due("42: its numbers", "7 8", () -> Check.look(x, 1));
        Check.argument("7: wrong", () -> Check.signs(x, "f+"));
        Check.due("42: back once more", true, x::back);
        Check.due("42: but for fault", 2, x::fault);
        Check.due("42: form as it was", "1 2 3", () -> Check.look(x, 0));
        Check.due("42: what can be done again", 0, x::redo);
        Check.due("42: done again", "11 3 6", () -> Check.look(x, 0));
        Check.due("42: undone", 0, x::undo);
        Check.due("42: as before", "1 2 3", () -> Check.look(x, 0));
        Check.due("42: and the tables", "2 1 1 1", () -> Check.table(x, 0));
    }

    private static void stock() {
        LetterForms x = new LetterForms();
        for (int what : new int[] {Integer.MIN_VALUE, -2, -1, 7, 8, Integer.MAX_VALUE}) {
            Check.due("43: " + what, -1, () -> x.stock(what));
        }
        Check.form(x, 0, 11, 22);
        Check.form(x, 1);
        Check.form(x, 0);
        x.table(1, 1, 0, 1);
        x.table(1, 0, 0, 2);
        x.join(0, 1);
        x.turn(2);
        Check.signs(x, "f");
        x.mix(0, 0);
        x.mix(1, 0);
        x.mix(2, 0);
        x.undo();
        Check.due("43: P", 11, () -> x.stock(0));
        Check.due("43: forms", 3, () -> x.stock(1));
        Check.due("43: tables", 4, () -> x.stock(2));
        Check.due("43: signs", 1, () -> x.stock(3));
        Check.due("43: can be undone", 2, () -> x.stock(4));
        Check.due("43: and done again", 1, () -> x.stock(5));
        Check.due("43: nought", 2, () -> x.stock(6));
    }
}
