/** Promises 12 to 14: what is written down, undone and done again. */
public final class ActsTest {
    public static void main(String[] args) {
        undone();
        ended();
        forty();
        Check.end("ActsTest");
    }

    private static void undone() {
        LetterForms x = new LetterForms();
        Check.due("13: none", -1, x::undo);
        Check.due("14: none", -1, x::redo);
        Check.form(x, 1, 0);
        Check.form(x, 1, 2, 3);
        x.table(1, 1, 0, 1);
        x.table(3, 0, 0, 1);
        x.mix(0, 0);
        x.mix(1, 1);
        x.mix(0, 1);
        Check.due("12: as mixed", "3 1", () -> Check.look(x, 0));
        Check.due("13: the latest", 0, x::undo);
        Check.due("13: its numbers", "1 1", () -> Check.look(x, 0));
        Check.due("13: the one ahead", 1, x::undo);
        Check.due("13: its numbers", "1 2 3", () -> Check.look(x, 1));
        Check.due("14: the last undone", 1, x::redo);
        Check.due("14: its numbers", "9 6 3", () -> Check.look(x, 1));
        Check.due("14: then the other", 0, x::redo);
        Check.due("14: its numbers", "3 1", () -> Check.look(x, 0));
        Check.due("14: none more", -1, x::redo);
        Check.due("14: all as it was", 3, () -> x.stock(4));
        Check.due("13", 0, x::undo);
        Check.due("13", 1, x::undo);
        Check.due("13", 0, x::undo);
        Check.due("13: none more", -1, x::undo);
        Check.due("13: all can be done again", 3, () -> x.stock(5));
        Check.due("13: the first numbers", "1 0", () -> Check.look(x, 0));
        Check.due("14: the first act", 0, x::redo);
        Check.due("14: its numbers", "1 1", () -> Check.look(x, 0));
    }

    private static void ended() {
        LetterForms x = new LetterForms();
        Check.form(x, 1, 5);
        x.table(1, 1, 0, 1);
        x.mix(0, 0);
        x.mix(0, 0);
        x.undo();
        x.table(2, 1, 0, 1);
        x.join(0, 0);
        x.turn(0);
        Check.signs(x, "f");
        Check.argument("no form", () -> Check.form(x));
        Check.index("no act", () -> x.mix(0, 8));
        Check.due("5: none of these ends it", 1, () -> x.stock(5));
        Check.form(x, 1, 1);
        Check.due("5: a new form does", 0, () -> x.stock(5));
        Check.due("14: nothing", -1, x::redo);
        Check.due("5: what is done stays", 1, () -> x.stock(4));
        x.undo();
        Check.due("13: one can be done again", 1, () -> x.stock(5));
        Check.due("12: a new act", true, () -> x.mix(1, 0));
        Check.due("12: ends it too", 0, () -> x.stock(5));
        Check.due("14: nothing", -1, x::redo);
        x.undo();
        for (int n = 2; n < 16; n++) {
            Check.form(x, n, 1);
        }
        x.mix(3, 0);
        x.undo();
        Check.full("5: a refused form", () -> Check.form(x, 1));
        Check.due("5: ends nothing", 3, x::redo);
    }

    private static void forty() {
        LetterForms x = new LetterForms();
        Check.form(x, 1, 0);
        Check.form(x, 1, 0);
        x.table(1, 1, 0, 1);
        x.mix(1, 0);
        for (int n = 1; n <= 44; n++) {
            x.mix(0, 0);
        }
        Check.due("12: 40 of 45", 40, () -> x.stock(4));
        for (int n = 1; n <= 40; n++) {
            Check.due("13: " + n, 0, x::undo);
        }
        Check.due("13: the 41st is gone", -1, x::undo);
        Check.due("13: 4 stay done", "1 4", () -> Check.look(x, 0));
        Check.due("13: and the first", "1 1", () -> Check.look(x, 1));
        Check.due("14: 40 again", 40, () -> x.stock(5));
        for (int n = 5; n <= 44; n++) {
            String due = "1 " + n % 11;
            Check.due("14: " + n, 0, x::redo);
            Check.due("14: its numbers", due, () -> Check.look(x, 0));
        }
        Check.due("14: none more", -1, x::redo);
        x.undo();
        x.undo();
        x.mix(1, 0);
        Check.due("12: 39", 39, () -> x.stock(4));
        Check.due("12: none", 0, () -> x.stock(5));
        Check.due("13: the new one", 1, x::undo);
        Check.due("13: the old one", 0, x::undo);
        Check.due("13: its numbers", "1 8", () -> Check.look(x, 0));
    }
}
