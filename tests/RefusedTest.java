import java.util.ArrayList;
import java.util.List;

/**
 * "Of several exceptions the one told first is thrown; a call that throws changes nothing but the TAPE, where it is
 * used up, and fault(), where a text is read": each refused call on one of two objects made alike, which are then
 * asked for everything. Likewise of calls where nothing happens, and of all that only ask.
 */
public final class RefusedTest {
    private static final String INDEX = "throws.IndexOutOfBoundsException";
    private static final String ARGUMENT = "throws.IllegalArgumentException";
    private static final String STATE = "throws.IllegalStateException";
    private static final String FULL = "throws.UnsupportedOperationException";
    private static final String ELEMENT = "throws.NoSuchElementException";
    private static final int[] TAPE = {7, 8, 9, 10, 200};

    /** What a call must answer, and whether it uses the tape up. */
    private static final class Asked {
        final String name;
        final String due;
        final Check.Call call;
        boolean usesTape = false;

        Asked(String newName, String newDue, Check.Call newCall) {
            name = newName;
            due = newDue;
            call = newCall;
        }
    }

    public static void main(String[] args) {
        refused();
        texts();
        nothing();
        empty();
        asking();
        Check.end("RefusedTest");
    }

    // ==== two objects that are made alike ====

    /** 16 forms (13 of them in the image, too), 8 tables, 8 signs, acts done and undone, a fault, a tape. */
    private static LetterForms full() {
        LetterForms x = new LetterForms();
        x.field(13);
        for (int n = 0; n < 13; n++) {
            if (n % 4 == 3) {
                Check.form(x, n, 1);
            } else {
                Check.form(x, n % 4 == 2 ? 0 : n, 0, n % 4 == 2 ? 13 : 5);
            }
        }
        x.table(1, 1, 0, 1);
        x.table(2, 0, 0, 1);
        String[] texts = {"f", "[f,f]2", "f*f", "f+1"};
        for (String text : texts) {
            Check.signs(x, text);
        }
        x.mix(0, 0);
        x.mix(3, 1);
        x.mix(1, 0);
        x.undo();
        x.image();
        for (int n = 13; n < 16; n++) {
            Check.form(x, n, 2);
        }
        for (int n = 2; n < 8; n++) {
            x.table(n, 1, 1, n);
        }
        for (String text : new String[] {"-f", "[f,f]1", "3", "f+[f,f]1"}) {
            Check.signs(x, text);
        }
        x.mix(15, 7);
        x.mix(0, 2);
        x.mix(14, 3);
        x.mix(3, 3);
        x.undo();
        x.undo();
        Check.answer(() -> Check.signs(x, "f+f+"));
        Check.tape(x, TAPE);
        return x;
    }

    /** Without anything but a tape: no forms, tables, signs, acts, image. */
    private static LetterForms bare() {
        LetterForms x = new LetterForms();
        Check.answer(() -> Check.signs(x, "f*"));
        Check.tape(x, TAPE);
        return x;
    }

    private static void numbers(LetterForms x, StringBuilder all) {
        int many = x.stock(1);
        for (int n = 0; n < many; n++) {
            int degree = x.look(n, -1);
            all.append('|');
            for (int k = 0; k <= degree; k++) {
                all.append(x.look(n, k)).append(' ');
            }
        }
    }

    private static void stock(LetterForms x, StringBuilder all) {
        all.append(" stock ");
        for (int what = 0; what <= 6; what++) {
            all.append(x.stock(what)).append(' ');
        }
    }

    /** How many bytes the tape has; its end stays where it is. */
    private static int held(LetterForms x) {
        for (int n = TAPE.length + 1; n >= 0; n--) {
            if (x.end(n)) {
                return n;
            }
        }
        return -1;
    }

    /** All that can be asked for (by less than 400 calls); the object is another one then. */
    private static String everything(LetterForms x) {
        StringBuilder all = new StringBuilder();
        stock(x, all);
        numbers(x, all);
        int tables = x.stock(2);
        for (int n = 0; n < tables; n++) {
            all.append('/').append(Check.table(x, n));
        }
        int signs = x.stock(3);
        for (int n = 0; n < signs; n++) {
            all.append(';').append(x.rank(n, false)).append(x.rank(n, true)).append(x.value(n, 3, 0));
        }
        all.append(" done again ");
        for (int form = x.redo(); form >= 0; form = x.redo()) {
            all.append(form).append(' ');
        }
        numbers(x, all);
        all.append(" undone ");
        for (int form = x.undo(); form >= 0; form = x.undo()) {
            all.append(form).append(' ');
        }
        numbers(x, all);
        all.append(" back ").append(x.back());
        stock(x, all);
        numbers(x, all);
        if (held(x) > 0) {
            int form = x.form();
            all.append(" tape ");
            for (int k = 0; k <= x.look(form, -1); k++) {
                all.append(x.look(form, k)).append(' ');
            }
        }
        return all.toString();
    }

    // ==== refused ones ====

    private interface Kinds {
        List<Asked> of(LetterForms x);
    }

    private static void due(String what, boolean isFull, Kinds kinds) {
        int many = kinds.of(new LetterForms()).size();
        for (int n = 0; n < many; n++) {
            LetterForms x = isFull ? full() : bare();
            LetterForms twin = isFull ? full() : bare();
            Asked asked = kinds.of(x).get(n);
            if (asked.due.isEmpty()) {
                Check.answer(asked.call);
            } else {
                Check.due(what + " " + asked.name, asked.due, asked.call);
            }
            if (asked.usesTape) {
                twin.end(0);
            }
            int length = held(twin);
            Check.due(what + " " + asked.name + ": the tape", length, () -> held(x));
            Check.due(what + " " + asked.name + ": fault", twin.fault(), x::fault);
            Check.due(what + " " + asked.name + ": all", everything(twin), () -> everything(x));
        }
    }

    private static void refused() {
        due("refused:", true, RefusedTest::withoutForm);
        due("refused:", true, RefusedTest::withoutTable);
        due("refused:", true, RefusedTest::withoutSigns);
        due("refused:", true, RefusedTest::wrong);
        due("refused:", true, RefusedTest::wholes);
    }

    private static List<Asked> withoutForm(LetterForms x) {
        List<Asked> all = new ArrayList<>();
        for (int n : new int[] {-1, 16, Integer.MIN_VALUE, Integer.MAX_VALUE}) {
            all.add(new Asked("look " + n, INDEX, () -> x.look(n, 0)));
            all.add(new Asked("at " + n, INDEX, () -> x.at(n, 1, 1)));
            all.add(new Asked("mix " + n, INDEX, () -> x.mix(n, 0)));
            all.add(new Asked("value " + n, INDEX, () -> x.value(0, n, 0)));
            all.add(new Asked("stays " + n, INDEX, () -> x.stays(0, n, 0)));
            all.add(new Asked("kind " + n, INDEX, () -> x.kind(n)));
            all.add(new Asked("orbit " + n, INDEX, () -> x.orbit(n)));
            all.add(new Asked("quotient " + n, INDEX, () -> x.quotient(n, 0, 0)));
            all.add(new Asked("quotient by " + n, INDEX, () -> x.quotient(0, n, 0)));
            all.add(new Asked("plain " + n, INDEX, () -> x.plain(n)));
            all.add(new Asked("root " + n, INDEX, () -> x.root(n, 0)));
            all.add(new Asked("root of no point either " + n, INDEX, () -> x.root(n, 14)));
            all.add(new Asked("roots " + n, INDEX, () -> x.roots(n)));
            all.add(new Asked("empty " + n, INDEX, () -> x.empty(n)));
            all.add(new Asked("same " + n, INDEX, () -> x.same(n, 0)));
            all.add(new Asked("same as " + n, INDEX, () -> x.same(0, n)));
            all.add(new Asked("keep " + n, INDEX, () -> x.keep(n)));
            all.add(new Asked("powers " + n, INDEX, () -> x.powers(n, 0)));
            all.add(new Asked("powers, k below, " + n, INDEX, () -> x.powers(n, -2)));
            all.add(new Asked("common " + n, INDEX, () -> x.common(n, 0, 0)));
            all.add(new Asked("common with " + n, INDEX, () -> x.common(0, n, 0)));
            all.add(new Asked("common of nought with " + n, INDEX, () -> x.common(2, n, 0)));
            all.add(new Asked("overlap " + n, INDEX, () -> x.overlap(n, 0, 0, 0)));
            all.add(new Asked("overlap with " + n, INDEX, () -> x.overlap(0, n, 0, 0)));
            all.add(new Asked("overlap by none either, " + n, INDEX, () -> x.overlap(0, n, 9, 0)));
        }
        return all;
    }

    private static List<Asked> withoutTable(LetterForms x) {
        List<Asked> all = new ArrayList<>();
        for (int n : new int[] {-1, 8, Integer.MIN_VALUE, Integer.MAX_VALUE}) {
            all.add(new Asked("det " + n, INDEX, () -> x.det(n)));
            all.add(new Asked("told " + n, INDEX, () -> x.told(n, 0)));
            all.add(new Asked("told nothing " + n, INDEX, () -> x.told(n, 4)));
            all.add(new Asked("mix by " + n, INDEX, () -> x.mix(0, n)));
            all.add(new Asked("stays by " + n, INDEX, () -> x.stays(0, 0, n)));
            all.add(new Asked("stays without value by " + n, INDEX, () -> x.stays(3, 0, n)));
            all.add(new Asked("join " + n, INDEX, () -> x.join(n, 0)));
            all.add(new Asked("join with " + n, INDEX, () -> x.join(0, n)));
            all.add(new Asked("turn " + n, INDEX, () -> x.turn(n)));
        }
        return all;
    }

    private static List<Asked> withoutSigns(LetterForms x) {
        List<Asked> all = new ArrayList<>();
        for (int n : new int[] {-1, 8, Integer.MIN_VALUE, Integer.MAX_VALUE}) {
            all.add(new Asked("value of " + n, INDEX, () -> x.value(n, 0, 0)));
            all.add(new Asked("rank " + n, INDEX, () -> x.rank(n, false)));
            all.add(new Asked("weight " + n, INDEX, () -> x.rank(n, true)));
            all.add(new Asked("stays of " + n, INDEX, () -> x.stays(n, 0, 0)));
            all.add(new Asked("agree " + n, INDEX, () -> x.agree(n, 0, 2)));
            all.add(new Asked("agree with " + n, INDEX, () -> x.agree(0, n, 2)));
            all.add(new Asked("agree, degree 9, " + n, INDEX, () -> x.agree(0, n, 9)));
            all.add(new Asked("agree, degree below, " + n, INDEX, () -> x.agree(n, 0, -1)));
        }
        return all;
    }

    private static List<Asked> wrong(LetterForms x) {
        List<Asked> all = new ArrayList<>();
        all.add(new Asked("field", STATE, () -> Check.done(() -> x.field(11))));
        all.add(new Asked("field, the same", STATE, () -> Check.done(() -> x.field(13))));
        all.add(new Asked("field that is none", ARGUMENT, () -> Check.done(() -> x.field(12))));
        all.add(new Asked("table", FULL, () -> x.table(1, 0, 0, 1)));
        all.add(new Asked("table of DET 0", ARGUMENT, () -> x.table(1, 2, 2, 4)));
        all.add(new Asked("join", FULL, () -> x.join(0, 1)));
        all.add(new Asked("turn", FULL, () -> x.turn(0)));
        all.add(new Asked("agree, degree 9", ARGUMENT, () -> x.agree(0, 1, 9)));
        all.add(new Asked("agree, degree - 1", ARGUMENT, () -> x.agree(0, 1, -1)));
        all.add(new Asked("span, degree 0", ARGUMENT, () -> x.span(255, 0, 1)));
        all.add(new Asked("span, degree 9", ARGUMENT, () -> x.span(255, 9, 1)));
        all.add(new Asked("basis, degree 0", ARGUMENT, () -> x.basis(255, 0, 1)));
        all.add(new Asked("basis, degree 9", ARGUMENT, () -> x.basis(255, 9, 1)));
        all.add(new Asked("root, no point", ARGUMENT, () -> x.root(0, 14)));
        all.add(new Asked("root of nought, no point", ARGUMENT, () -> x.root(2, -1)));
        all.add(new Asked("powers, k below", ARGUMENT, () -> x.powers(0, -2)));
        all.add(new Asked("overlap by 3", ARGUMENT, () -> x.overlap(0, 1, 3, 0)));
        all.add(new Asked("overlap by - 1", ARGUMENT, () -> x.overlap(0, 1, -1, 0)));
        all.add(new Asked("form, a 17th", FULL, x::form));
        all.get(all.size() - 1).usesTape = true;
        for (int many : new int[] {0, 10, 20, 400}) {
            all.add(new Asked("form of " + many + ", a 17th", ARGUMENT, () -> Check.form(x, new int[many])));
            all.get(all.size() - 1).usesTape = true;
        }
        return all;
    }

    private static List<Asked> wholes(LetterForms x) {
        List<Asked> all = new ArrayList<>();
        all.add(new Asked("count, rank 13", ARGUMENT, () -> x.count(13, 2, 0)));
        all.add(new Asked("count, degree 0", ARGUMENT, () -> x.count(1, 0, 0)));
        all.add(new Asked("count, 97", ARGUMENT, () -> x.count(1, 1, 97)));
        all.add(new Asked("reduced, DISC 0", ARGUMENT, () -> x.reduced(1, 2, 1, 0)));
        all.add(new Asked("reduced, 1000", ARGUMENT, () -> x.reduced(1000, 0, 1, 0)));
        all.add(new Asked("reduced, both", ARGUMENT, () -> x.reduced(1, 2, 1, 9)));
        all.add(new Asked("reduced, 1000 and 9", ARGUMENT, () -> x.reduced(1000, 0, 1, 9)));
        all.add(new Asked("reduced, 9", ELEMENT, () -> x.reduced(1, 0, 1, 9)));
        all.add(new Asked("classes", ARGUMENT, () -> x.classes(-5, true)));
        all.add(new Asked("reducedAt", ARGUMENT, () -> x.reducedAt(-5, 0, 0)));
        all.add(new Asked("reducedAt, both", ARGUMENT, () -> x.reducedAt(-5, 0, 3)));
        all.add(new Asked("reducedAt, k below", ARGUMENT, () -> x.reducedAt(-4, -1, 0)));
        all.add(new Asked("reducedAt, k below, and 3", ARGUMENT, () -> x.reducedAt(-4, -1, 3)));
        all.add(new Asked("reducedAt, 3", ELEMENT, () -> x.reducedAt(-4, 0, 3)));
        all.add(new Asked("reducedAt, 3 and behind", ELEMENT, () -> x.reducedAt(-4, 9, 3)));
        all.add(new Asked("real, neither", ARGUMENT, () -> x.real(0, 0, 1, 1, 1)));
        all.add(new Asked("real, 31", ARGUMENT, () -> x.real(1, 0, 0, 0, 31)));
        return all;
    }

    /** Texts that are refused: the tape goes and fault() tells of them, all else stays. */
    private static void texts() {
        String[] wrong = {"", "f+", "ff", "[f,f]9", "f f"};
        int[] faults = {0, 2, 0, 5, 2};
        for (int n = 0; n < wrong.length; n++) {
            LetterForms x = full();
            LetterForms twin = full();
            String text = wrong[n];
            Check.argument("7: there are 8, '" + text + "'", () -> Check.signs(x, text));
            Check.due("8: '" + text + "'", faults[n], x::fault);
            twin.end(0);
            Check.due("7: used up, '" + text + "'", 0, () -> held(x));
            Check.due("7: all else stays, '" + text + "'", everything(twin), () -> everything(x));
            LetterForms y = bare();
            Check.argument("7: there is none, '" + text + "'", () -> Check.signs(y, text));
            Check.due("7: there is none still, '" + text + "'", 0, () -> y.stock(3));
        }
        LetterForms x = full();
        LetterForms twin = full();
        Check.due("8: ahead of it", 4, x::fault);
        Check.full("7: a right 9th", () -> Check.signs(x, "f*f"));
        Check.due("8: it has no wrong byte", -1, x::fault);
        twin.end(0);
        Check.due("7: used up", 0, () -> held(x));
        Check.due("7: all else stays", everything(twin), () -> everything(x));
        LetterForms y = full();
        Check.argument("5: ten bytes", () -> Check.form(y, 1, 2, 3, 4, 5, 6, 7, 8, 9, 10));
        Check.due("8: a form is no text", 4, y::fault);
    }

    /** Calls that do not throw, but of which nothing happens. */
    private static void nothing() {
        due("nothing:", true, x -> {
            List<Asked> all = new ArrayList<>();
            all.add(new Asked("end below", "0", () -> x.end(-1)));
            all.add(new Asked("end of more", "0", () -> x.end(6)));
            all.add(new Asked("end of least", "0", () -> x.end(Integer.MIN_VALUE)));
            all.add(new Asked("end of most", "0", () -> x.end(Integer.MAX_VALUE)));
            all.add(new Asked("end of all", "1", () -> x.end(5)));
            all.add(new Asked("stock", "-1", () -> x.stock(7)));
            all.add(new Asked("told", "-1", () -> x.told(0, 4)));
            return all;
        });
        due("nothing, bare:", false, x -> {
            List<Asked> all = new ArrayList<>();
            all.add(new Asked("undo", "-1", x::undo));
            all.add(new Asked("redo", "-1", x::redo));
            all.add(new Asked("back", "0", x::back));
            return all;
        });
    }

    /** Refused ones of an object without forms, tables, signs: the first of each cannot be asked for. */
    private static void empty() {
        due("bare:", false, x -> {
            List<Asked> all = new ArrayList<>();
            all.add(new Asked("field", ARGUMENT, () -> Check.done(() -> x.field(14))));
            all.add(new Asked("table", ARGUMENT, () -> x.table(0, 0, 0, 0)));
            all.add(new Asked("look", INDEX, () -> x.look(0, -1)));
            all.add(new Asked("mix", INDEX, () -> x.mix(0, 0)));
            all.add(new Asked("det", INDEX, () -> x.det(0)));
            all.add(new Asked("rank", INDEX, () -> x.rank(0, true)));
            all.add(new Asked("agree", INDEX, () -> x.agree(0, 0, 0)));
            all.add(new Asked("form of none", ARGUMENT, () -> Check.form(x)));
            all.get(all.size() - 1).usesTape = true;
            all.add(new Asked("form of ten", ARGUMENT, () -> Check.form(x, new int[10])));
            all.get(all.size() - 1).usesTape = true;
            return all;
        });
    }

    /** Nothing changes by being asked, and the same call answers the same again. */
    private static void asking() {
        due("asked:", true, RefusedTest::asks);
        LetterForms x = full();
        LetterForms twin = full();
        List<Asked> all = asks(x);
        List<Asked> others = asks(twin);
        List<String> firsts = new ArrayList<>();
        for (Asked asked : all) {
            firsts.add(Check.answer(asked.call));
        }
        for (int n = all.size() - 1; n >= 0; n--) {
            Check.due("asked again: " + all.get(n).name, firsts.get(n), all.get(n).call);
            Check.due("asked in another order: " + all.get(n).name, firsts.get(n), others.get(n).call);
        }
    }

    private static List<Asked> asks(LetterForms x) {
        List<Asked> all = new ArrayList<>();
        all.add(new Asked("fault", "4", x::fault));
        all.add(new Asked("look", "", () -> x.look(3, 1)));
        all.add(new Asked("at", "", () -> x.at(0, 3, 4)));
        all.add(new Asked("det", "", () -> x.det(7)));
        all.add(new Asked("told", "", () -> x.told(7, 3)));
        all.add(new Asked("value", "", () -> x.value(1, 0, 0)));
        all.add(new Asked("no value", "-2", () -> x.value(3, 0, 0)));
        all.add(new Asked("rank", "2", () -> x.rank(1, false)));
        all.add(new Asked("stays", "1", () -> x.stays(1, 0, 7)));
        all.add(new Asked("stays not", "0", () -> x.stays(7, 0, 7)));
        all.add(new Asked("agree", "", () -> x.agree(0, 4, 2)));
        all.add(new Asked("count", "2", () -> x.count(6, 4, 0)));
        all.add(new Asked("span", "", () -> x.span(33, 2, 99)));
        all.add(new Asked("basis", "", () -> x.basis(17, 2, 99)));
        all.add(new Asked("kind", "", () -> x.kind(12)));
        all.add(new Asked("orbit", "", () -> x.orbit(1)));
        all.add(new Asked("quotient", "", () -> x.quotient(0, 3, 0)));
        all.add(new Asked("plain", "", () -> x.plain(1)));
        all.add(new Asked("root", "", () -> x.root(3, 1)));
        all.add(new Asked("roots", "", () -> x.roots(1)));
        all.add(new Asked("empty", "", () -> x.empty(4)));
        all.add(new Asked("same", "", () -> x.same(0, 4)));
        all.add(new Asked("keep", "", () -> x.keep(0)));
        all.add(new Asked("powers", "", () -> x.powers(1, -1)));
        all.add(new Asked("common", "", () -> x.common(1, 5, -1)));
        all.add(new Asked("overlap", "", () -> x.overlap(0, 1, 1, 1)));
        all.add(new Asked("reduced", "3", () -> x.reduced(10, 34, 29, 3)));
        all.add(new Asked("classes", "3", () -> x.classes(-23, false)));
        all.add(new Asked("reducedAt", "-1", () -> x.reducedAt(-23, 1, 1)));
        all.add(new Asked("real", "4", () -> x.real(1, 0, -5, 0, 4)));
        all.add(new Asked("stock", "16", () -> x.stock(1)));
        return all;
    }
}
