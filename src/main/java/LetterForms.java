import java.util.Arrays;
import java.util.NoSuchElementException;

/** Forms of two letters over a small field: see README.md and the document that it names. */
public final class LetterForms {
    public static final int NONE = -1;

    private static final int NO_VALUE = -2;
    private static final int ROOT_OF_NOUGHT = 99;
    private static final int BEHIND_CLASSES = -9999;

    private static final int FIRST_P = 11;
    private static final int MOST_BYTES = 400;
    private static final int MOST_FORMS = 16;
    private static final int MOST_TABLES = 8;
    private static final int MOST_SIGNS = 8;
    private static final int MOST_ACTS = 40;
    private static final int MOST_DEGREE = 8;
    private static final int MOST_VALUE_DEGREE = 40;
    private static final int MOST_DEEP = 6;
    private static final int MOST_THINGS = 40;
    // n letters and numbers have n - 1 other things between them, and 6 times - ahead of each.
    private static final int MOST_LEAVES = MOST_THINGS / 2;
    private static final int MOST_STEPS = MOST_LEAVES * (2 + MOST_DEEP);
    private static final int MOST_OVERLAP = 8;
    private static final int MOST_NUMBER = 999;
    private static final int MOST_RANK = 12;
    private static final int MOST_COUNTED_DEGREE = 96;
    private static final int DRAWN = 12;
    private static final int MOST_POWERS = 3;
    private static final int BASE = 20;
    private static final int MOST_WHOLE = 999;
    private static final int MOST_REAL = 30;

    private final Reader reader;
    private final State now;
    private final State kept;
    private boolean isKept;
    private int fault;
    private final Algebra algebra;
    private final Calculator calculator;
    private final Rows rows;
    private final Search search;
    private final Powers sums;
    private final Whole whole;
    private final Form work;
    private final Form mixedWork;
    private final Form otherWork;

    public LetterForms() {
        reader = new Reader();
        now = new State();
        kept = new State();
        fault = NONE;
        algebra = new Algebra(now);
        calculator = new Calculator(algebra);
        rows = new Rows(algebra, calculator);
        search = new Search(algebra);
        sums = new Powers(algebra);
        whole = new Whole();
        work = new Form();
        mixedWork = new Form();
        otherWork = new Form();
    }

    // ==== the tape ====

    public int feed(int a, int b, int c, int d, int e) {
        if (reader.held > MOST_BYTES - 20) {
            return NONE;
        }
        reader.put(a);
        reader.put(b);
        reader.put(c);
        reader.put(d);
        reader.put(e);
        return reader.held;
    }

    public boolean end(int n) {
        if (n < 0 || n > reader.held) {
            return false;
        }
        reader.held = n;
        return true;
    }

    // ==== what is told ====

    public void field(int p) throws IllegalArgumentException, IllegalStateException {
        if (p != 11 && p != 13 && p != 17 && p != 19) {
            throw new IllegalArgumentException();
        }
        if (now.formCount > 0 || now.tableCount > 0) {
            throw new IllegalStateException();
        }
        now.p = p;
    }

    public int form() throws IllegalArgumentException, UnsupportedOperationException {
        int many = reader.useUp();
        if (many < 1 || many > MOST_DEGREE + 1) {
            throw new IllegalArgumentException();
        }
        Form next = now.nextForm();
        if (next == null) {
            throw new UnsupportedOperationException();
        }
        next.begin(many - 1);
        for (int k = 0; k < many; k++) {
            next.set(k, algebra.of(reader.byteAt(k)));
        }
        now.forgetUndone();
        return now.formCount - 1;
    }

    public int table(int a, int b, int c, int d) throws IllegalArgumentException, UnsupportedOperationException {
        if (algebra.detOf(a, b, c, d) == 0) {
            throw new IllegalArgumentException();
        }
        Table next = now.nextTable();
        if (next == null) {
            throw new UnsupportedOperationException();
        }
        algebra.fill(next, a, b, c, d);
        return now.tableCount - 1;
    }

    public int signs() throws IllegalArgumentException, UnsupportedOperationException {
        fault = reader.read(reader.useUp());
        if (fault != NONE) {
            throw new IllegalArgumentException();
        }
        Signs next = now.nextSigns();
        if (next == null) {
            throw new UnsupportedOperationException();
        }
        next.copyFrom(reader.outcome);
        return now.signsCount - 1;
    }

    public int fault() {
        return fault;
    }

    private Form toldForm(int form) {
        Form told = now.formAt(form);
        if (told == null) {
            throw new IndexOutOfBoundsException();
        }
        return told;
    }

    private Table toldTable(int table) {
        Table told = now.tableAt(table);
        if (told == null) {
            throw new IndexOutOfBoundsException();
        }
        return told;
    }

    private Signs toldSigns(int signs) {
        Signs told = now.signsAt(signs);
        if (told == null) {
            throw new IndexOutOfBoundsException();
        }
        return told;
    }

    // ==== forms and tables ====

    // Many calls answer thus of a form: its degree for NONE, a number of it, or NONE.
    private static int degreeOrNumber(Form f, int k) {
        if (k == NONE) {
            return f.degree;
        }
        return k < 0 || k > f.degree ? NONE : f.get(k);
    }

    public int look(int form, int k) throws IndexOutOfBoundsException {
        return degreeOrNumber(toldForm(form), k);
    }

    public int at(int form, int x, int y) throws IndexOutOfBoundsException {
        Form f = toldForm(form);
        return algebra.worth(f, algebra.of(x), algebra.of(y));
    }

    public int det(int table) throws IndexOutOfBoundsException {
        Table t = toldTable(table);
        return algebra.detOf(t.a, t.b, t.c, t.d);
    }

    public int told(int table, int what) throws IndexOutOfBoundsException {
        Table t = toldTable(table);
        switch (what) {
            case 0: return t.a;
            case 1: return t.b;
            case 2: return t.c;
            case 3: return t.d;
            default: return NONE;
        }
    }

    public int join(int first, int second) throws IndexOutOfBoundsException, UnsupportedOperationException {
        Table s = toldTable(first);
        Table t = toldTable(second);
        Table next = now.nextTable();
        if (next == null) {
            throw new UnsupportedOperationException();
        }
        // The second is put into what the first has put in place of x and y.
        algebra.fill(next, s.a * t.a + s.b * t.c, s.a * t.b + s.b * t.d,
                s.c * t.a + s.d * t.c, s.c * t.b + s.d * t.d);
        return now.tableCount - 1;
    }

    public int turn(int table) throws IndexOutOfBoundsException, UnsupportedOperationException {
        Table t = toldTable(table);
        Table next = now.nextTable();
        if (next == null) {
            throw new UnsupportedOperationException();
        }
        int over = algebra.inverse(algebra.detOf(t.a, t.b, t.c, t.d));
        algebra.fill(next, t.d * over, -t.b * over, -t.c * over, t.a * over);
        return now.tableCount - 1;
    }

    // ==== acts ====

    public boolean mix(int form, int table) throws IndexOutOfBoundsException {
        Form f = toldForm(form);
        Table t = toldTable(table);
        algebra.mixInto(f, t, mixedWork);
        boolean isOther = !mixedWork.matches(f);
        now.write(form, f);
        f.copyFrom(mixedWork);
        return isOther;
    }

    public int undo() {
        int form = now.nextBack();
        Form f = now.formAt(form);
        if (f == null) {
            return NONE;
        }
        now.stepBack(f);
        return form;
    }

    public int redo() {
        int form = now.nextOn();
        Form f = now.formAt(form);
        if (f == null) {
            return NONE;
        }
        now.stepOn(f);
        return form;
    }

    // ==== signs ====

    public int value(int signs, int form, int k) throws IndexOutOfBoundsException {
        Signs s = toldSigns(signs);
        Form f = toldForm(form);
        Form value = calculator.valueOf(s, f);
        return value == null ? NO_VALUE : degreeOrNumber(value, k);
    }

    public int rank(int signs, boolean weight) throws IndexOutOfBoundsException {
        return calculator.total(toldSigns(signs), weight);
    }

    public boolean stays(int signs, int form, int table) throws IndexOutOfBoundsException {
        Signs s = toldSigns(signs);
        Form f = toldForm(form);
        Table t = toldTable(table);
        int weight = calculator.total(s, true);
        if (weight == NONE) {
            return false;
        }
        Form plain = calculator.valueOf(s, f);
        if (plain == null) {
            return false;
        }
        algebra.mixInto(plain, t, work);
        int times = algebra.power(algebra.detOf(t.a, t.b, t.c, t.d), weight);
        algebra.scale(work, times);
        algebra.mixInto(f, t, mixedWork);
        Form mixed = calculator.valueOf(s, mixedWork);
        return mixed != null && mixed.matches(work);
    }

    public int agree(int first, int second, int degree) throws IndexOutOfBoundsException, IllegalArgumentException {
        Signs s = toldSigns(first);
        Signs t = toldSigns(second);
        if (degree < 0 || degree > MOST_DEGREE) {
            throw new IllegalArgumentException();
        }
        for (int n = 0; n < now.formCount; n++) {
            Form f = now.formAt(n);
            if (f != null && f.degree == degree && !isOneValue(s, t, f)) {
                return n;
            }
        }
        return NONE;
    }

    private boolean isOneValue(Signs s, Signs t, Form f) {
        Form value = calculator.valueOf(s, f);
        boolean hasValue = value != null;
        if (value != null) {
            work.copyFrom(value);
        }
        Form other = calculator.valueOf(t, f);
        if (other == null) {
            return !hasValue;
        }
        return hasValue && work.matches(other);
    }

    public long count(int r, int d, int m) throws IllegalArgumentException {
        if (r < 0 || r > MOST_RANK || d < 1 || d > MOST_DEGREE || m < 0 || m > MOST_COUNTED_DEGREE) {
            throw new IllegalArgumentException();
        }
        int twice = d * r - m;
        if (twice < 0 || twice % 2 != 0) {
            return 0;
        }
        return rows.ways(twice / 2, r, d) - rows.ways(twice / 2 - 1, r, d);
    }

    public int span(int set, int degree, int seed) throws IllegalArgumentException {
        if (degree < 1 || degree > MOST_DEGREE) {
            throw new IllegalArgumentException();
        }
        int bits = rows.independent(now, set, degree, seed);
        return bits == NONE ? NONE : Integer.bitCount(bits);
    }

    public int basis(int set, int degree, int seed) throws IllegalArgumentException {
        if (degree < 1 || degree > MOST_DEGREE) {
            throw new IllegalArgumentException();
        }
        return rows.independent(now, set, degree, seed);
    }

    // ==== roots ====

    public int root(int form, int point) throws IndexOutOfBoundsException, IllegalArgumentException {
        Form f = toldForm(form);
        if (point < 0 || point > now.p) {
            throw new IllegalArgumentException();
        }
        return algebra.howOften(f, point);
    }

    public int roots(int form) throws IndexOutOfBoundsException {
        Form f = toldForm(form);
        int bits = 0;
        for (int point = 0; point <= now.p; point++) {
            if (algebra.howOften(f, point) > 0) {
                bits |= 1 << point;
            }
        }
        return bits;
    }

    public boolean empty(int form) throws IndexOutOfBoundsException {
        Form f = toldForm(form);
        for (int point = 0; point <= now.p; point++) {
            if (2 * algebra.howOften(f, point) > f.degree) {
                return true;
            }
        }
        return false;
    }

    // ==== forms that are the same but for a table ====

    public int same(int form, int other) throws IndexOutOfBoundsException {
        Form f = toldForm(form);
        Form g = toldForm(other);
        search.run(f, g);
        return search.first;
    }

    public int keep(int form) throws IndexOutOfBoundsException {
        Form f = toldForm(form);
        search.run(f, f);
        return search.found;
    }

    public int kind(int form) throws IndexOutOfBoundsException {
        Form f = toldForm(form);
        for (int n = 0; n < form; n++) {
            Form g = now.formAt(n);
            if (g != null) {
                search.run(g, f);
                if (search.found > 0) {
                    return n;
                }
            }
        }
        return form;
    }

    public int orbit(int form) throws IndexOutOfBoundsException {
        Form f = toldForm(form);
        search.run(f, f);
        // Each form of the orbit is met by as many tables as keep this one.
        return search.found > 0 ? algebra.tables() / search.found : 0;
    }

    // ==== sums of powers, what lies in common, overlaps ====

    public int powers(int form, int k) throws IndexOutOfBoundsException, IllegalArgumentException {
        Form f = toldForm(form);
        if (f.degree == 0 || k < NONE) {
            throw new IllegalArgumentException();
        }
        sums.find(f);
        if (k == NONE) {
            return sums.many;
        }
        return k < 10 ? sums.pointAt(k) : sums.numberAt(k - 10);
    }

    public int common(int form, int other, int k) throws IndexOutOfBoundsException {
        Form f = toldForm(form);
        Form g = toldForm(other);
        if (f.isNought() || g.isNought()) {
            return NO_VALUE;
        }
        algebra.shareInto(f, g, work);
        return degreeOrNumber(work, k);
    }

    public int quotient(int form, int other, int k) throws IndexOutOfBoundsException {
        Form f = toldForm(form);
        Form g = toldForm(other);
        return algebra.divideInto(f, g, work) ? degreeOrNumber(work, k) : NO_VALUE;
    }

    public boolean plain(int form) throws IndexOutOfBoundsException {
        Form f = toldForm(form);
        if (f.degree < 2) {
            return false;
        }
        algebra.differentiate(f, 1, 0, mixedWork);
        algebra.differentiate(f, 0, 1, otherWork);
        if (mixedWork.isNought() || otherWork.isNought()) {
            return false;
        }
        algebra.shareInto(mixedWork, otherWork, work);
        return work.degree == 0;
    }

    public int overlap(int form, int other, int by, int k) throws IndexOutOfBoundsException, IllegalArgumentException {
        Form f = toldForm(form);
        Form g = toldForm(other);
        if (!algebra.overlapInto(f, g, by, work)) {
            throw new IllegalArgumentException();
        }
        return degreeOrNumber(work, k);
    }

    // ==== whole forms ====

    public long reduced(int a, int b, int c, int what) throws IllegalArgumentException, NoSuchElementException {
        if (!isWhole(a, MOST_WHOLE) || !isWhole(b, MOST_WHOLE) || !isWhole(c, MOST_WHOLE)) {
            throw new IllegalArgumentException();
        }
        if (a <= 0 || b * b - 4 * a * c >= 0) {
            throw new IllegalArgumentException();
        }
        if (what < 0 || what > 8) {
            throw new NoSuchElementException();
        }
        whole.reduce(a, b, c);
        return whole.tell(what);
    }

    private static boolean isWhole(int number, int most) {
        return number >= -most && number <= most;
    }

    private static boolean isDisc(int disc) {
        return disc <= -3 && disc >= -9999 && (Math.floorMod(disc, 4) == 0 || Math.floorMod(disc, 4) == 1);
    }

    public int classes(int disc, boolean all) throws IllegalArgumentException {
        if (!isDisc(disc)) {
            throw new IllegalArgumentException();
        }
        return whole.seek(disc, all, NONE);
    }

    public int reducedAt(int disc, int k, int what) throws IllegalArgumentException, NoSuchElementException {
        if (!isDisc(disc) || k < 0) {
            throw new IllegalArgumentException();
        }
        if (what < 0 || what > 2) {
            throw new NoSuchElementException();
        }
        int many = whole.seek(disc, false, k);
        return k < many ? (int) whole.tell(what) : BEHIND_CLASSES;
    }

    public int real(int a, int b, int c, int d, int e) throws IllegalArgumentException {
        boolean areNumbers = isWhole(a, MOST_REAL) && isWhole(b, MOST_REAL) && isWhole(c, MOST_REAL)
                && isWhole(d, MOST_REAL) && isWhole(e, MOST_REAL);
        if (!areNumbers || (a == 0 && b == 0)) {
            throw new IllegalArgumentException();
        }
        return a == 0 ? Whole.rootsOfCubic(b, c, d, e) : Whole.rootsOfQuartic(a, b, c, d, e);
    }

    // ==== the image and the stock ====

    public void image() {
        kept.copyFrom(now);
        isKept = true;
    }

    public boolean back() {
        if (!isKept) {
            return false;
        }
        now.copyFrom(kept);
        return true;
    }

    public int stock(int what) {
        switch (what) {
            case 0: return now.p;
            case 1: return now.formCount;
            case 2: return now.tableCount;
            case 3: return now.signsCount;
            case 4: return now.done;
            case 5: return now.undone;
            case 6: return now.noughts();
            default: return NONE;
        }
    }

    // A form: room for the values of signs too, so that all forms can be copied to one another.
    private static final class Form {
        int degree;
        private final int[] numbers = new int[MOST_VALUE_DEGREE + 1];

        static Form[] row(int many) {
            Form[] row = new Form[many < 0 ? 0 : many];
            for (int n = 0; n < row.length; n++) {
                row[n] = new Form();
            }
            return row;
        }

        // Null outside of the row.
        static Form pick(Form[] row, int n) {
            return n < 0 || n >= row.length ? null : row[n];
        }

        void begin(int newDegree) {
            degree = newDegree < 0 ? 0 : newDegree > MOST_VALUE_DEGREE ? MOST_VALUE_DEGREE : newDegree;
            Arrays.fill(numbers, 0);
        }

        int get(int k) {
            return k < 0 || k > degree || k >= numbers.length ? 0 : numbers[k];
        }

        void set(int k, int number) {
            if (k >= 0 && k < numbers.length) {
                numbers[k] = number;
            }
        }

        void copyFrom(Form other) {
            degree = other.degree;
            for (int k = 0; k <= degree; k++) {
                set(k, other.get(k));
            }
        }

        // Of two forms of one degree.
        void swapWith(Form other) {
            for (int k = 0; k <= degree; k++) {
                int mine = get(k);
                set(k, other.get(k));
                other.set(k, mine);
            }
        }

        boolean matches(Form other) {
            boolean isSo = degree == other.degree;
            for (int k = 0; isSo && k <= degree; k++) {
                isSo = get(k) == other.get(k);
            }
            return isSo;
        }

        // The place of the first number that is not 0: how often y divides the form; NONE for nought.
        int first() {
            for (int k = 0; k <= degree; k++) {
                if (get(k) != 0) {
                    return k;
                }
            }
            return NONE;
        }

        boolean isNought() {
            return first() == NONE;
        }

        // Divides by y as often as it goes; nought stays.
        void dropY() {
            int often = first();
            for (int k = often; k > 0 && k <= degree; k++) {
                set(k - often, get(k));
            }
            degree -= often > 0 ? often : 0;
        }
    }

    private static final class Table {
        int a;
        int b;
        int c;
        int d;

        void set(int newA, int newB, int newC, int newD) {
            a = newA;
            b = newB;
            c = newC;
            d = newD;
        }
    }

    // A row of signs, its steps behind one another as they are to be done on a stack of forms.
    private static final class Signs {
        static final int LETTER = 0;
        static final int NUMBER = 1;
        static final int SUM = 2;
        static final int PRODUCT = 3;
        static final int OVERLAP = 4;
        static final int LESS = 5;

        private final int[] kinds = new int[MOST_STEPS];
        private final int[] sizes = new int[MOST_STEPS];
        int length;

        void put(int kind, int size) {
            if (length >= 0 && length < kinds.length && length < sizes.length) {
                kinds[length] = kind;
                sizes[length] = size;
                length++;
            }
        }

        int kindAt(int k) {
            return k < 0 || k >= kinds.length ? LETTER : kinds[k];
        }

        int sizeAt(int k) {
            return k < 0 || k >= sizes.length ? 0 : sizes[k];
        }

        void copyFrom(Signs other) {
            length = 0;
            for (int k = 0; k < other.length; k++) {
                put(other.kindAt(k), other.sizeAt(k));
            }
        }
    }

    // All that the image keeps. Its parts stay the same objects: others hold on to them.
    private static final class State {
        int p = FIRST_P;
        int formCount;
        int tableCount;
        int signsCount;
        // The acts: done ones first, behind them those that are undone.
        int done;
        int undone;
        private final int[] which = new int[MOST_ACTS];
        // The numbers that the form of each act has when it is undone, or done: those it has not now.
        private final Form[] others = Form.row(MOST_ACTS);
        private final Form[] forms = Form.row(MOST_FORMS);
        private final Table[] tables = new Table[MOST_TABLES];
        private final Signs[] signs = new Signs[MOST_SIGNS];

        State() {
            for (int n = 0; n < tables.length; n++) {
                tables[n] = new Table();
            }
            for (int n = 0; n < signs.length; n++) {
                signs[n] = new Signs();
            }
        }

        Form formAt(int n) {
            return n < formCount ? Form.pick(forms, n) : null;
        }

        Table tableAt(int n) {
            return n < 0 || n >= tableCount || n >= tables.length ? null : tables[n];
        }

        Signs signsAt(int n) {
            return n < 0 || n >= signsCount || n >= signs.length ? null : signs[n];
        }

        // The next free one, counted as there from now on; null if there is no room.
        Form nextForm() {
            if (formCount >= MOST_FORMS) {
                return null;
            }
            formCount++;
            return formAt(formCount - 1);
        }

        Table nextTable() {
            if (tableCount >= MOST_TABLES) {
                return null;
            }
            tableCount++;
            return tableAt(tableCount - 1);
        }

        Signs nextSigns() {
            if (signsCount >= MOST_SIGNS) {
                return null;
            }
            signsCount++;
            return signsAt(signsCount - 1);
        }

        int noughts() {
            int many = 0;
            for (int n = 0; n < formCount; n++) {
                Form f = formAt(n);
                many += f != null && f.isNought() ? 1 : 0;
            }
            return many;
        }

        void write(int form, Form before) {
            undone = 0;
            if (done >= MOST_ACTS) {
                forgetFirst();
            }
            Form other = Form.pick(others, done);
            if (other != null && done >= 0 && done < which.length) {
                which[done] = form;
                other.copyFrom(before);
                done++;
            }
        }

        private void forgetFirst() {
            for (int k = 0; k + 1 < which.length; k++) {
                which[k] = which[k + 1];
                Form to = Form.pick(others, k);
                Form from = Form.pick(others, k + 1);
                if (to != null && from != null) {
                    to.copyFrom(from);
                }
            }
            done--;
        }

        void forgetUndone() {
            undone = 0;
        }

        int nextBack() {
            return done > 0 && done <= which.length ? which[done - 1] : NONE;
        }

        int nextOn() {
            return undone > 0 && done >= 0 && done < which.length ? which[done] : NONE;
        }

        void stepBack(Form f) {
            Form other = Form.pick(others, done - 1);
            if (other != null) {
                done--;
                undone++;
                other.swapWith(f);
            }
        }

        void stepOn(Form f) {
            Form other = Form.pick(others, done);
            if (other != null && undone > 0) {
                done++;
                undone--;
                other.swapWith(f);
            }
        }

        void copyFrom(State from) {
            p = from.p;
            formCount = from.formCount;
            tableCount = from.tableCount;
            signsCount = from.signsCount;
            copyActs(from);
            for (int n = 0; n < formCount; n++) {
                Form mine = formAt(n);
                Form other = from.formAt(n);
                if (mine != null && other != null) {
                    mine.copyFrom(other);
                }
            }
            for (int n = 0; n < tableCount; n++) {
                Table mine = tableAt(n);
                Table other = from.tableAt(n);
                if (mine != null && other != null) {
                    mine.set(other.a, other.b, other.c, other.d);
                }
            }
            for (int n = 0; n < signsCount; n++) {
                Signs mine = signsAt(n);
                Signs other = from.signsAt(n);
                if (mine != null && other != null) {
                    mine.copyFrom(other);
                }
            }
        }

        private void copyActs(State from) {
            done = from.done;
            undone = from.undone;
            for (int k = 0; k < which.length && k < from.which.length; k++) {
                which[k] = from.which[k];
                Form mine = Form.pick(others, k);
                Form other = Form.pick(from.others, k);
                if (mine != null && other != null) {
                    mine.copyFrom(other);
                }
            }
        }
    }

    // The tape, and how a text on it is read as signs.
    private static final class Reader {
        final Signs outcome = new Signs();
        int held;
        private final int[] bytes = new int[MOST_BYTES];
        private int length;
        private int place;
        private int things;

        void put(int number) {
            for (int shift = 24; shift >= 0; shift -= 8) {
                if (held >= 0 && held < bytes.length) {
                    bytes[held] = number >>> shift & 255;
                    held++;
                }
            }
        }

        // The bytes can still be read until others come.
        int useUp() {
            int many = held;
            held = 0;
            return many;
        }

        int byteAt(int k) {
            return k < 0 || k >= bytes.length ? 0 : bytes[k];
        }

        // The first wrong byte, or NONE.
        int read(int newLength) {
            length = newLength;
            place = 0;
            things = 0;
            outcome.length = 0;
            boolean isRight = readSum(0) && next() == NONE;
            return isRight ? NONE : place;
        }

        // The byte ahead behind all blanks, NONE at the end.
        private int next() {
            while (place < length && byteAt(place) == ' ') {
                place++;
            }
            return place < length ? byteAt(place) : NONE;
        }

        private boolean isThingMore() {
            things++;
            return things <= MOST_THINGS;
        }

        private boolean readSum(int deep) {
            if (!readProduct(deep)) {
                return false;
            }
            for (int turn = 0; turn < MOST_BYTES && next() == '+'; turn++) {
                if (!isThingMore()) {
                    return false;
                }
                place++;
                if (!readProduct(deep)) {
                    return false;
                }
                outcome.put(Signs.SUM, 0);
            }
            return true;
        }

        private boolean readProduct(int deep) {
            if (!readPart(deep)) {
                return false;
            }
            for (int turn = 0; turn < MOST_BYTES && next() == '*'; turn++) {
                if (!isThingMore()) {
                    return false;
                }
                place++;
                if (!readPart(deep)) {
                    return false;
                }
                outcome.put(Signs.PRODUCT, 0);
            }
            return true;
        }

        private boolean readPart(int deep) {
            int sign = next();
            if (sign == 'f') {
                return readLetter();
            }
            if (isDigit(sign)) {
                return isThingMore() && readNumber(Signs.NUMBER, MOST_NUMBER);
            }
            if (deep >= MOST_DEEP) {
                return false;
            }
            if (sign == '(') {
                place++;
                return readSum(deep + 1) && take(')');
            }
            if (sign == '[') {
                return readOverlap(deep + 1);
            }
            if (sign == '-') {
                place++;
                if (!readPart(deep + 1)) {
                    return false;
                }
                outcome.put(Signs.LESS, 0);
                return true;
            }
            return false;
        }

        private boolean readOverlap(int deep) {
            if (!isThingMore()) {
                return false;
            }
            place++;
            if (!readSum(deep) || !take(',') || !readSum(deep) || !take(']')) {
                return false;
            }
            return isDigit(next()) && readNumber(Signs.OVERLAP, MOST_OVERLAP);
        }

        private boolean take(int sign) {
            if (next() != sign) {
                return false;
            }
            place++;
            return true;
        }

        private boolean readLetter() {
            if (!isThingMore() || (place + 1 < length && isLetter(byteAt(place + 1)))) {
                return false;
            }
            place++;
            outcome.put(Signs.LETTER, 0);
            return true;
        }

        // Leaves its place at the number's begin if it is none.
        private boolean readNumber(int kind, int most) {
            int number = 0;
            int digits = 0;
            while (place + digits < length && digits <= 3 && isDigit(byteAt(place + digits))) {
                number = 10 * number + byteAt(place + digits) - '0';
                digits++;
            }
            if (digits > 3 || number > most) {
                return false;
            }
            place += digits;
            outcome.put(kind, number);
            return true;
        }

        private static boolean isDigit(int sign) {
            return sign >= '0' && sign <= '9';
        }

        private static boolean isLetter(int sign) {
            return (sign >= 'a' && sign <= 'z') || (sign >= 'A' && sign <= 'Z');
        }
    }

    // Numbers modulo p, and what is done with forms of them. What a result is put into must be none
    // of the forms that it is made of.
    private static final class Algebra {
        // Asked for p each time: going back to the image may change it.
        private final State state;
        private final Form left = new Form();
        private final Form right = new Form();

        Algebra(State newState) {
            state = newState;
        }

        int p() {
            return state.p;
        }

        int of(long number) {
            if (state.p < 2) {
                return 0;
            }
            long rest = number % state.p;
            return (int) (rest < 0 ? rest + state.p : rest);
        }

        int power(int number, int times) {
            int result = 1;
            int square = of(number);
            for (int rest = times; rest > 0; rest >>= 1) {
                if ((rest & 1) == 1) {
                    result = of(result * square);
                }
                square = of(square * square);
            }
            return result;
        }

        // p is a prime: a number to the p less 1 is 1.
        int inverse(int number) {
            return power(number, state.p - 2);
        }

        int detOf(int a, int b, int c, int d) {
            return of(of(a) * of(d) - of(b) * of(c));
        }

        void fill(Table t, int a, int b, int c, int d) {
            t.set(of(a), of(b), of(c), of(d));
        }

        // How many a, b, c, d have a det that is not 0.
        int tables() {
            int p = state.p;
            return (p * p - 1) * (p * p - p);
        }

        int worth(Form f, int x, int y) {
            int sum = 0;
            int power = 1;
            for (int k = 0; k <= f.degree; k++) {
                sum = of(sum * x + f.get(k) * power);
                power = of(power * y);
            }
            return sum;
        }

        void scale(Form f, int times) {
            for (int k = 0; k <= f.degree; k++) {
                f.set(k, of(f.get(k) * times));
            }
        }

        boolean addTo(Form f, Form g) {
            if (f.degree != g.degree) {
                return false;
            }
            for (int k = 0; k <= f.degree; k++) {
                f.set(k, of(f.get(k) + g.get(k)));
            }
            return true;
        }

        // By Horner: what is there, times the line for x, and more of the power of the line for y.
        void mixInto(Form f, Table t, Form result) {
            result.begin(0);
            right.begin(0);
            right.set(0, 1);
            result.set(0, f.get(0));
            for (int k = 1; k <= f.degree; k++) {
                multiplyByLine(result, t.a, t.b);
                multiplyByLine(right, t.c, t.d);
                for (int j = 0; j <= k; j++) {
                    result.set(j, of(result.get(j) + f.get(k) * right.get(j)));
                }
            }
        }

        private void multiplyByLine(Form f, int x, int y) {
            if (f.degree >= MOST_VALUE_DEGREE) {
                return;
            }
            f.degree++;
            f.set(f.degree, 0);
            for (int k = f.degree; k >= 0; k--) {
                f.set(k, of(x * f.get(k) + y * f.get(k - 1)));
            }
        }

        boolean multiplyInto(Form f, Form g, Form result) {
            if (f.degree + g.degree > MOST_VALUE_DEGREE) {
                return false;
            }
            result.begin(f.degree + g.degree);
            addProduct(f, g, 1, result);
            return true;
        }

        private void addProduct(Form f, Form g, int times, Form result) {
            for (int i = 0; i <= f.degree; i++) {
                int number = of(f.get(i) * times);
                for (int j = 0; number != 0 && j <= g.degree; j++) {
                    result.set(i + j, of(result.get(i + j) + number * g.get(j)));
                }
            }
        }

        // False, if there is none by so much, or its degree is above all that a value may have.
        boolean overlapInto(Form f, Form g, int by, Form result) {
            if (by < 0 || by > f.degree || by > g.degree || f.degree + g.degree - 2 * by > MOST_VALUE_DEGREE) {
                return false;
            }
            result.begin(f.degree + g.degree - 2 * by);
            int times = 1;
            for (int i = 0; i <= by; i++) {
                differentiate(f, by - i, i, left);
                differentiate(g, i, by - i, right);
                addProduct(left, right, (i & 1) == 0 ? times : -times, result);
                times = times * (by - i) / (i + 1);
            }
            return true;
        }

        void differentiate(Form f, int byX, int byY, Form result) {
            int degree = f.degree - byX - byY;
            result.begin(degree);
            for (int k = 0; k <= degree; k++) {
                // 8 times at most in all, numbers to 40 each: a long holds the product.
                long times = f.get(k + byY);
                for (int i = 0; i < byX; i++) {
                    times *= degree - k + byX - i;
                }
                for (int i = 0; i < byY; i++) {
                    times *= k + byY - i;
                }
                result.set(k, of(times));
            }
        }

        // How often a point is a root.
        int howOften(Form f, int point) {
            int often = f.first();
            if (often == NONE) {
                return ROOT_OF_NOUGHT;
            }
            if (point == state.p) {
                return often;
            }
            left.copyFrom(f);
            int most = f.degree;
            for (often = 0; often < most && worth(left, point, 1) == 0; often++) {
                dropRoot(left, point);
            }
            return often;
        }

        // Divides by x less the point times y, which goes.
        private void dropRoot(Form f, int point) {
            for (int k = 1; k < f.degree; k++) {
                f.set(k, of(f.get(k) + f.get(k - 1) * point));
            }
            f.degree--;
        }

        boolean divideInto(Form f, Form g, Form result) {
            int degree = f.degree - g.degree;
            int skip = g.first();
            if (degree < 0 || skip == NONE) {
                return false;
            }
            int over = inverse(g.get(skip));
            result.begin(degree);
            for (int k = 0; k <= degree; k++) {
                int rest = f.get(k + skip);
                for (int i = 0; i < k; i++) {
                    rest -= result.get(i) * g.get(k - i + skip);
                }
                result.set(k, of((long) rest * over));
            }
            // Only the first numbers were looked at: the product tells whether all are right.
            return multiplyInto(result, g, left) && left.matches(f);
        }

        // What is in common of two forms that are not nought: y apart, as with numbers of one letter.
        void shareInto(Form f, Form g, Form result) {
            int often = Math.min(f.first(), g.first());
            left.copyFrom(f);
            left.dropY();
            right.copyFrom(g);
            right.dropY();
            Form big = left;
            Form small = right;
            for (int turn = 0; turn <= 2 * MOST_VALUE_DEGREE && !small.isNought(); turn++) {
                takeRest(big, small);
                Form rest = big;
                big = small;
                small = rest;
            }
            int over = inverse(big.get(0));
            result.begin(often + big.degree);
            for (int k = 0; k <= big.degree; k++) {
                result.set(often + k, of(big.get(k) * over));
            }
        }

        // The rest of f divided by g, y taken as 1; the first number of both is not 0.
        private void takeRest(Form f, Form g) {
            int over = inverse(g.get(0));
            for (int turn = 0; turn <= MOST_VALUE_DEGREE && f.degree >= g.degree && !f.isNought(); turn++) {
                int times = of(f.get(0) * over);
                for (int k = 0; k <= g.degree; k++) {
                    f.set(k, of(f.get(k) - times * g.get(k)));
                }
                f.dropY();
            }
        }
    }

    // Finds what signs come to.
    private static final class Calculator {
        private final Algebra algebra;
        private final Form[] stack = Form.row(MOST_LEAVES);
        private final int[] totals = new int[MOST_LEAVES];
        private final Form number = new Form();
        private final Form result = new Form();
        private int top;

        Calculator(Algebra newAlgebra) {
            algebra = newAlgebra;
        }

        // Null without a value. The next value takes the same room.
        Form valueOf(Signs signs, Form f) {
            top = 0;
            for (int k = 0; k < signs.length; k++) {
                int kind = signs.kindAt(k);
                boolean isDone;
                if (kind == Signs.LETTER) {
                    isDone = isLaid(f);
                } else if (kind == Signs.NUMBER) {
                    number.begin(0);
                    number.set(0, algebra.of(signs.sizeAt(k)));
                    isDone = isLaid(number);
                } else if (kind == Signs.LESS) {
                    isDone = isTurned();
                } else {
                    isDone = isJoined(kind, signs.sizeAt(k));
                }
                if (!isDone) {
                    return null;
                }
            }
            return top == 1 ? Form.pick(stack, 0) : null;
        }

        private boolean isLaid(Form f) {
            Form next = Form.pick(stack, top);
            if (next == null) {
                return false;
            }
            next.copyFrom(f);
            top++;
            return true;
        }

        private boolean isTurned() {
            Form last = Form.pick(stack, top - 1);
            if (last == null) {
                return false;
            }
            algebra.scale(last, -1);
            return true;
        }

        private boolean isJoined(int kind, int by) {
            Form first = Form.pick(stack, top - 2);
            Form second = Form.pick(stack, top - 1);
            if (first == null || second == null) {
                return false;
            }
            top--;
            if (kind == Signs.SUM) {
                return algebra.addTo(first, second);
            }
            boolean isThere = kind == Signs.PRODUCT
                    ? algebra.multiplyInto(first, second, result)
                    : algebra.overlapInto(first, second, by, result);
            first.copyFrom(result);
            return isThere;
        }

        // Rank, or weight; NONE.
        int total(Signs signs, boolean weight) {
            top = 0;
            for (int k = 0; k < signs.length; k++) {
                int kind = signs.kindAt(k);
                boolean isOne = true;
                if (kind == Signs.LETTER || kind == Signs.NUMBER) {
                    isOne = isTotalLaid(kind == Signs.LETTER && !weight ? 1 : 0);
                } else if (kind != Signs.LESS) {
                    isOne = isTotalJoined(kind, kind == Signs.OVERLAP && weight ? signs.sizeAt(k) : 0);
                }
                if (!isOne) {
                    return NONE;
                }
            }
            return top == 1 && totals.length > 0 ? totals[0] : NONE;
        }

        private boolean isTotalLaid(int total) {
            if (top < 0 || top >= totals.length) {
                return false;
            }
            totals[top] = total;
            top++;
            return true;
        }

        private boolean isTotalJoined(int kind, int more) {
            if (top < 2 || top > totals.length) {
                return false;
            }
            top--;
            if (kind == Signs.SUM) {
                return totals[top - 1] == totals[top];
            }
            totals[top - 1] += totals[top] + more;
            return true;
        }
    }

    // Rows of values, and how many of them, or of all rows of signs, are independent.
    private static final class Rows {
        private static final int WIDTH = DRAWN * (MOST_VALUE_DEGREE + 1);
        private static final int SUMS = MOST_RANK * MOST_DEGREE / 2 + 1;

        private final Algebra algebra;
        private final Calculator calculator;
        private final Form[] drawn = Form.row(DRAWN);
        private final int[][] held = new int[MOST_SIGNS][WIDTH];
        private final int[] firsts = new int[MOST_SIGNS];
        private final long[] ways = new long[(MOST_RANK + 1) * SUMS];
        private int many;
        private int degree;
        private int place;

        Rows(Algebra newAlgebra, Calculator newCalculator) {
            algebra = newAlgebra;
            calculator = newCalculator;
        }

        // Signs of the set whose row does not depend on those ahead of it, as bits; NONE.
        int independent(State state, int set, int formDegree, int seed) {
            draw(formDegree, seed);
            many = 0;
            degree = NONE;
            int bits = 0;
            for (int n = 0; n < MOST_SIGNS; n++) {
                Signs signs = (set >>> n & 1) == 1 ? state.signsAt(n) : null;
                if (signs != null) {
                    place = 0;
                    for (int k = 0; k < DRAWN; k++) {
                        Form f = Form.pick(drawn, k);
                        if (f == null || !isAppended(calculator.valueOf(signs, f))) {
                            return NONE;
                        }
                    }
                    bits |= isHeld() ? 1 << n : 0;
                }
            }
            return bits;
        }

        private void draw(int formDegree, int seed) {
            int last = seed;
            for (int n = 0; n < DRAWN; n++) {
                Form f = Form.pick(drawn, n);
                if (f != null) {
                    f.begin(formDegree);
                    for (int k = 0; k <= formDegree; k++) {
                        last = 1103515245 * last + 12345;
                        f.set(k, algebra.of(last >>> 16 & 0x7fff));
                    }
                }
            }
        }

        // Puts a value behind the others of the next row.
        private boolean isAppended(Form value) {
            if (value == null || (degree != NONE && value.degree != degree) || many < 0 || many >= held.length) {
                return false;
            }
            degree = value.degree;
            int[] row = held[many];
            for (int k = 0; k <= degree && place < row.length; k++) {
                row[place] = value.get(k);
                place++;
            }
            return true;
        }

        // Takes the rows held so far out of the next one, which is held too if something is left.
        private boolean isHeld() {
            if (many < 0 || many >= held.length || many >= firsts.length) {
                return false;
            }
            int[] row = held[many];
            int width = Math.min(row.length, place);
            for (int n = 0; n < many; n++) {
                int first = firsts[n];
                int times = first >= 0 && first < row.length ? row[first] : 0;
                int[] other = held[n];
                for (int k = 0; times != 0 && k < width && k < other.length; k++) {
                    row[k] = algebra.of(row[k] - times * other[k]);
                }
            }
            int first = 0;
            while (first < width && row[first] == 0) {
                first++;
            }
            if (first >= width) {
                return false;
            }
            int over = algebra.inverse(row[first]);
            for (int k = first; k < width; k++) {
                row[k] = algebra.of(row[k] * over);
            }
            firsts[many] = first;
            many++;
            return true;
        }

        // In how many ways a sum is one of r numbers 0 to d, their order not counted.
        long ways(int sum, int r, int d) {
            if (sum < 0 || sum >= SUMS || ways.length == 0) {
                return 0;
            }
            Arrays.fill(ways, 0);
            ways[0] = 1;
            // With numbers 1 to part, n of them: one that has the greatest is one of n less 1, and it.
            for (int part = 1; part <= d; part++) {
                for (int n = 1; n <= r; n++) {
                    for (int s = part; s <= sum; s++) {
                        addWays(n * SUMS + s, (n - 1) * SUMS + s - part);
                    }
                }
            }
            long all = 0;
            for (int n = 0; n <= r; n++) {
                int place = n * SUMS + sum;
                all += place < ways.length ? ways[place] : 0;
            }
            return all;
        }

        private void addWays(int to, int from) {
            if (from >= 0 && from < ways.length && to >= 0 && to < ways.length) {
                ways[to] += ways[from];
            }
        }
    }

    // Looks for all tables by which a form, mixed, is another one.
    private static final class Search {
        int first;
        int found;
        private final Algebra algebra;
        private final int[] values = new int[BASE * BASE];
        private final int[] aims = new int[MOST_DEGREE + 1];
        private final int[] firstPairs = new int[BASE * BASE];
        private final int[] secondPairs = new int[BASE * BASE];

        Search(Algebra newAlgebra) {
            algebra = newAlgebra;
        }

        void run(Form f, Form g) {
            first = NONE;
            found = 0;
            if (f.degree != g.degree) {
                return;
            }
            if (f.degree == 0 || f.isNought()) {
                // No table makes another form of it; the first of them is 0, 1, 1, 0.
                if (f.matches(g)) {
                    first = BASE * BASE + BASE;
                    found = algebra.tables();
                }
                return;
            }
            aim(f, g);
            int firstMany = choose(firstPairs, aimAt(0));
            int secondMany = choose(secondPairs, aimAt(1));
            for (int i = 0; i < firstMany && i < firstPairs.length; i++) {
                for (int j = 0; j < secondMany && j < secondPairs.length; j++) {
                    meet(firstPairs[i], secondPairs[j], f.degree);
                }
            }
        }

        // Two forms of one degree are the same if they are so at more points than the degree:
        // x 1, y 0 and the x from 0 on with y 1.
        private void aim(Form f, Form g) {
            for (int k = 0; k <= g.degree && k < aims.length; k++) {
                aims[k] = algebra.worth(g, pointX(k), pointY(k));
            }
            for (int x = 0; x < algebra.p(); x++) {
                for (int y = 0; y < algebra.p(); y++) {
                    int place = x * BASE + y;
                    if (place < values.length) {
                        values[place] = algebra.worth(f, x, y);
                    }
                }
            }
        }

        private static int pointX(int k) {
            return k == 0 ? 1 : k - 1;
        }

        private static int pointY(int k) {
            return k == 0 ? 0 : 1;
        }

        private int aimAt(int k) {
            return k < 0 || k >= aims.length ? 0 : aims[k];
        }

        private int valueAt(int x, int y) {
            int place = x * BASE + y;
            return place < 0 || place >= values.length ? 0 : values[place];
        }

        // All pairs where the form is what it should be: they alone can be a, c (or b, d).
        private int choose(int[] pairs, int aim) {
            int many = 0;
            for (int x = 0; x < algebra.p(); x++) {
                for (int y = 0; y < algebra.p(); y++) {
                    if (valueAt(x, y) == aim && many < pairs.length) {
                        pairs[many] = x * BASE + y;
                        many++;
                    }
                }
            }
            return many;
        }

        private void meet(int firstPair, int secondPair, int degree) {
            int a = firstPair / BASE;
            int c = firstPair % BASE;
            int b = secondPair / BASE;
            int d = secondPair % BASE;
            if (algebra.detOf(a, b, c, d) == 0) {
                return;
            }
            for (int k = 2; k <= degree; k++) {
                int x = pointX(k);
                if (valueAt(algebra.of(a * x + b), algebra.of(c * x + d)) != aimAt(k)) {
                    return;
                }
            }
            int code = ((a * BASE + b) * BASE + c) * BASE + d;
            first = found == 0 ? code : Math.min(first, code);
            found++;
        }
    }

    // A form as a sum of few powers.
    private static final class Powers {
        int many;
        private final Algebra algebra;
        private final int[] points = new int[MOST_POWERS];
        private final int[] numbers = new int[MOST_POWERS];
        private final int[] shares = new int[MOST_DEGREE + 1];
        private final int[] row = new int[MOST_DEGREE + 1];
        private int degree;
        private int length;

        Powers(Algebra newAlgebra) {
            algebra = newAlgebra;
        }

        int pointAt(int k) {
            return k < 0 || k >= many || k >= points.length ? NONE : points[k];
        }

        int numberAt(int k) {
            return k < 0 || k >= many || k >= numbers.length ? NONE : numbers[k];
        }

        // Sets many (NONE if three are too few), points and numbers.
        void find(Form f) {
            many = NONE;
            degree = f.degree;
            share(f);
            for (int n = 0; n <= MOST_POWERS && many == NONE; n++) {
                if (isFound(n)) {
                    many = n;
                }
            }
            for (int k = 0; k < many && k < numbers.length; k++) {
                numbers[k] = numberOf(k);
            }
        }

        // Each number divided by its number in a power of x and y: then the powers of (x less
        // the point times y) are just 1, - point, point squared, ..
        private void share(Form f) {
            int over = 1;
            for (int k = 0; k <= degree && k < shares.length; k++) {
                shares[k] = algebra.of(f.get(k) * algebra.inverse(over));
                over = over * (degree - k) / (k + 1);
            }
        }

        private boolean isFound(int n) {
            for (int k = 0; k < n && k < points.length; k++) {
                points[k] = k;
            }
            boolean isOne = isSumOf(n);
            // 20 over 3 are 1140.
            for (int turn = 0; turn < 2000 && !isOne && isNextChoice(n); turn++) {
                isOne = isSumOf(n);
            }
            return isOne;
        }

        // The next n points in rising order; false behind the last ones.
        private boolean isNextChoice(int n) {
            int k = Math.min(n, points.length) - 1;
            while (k >= 0 && points[k] >= algebra.p() - (n - 1 - k)) {
                k--;
            }
            if (k < 0) {
                return false;
            }
            points[k]++;
            for (int j = k + 1; j < n && j < points.length; j++) {
                points[j] = points[j - 1] + 1;
            }
            return true;
        }

        private boolean isSumOf(int n) {
            beginRow();
            for (int k = 0; k < n && k < points.length; k++) {
                takeOut(points[k]);
            }
            for (int k = 0; k < length && k < row.length; k++) {
                if (row[k] != 0) {
                    return false;
                }
            }
            return true;
        }

        private void beginRow() {
            length = degree + 1;
            for (int k = 0; k < length && k < row.length && k < shares.length; k++) {
                row[k] = shares[k];
            }
        }

        // Makes the row shorter by one, so that the powers of this point are 0 in it.
        private void takeOut(int point) {
            length--;
            for (int k = 0; point != algebra.p() && k < length && k + 1 < row.length; k++) {
                row[k] = algebra.of(row[k + 1] + point * row[k]);
            }
        }

        // With all other points taken out, what is left is this one's alone.
        private int numberOf(int which) {
            int mine = pointAt(which);
            int over = 1;
            beginRow();
            for (int k = 0; k < many && k < points.length; k++) {
                if (k != which) {
                    takeOut(points[k]);
                    over = points[k] == algebra.p() ? over : algebra.of(over * (points[k] - mine));
                }
            }
            // y to the degree has 0 in all places but the last.
            int place = mine == algebra.p() ? length - 1 : 0;
            int left = place < 0 || place >= row.length ? 0 : row[place];
            return mine == algebra.p() ? left : algebra.of(left * algebra.inverse(over));
        }
    }

    // A form a x x, b x y, c y y of whole numbers, and how it is reduced.
    private static final class Whole {
        private long a;
        private long b;
        private long c;
        private long changes;
        private long tableA;
        private long tableB;
        private long tableC;
        private long tableD;

        void reduce(int newA, int newB, int newC) {
            a = newA;
            b = newB;
            c = newC;
            changes = 0;
            tableA = 1;
            tableB = 0;
            tableC = 0;
            tableD = 1;
            for (int turn = 0; turn < 1000000 && !isReduced(); turn++) {
                if (b > a || b <= -a) {
                    shift();
                }
                if (a > c || (a == c && b < 0)) {
                    swap();
                }
            }
        }

        private boolean isReduced() {
            return b <= a && b > -a && (a < c || (a == c && b >= 0));
        }

        // x and n y in place of x.
        private void shift() {
            if (a <= 0) {
                return;
            }
            long n = Math.floorDiv(a - b, 2 * a);
            c += n * (a * n + b);
            b += 2 * a * n;
            tableB += n * tableA;
            tableD += n * tableC;
            changes++;
        }

        // - y in place of x, x in place of y.
        private void swap() {
            long oldA = a;
            a = c;
            b = -b;
            c = oldA;
            long oldTableA = tableA;
            tableA = tableB;
            tableB = -oldTableA;
            long oldTableC = tableC;
            tableC = tableD;
            tableD = -oldTableC;
            changes++;
        }

        private int turns() {
            if (a != c) {
                return 2;
            }
            if (b == 0) {
                return 4;
            }
            return b == a ? 6 : 2;
        }

        long tell(int what) {
            switch (what) {
                case 0: return a;
                case 1: return b;
                case 2: return c;
                case 3: return changes;
                case 4: return tableA;
                case 5: return tableB;
                case 6: return tableC;
                case 7: return tableD;
                case 8: return turns();
                default: return NONE;
            }
        }

        // How many reduced ones there are; stands at the k-th if there is such a one.
        int seek(int disc, boolean all, int k) {
            int many = 0;
            for (int i = 1; 3 * i * i <= -disc; i++) {
                for (int j = 1 - i; j <= i; j++) {
                    int four = j * j - disc;
                    int last = four / (4 * i);
                    boolean isOne = four % (4 * i) == 0 && (last > i || (last == i && j >= 0));
                    if (isOne && (all || divisor(divisor(i, j), last) == 1)) {
                        if (many == k) {
                            a = i;
                            b = j;
                            c = last;
                        }
                        many++;
                    }
                }
            }
            return many;
        }

        private static int divisor(int first, int second) {
            int big = Math.abs(first);
            int small = Math.abs(second);
            for (int turn = 0; turn < 100 && small != 0; turn++) {
                int rest = big % small;
                big = small;
                small = rest;
            }
            return big;
        }

        // How many different real roots there are, told by signs of what stays when x is shifted.
        static int rootsOfCubic(long a, long b, long c, long d) {
            long all = 18 * a * b * c * d - 4 * b * b * b * d + b * b * c * c
                    - 4 * a * c * c * c - 27 * a * a * d * d;
            if (all != 0) {
                return all > 0 ? 3 : 1;
            }
            return b * b == 3 * a * c ? 1 : 2;
        }

        static int rootsOfQuartic(long a, long b, long c, long d, long e) {
            long all = differences(a, b, c, d, e);
            long second = 8 * a * c - 3 * b * b;
            long fourth = 64 * a * a * a * e - 16 * a * a * c * c + 16 * a * b * b * c
                    - 16 * a * a * b * d - 3 * b * b * b * b;
            if (all < 0) {
                return 2;
            }
            if (all > 0) {
                return second < 0 && fourth < 0 ? 4 : 0;
            }
            if (fourth == 0) {
                long third = b * b * b + 8 * d * a * a - 4 * a * b * c;
                return rootsOfDoubles(second, third);
            }
            if (c * c - 3 * b * d + 12 * a * e == 0) {
                // one of three that are the same, and another one
                return 2;
            }
            return second < 0 && fourth < 0 ? 3 : 1;
        }

        // Two doubles (real, or not), all four the same, or one real double alone.
        private static int rootsOfDoubles(long second, long third) {
            if (second == 0) {
                return 1;
            }
            if (second < 0) {
                return 2;
            }
            return third == 0 ? 0 : 1;
        }

        // All differences of roots, squared and multiplied: 0 if some are the same.
        private static long differences(long a, long b, long c, long d, long e) {
            return 256 * a * a * a * e * e * e - 192 * a * a * b * d * e * e - 128 * a * a * c * c * e * e
                    + 144 * a * a * c * d * d * e - 27 * a * a * d * d * d * d + 144 * a * b * b * c * e * e
                    - 6 * a * b * b * d * d * e - 80 * a * b * c * c * d * e + 18 * a * b * c * d * d * d
                    + 16 * a * c * c * c * c * e - 4 * a * c * c * c * d * d - 27 * b * b * b * b * e * e
                    + 18 * b * b * b * c * d * e - 4 * b * b * b * d * d * d - 4 * b * b * c * c * c * e
                    + b * b * c * c * d * d;
        }
    }
}
