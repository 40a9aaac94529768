/** What every test of the project uses: asks a call, compares, counts what is wrong. */
final class Check {
    interface Call {
        Object run();
    }

    interface Act {
        void run();
    }

    private static int asked = 0;
    private static int wrong = 0;

    private Check() {
    }

    /** What a call answers as a text; a boolean as 1 or 0, an exception as throws. and its name. */
    static String answer(Call call) {
        try {
            Object got = call.run();
            if (got instanceof Boolean) {
                return (Boolean) got ? "1" : "0";
            }
            return String.valueOf(got);
        } catch (RuntimeException e) {
            return "throws." + e.getClass().getSimpleName();
        }
    }

    static void due(String what, Object want, Call call) {
        asked++;
        String got = answer(call);
        String due = want instanceof Boolean ? (Boolean) want ? "1" : "0" : String.valueOf(want);
        if (!got.equals(due)) {
            wrong++;
            if (wrong <= 40) {
                System.out.println(what + " answered " + got + ", due is " + due);
            }
        }
    }

    static void index(String what, Call call) {
        due(what, "throws.IndexOutOfBoundsException", call);
    }

    static void argument(String what, Call call) {
        due(what, "throws.IllegalArgumentException", call);
    }

    static void full(String what, Call call) {
        due(what, "throws.UnsupportedOperationException", call);
    }

    static void noElement(String what, Call call) {
        due(what, "throws.NoSuchElementException", call);
    }

    /** A void call as one with an answer. */
    static Object done(Act act) {
        act.run();
        return "done";
    }

    static void end(String test) {
        System.out.println(test + ": " + asked + " asked, " + wrong + " wrong");
        if (wrong > 0 || asked == 0) {
            System.exit(1);
        }
    }

    // ==== shorter ways to tell things ====

    /** Puts just these bytes on the tape. */
    static void tape(LetterForms x, int... bytes) {
        x.end(0);
        for (int from = 0; from < bytes.length; from += 20) {
            int[] n = new int[5];
            for (int k = 0; k < 20; k++) {
                int b = from + k < bytes.length ? bytes[from + k] : 0;
                n[k / 4] = n[k / 4] << 8 | b & 255;
            }
            x.feed(n[0], n[1], n[2], n[3], n[4]);
        }
        x.end(bytes.length);
    }

    static int[] bytes(String text) {
        int[] bytes = new int[text.length()];
        for (int k = 0; k < bytes.length; k++) {
            bytes[k] = text.charAt(k);
        }
        return bytes;
    }

    static int form(LetterForms x, int... numbers) {
        tape(x, numbers);
        return x.form();
    }

    static int signs(LetterForms x, String text) {
        tape(x, bytes(text));
        return x.signs();
    }

    /** The numbers of a form, as it is looked at. */
    static String look(LetterForms x, int form) {
        StringBuilder all = new StringBuilder();
        for (int k = 0; k <= x.look(form, -1); k++) {
            all.append(k == 0 ? "" : " ").append(x.look(form, k));
        }
        return all.toString();
    }

    static String value(LetterForms x, int signs, int form) {
        int degree = x.value(signs, form, -1);
        if (degree < 0) {
            return "none";
        }
        StringBuilder all = new StringBuilder();
        for (int k = 0; k <= degree; k++) {
            all.append(k == 0 ? "" : " ").append(x.value(signs, form, k));
        }
        return all.toString();
    }

    static String table(LetterForms x, int table) {
        return x.told(table, 0) + " " + x.told(table, 1) + " " + x.told(table, 2) + " " + x.told(table, 3);
    }

    /** Everything of the state that can be asked for, to tell whether a call has changed it. */
    static String all(LetterForms x) {
        StringBuilder all = new StringBuilder();
        for (int what = 0; what <= 6; what++) {
            all.append(x.stock(what)).append(' ');
        }
        for (int n = 0; n < x.stock(1); n++) {
            all.append('|').append(look(x, n));
        }
        for (int n = 0; n < x.stock(2); n++) {
            all.append('/').append(table(x, n));
        }
        for (int n = 0; n < x.stock(3); n++) {
            all.append(';').append(x.rank(n, false)).append(',').append(x.rank(n, true));
        }
        return all.toString();
    }
}
