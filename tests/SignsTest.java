/** Promises 7, 8 and 16: texts that are read, where they are wrong, and their ranks and weights. */
public final class SignsTest {
    private static final String SIX = "------";

    public static void main(String[] args) {
        right();
        wrong();
        limits();
        cut();
        state();
        drawn();
        Check.end("SignsTest");
    }

    private static String times(String text, int many) {
        return text.repeat(many);
    }

    private static void read(String text, int fault) {
        LetterForms x = new LetterForms();
        if (fault < 0) {
            Check.due("7: '" + text + "'", 0, () -> Check.signs(x, text));
        } else {
            Check.argument("7: '" + text + "'", () -> Check.signs(x, text));
        }
        Check.due("8: '" + text + "'", fault, x::fault);
        Check.due("7: used up '" + text + "'", false, () -> x.end(1));
        Check.due("7: how many '" + text + "'", fault < 0 ? 1 : 0, () -> x.stock(3));
        Check.due("8: as by two stacks '" + text + "'", fault, () -> Text.of(text).fault);
    }

    private static void right() {
        for (String text : new String[] {"f", " f ", "0", "007", "999", "f+f", "f*f", " f  +  f * f ", "(f)", "((((((f))))))", SIX + "f",
            "-(f)", "-[f,f]1", "(-f)", "[f,f]0", "[f,f]8", "[ f , f ] 2", "[f,f]08", "[f,f]008", "[f+f,f*f]2*f", "-f+-f", "f*-f", "[[f,f]2,-f]3",
            "[[[[[[f,f]1,f]1,f]1,f]1,f]1,f]1", "(-[(-[f,f]1),f]1)", "-(-(-(f)))", "f* 2", "2*f", "(((((f)*(f)))))+f", "[f,[f,[f,f]1]1]1"}) {
            read(text, -1);
        }
    }

    private static void wrong() {
        read("", 0);
        read("   ", 3);
        read("g", 0);
        read("F", 0);
        read("x", 0);
        read("ff", 0);
        read("fg", 0);
        read("fF", 0);
        read("f ff", 2);
        read("f f", 2);
        read("f 2", 2);
        read("f2", 1);
        read("2f", 1);
        read("2 2", 2);
        read("f+", 2);
        read("f+  ", 4);
        read("f +* f", 3);
        read("*f", 0);
        read("+f", 0);
        read(",f", 0);
        read(")", 0);
        read("]", 0);
        read("f)", 1);
        read("f]", 1);
        read("f,f", 1);
        read("(f", 2);
        read("(f ", 3);
        read("()", 1);
        read("(f]", 2);
        read("(f,f)", 2);
        read("[f]2", 2);
        read("[f,f", 4);
        read("[f,f)", 4);
        read("[f,f,f]1", 4);
        read("[f,f]", 5);
        read("[f,f]  ", 7);
        read("[f,f]f", 5);
        read("[f,f]9", 5);
        read("[f,f] 9", 6);
        read("[f,f]10", 5);
        read("[f,f]0001", 5);
        read("[f,f]-1", 5);
        read("[f,f](1)", 5);
        read("[f,f]1 1", 7);
        read("[f,f]1f", 6);
        read("[,f]1", 1);
        read("[f,]1", 3);
        read("1000", 0);
        read("f+0000", 2);
        read("-", 1);
        read("f-f", 1);
        read("f--f", 1);
        read("f\tf", 1);
        read("\tf", 0);
        read("f_", 1);
        read("fa", 0);
        read("fz", 0);
        read("fA", 0);
        read("fZ", 0);
        read("f`", 1);
        read("f{", 1);
        read("f@", 1);
        read("f[f,f]1", 1);
        read("f/", 1);
        read("f:", 1);
        read("/", 0);
        read(":", 0);
        read("f\u00e9", 1);
        read("\u00ff", 0);
        read("f*(f+(f*f)", 10);
        read("f*(f+(f*f)))", 11);
    }

    private static void limits() {
        read(SIX + "-f", 6);
        read("((((((( f", 6);
        read("[[[[[[[f", 6);
        read("(-[(-[ - f", 7);
        read("(-[(-[ f, -f", 10);
        read("(((((( f + f ) ( ", 15);
        read("[[[[[[f,f]1,(f", 14);
        read("[[[[[[f,f]1,((f", 13);
        read("[-[-[-f,f]1,f]1,(-(-(f", 22);
        read("[-[-[-f,f]1,f]1,(-(-((f", 21);
        read("(((((f)))))+((((((f))))))+" + SIX + "f*" + SIX + "f", -1);
        read("(((((f)))))+(((((((f)))))))", 18);
        // at the sixth what is missing is missing still
        read(SIX, 6);
        read(SIX + " ", 7);
        read(SIX + ")", 6);
        read("(((((()", 6);
        read("(((((())))))", 6);
        read("((((((", 6);
        read("((((((+f))))))", 6);
        read("((((((*f))))))", 6);
        read("((((((f", 7);
        read("((((((f+", 8);
        read("((((((f)))))", 12);
        read("((((((f)))))))", 13);
        read("[[[[[[,f]1", 6);
        read("[[[[[[f]1", 7);
        read("[[[[[[f,]1", 8);
        read("[[[[[[f,f]", 10);
        read("[[[[[[f,f]9", 10);
        read("[[[[[[f,f]1,f]1,f]1,f]1,f]1,f]", 30);
        read("(-[(-[g", 6);
        read("(-[(-[ff", 6);
        read("(-[(-[1000", 6);
        // - ends where its part ends: there is room for six again
        read("-f*" + SIX + "f", -1);
        read("(-f*-----f)", -1);
        read("(-f*------f)", 9);
        read("-(f)+" + SIX + "f", -1);
        read("-(-f*-(-(f)))", -1);
        read("-(-f*-(-(-f)))", 9);
        fortyOfEach();
        String twenty = times("f+", 19) + "f";
        read(twenty, -1);
        read(twenty + "*f", 40);
        read(twenty + "+", 40);
        read(twenty + "+f", 40);
        read(twenty + "   ", -1);
        read(times("f*", 20) + "f", 40);
        read(times("1*", 20) + "f", 40);
        read(times(" 1 * ", 20) + "f", 100);
        read("[" + times("f+", 18) + "f,f]1", -1);
        read("[" + times("f+", 19) + "f,f]1", 41);
        read(twenty.substring(0, 37) + "[f", 37);
        read(twenty.substring(0, 38) + "[f,f]1", 41);
        read(twenty.substring(0, 36) + "[f,f]1", -1);
        read(twenty.substring(0, 36) + "[f,f]1+", 43);
        read("((((" + twenty + "))))", -1);
        read(times(SIX + "f+", 19) + SIX + "f", -1);
        read(times(SIX + "f*", 20) + "f", 160);
        read(times("([f,f]8)*", 9) + "f*f", -1);
        read(times("([f,f]8)*", 10) + "f*f", 90);
        read(times(" ", 399) + "f", -1);
        read(times(" ", 400), 400);
    }

    /** Which thing is the 41st: f, a NUMBER, [, * or +; ( and ) and - and the NUMBER of an OVERLAP are none. */
    private static void fortyOfEach() {
        // 19 of f and 18 of +: what comes first is the 38th
        String most = times("f+", 18) + "f";
        read(most + "+f", -1);
        read(most + "+[", 39);
        read(most + "+(f)", -1);
        read(most + "+-(f)", -1);
        read(most + "+7", -1);
        read(most + "+7+", 40);
        read(most + "+999*", 42);
        read(most + "+(f*f)", 41);
        read(most + "+((", 40);
        read(most + "+(7", 40);
        // 18 of f and 17 of +: what comes first is the 36th
        String less = times("f+", 17) + "f";
        read(less + "+[f,f]8", -1);
        read(less + "+[f,f]8 ", -1);
        read(less + "+[f,f]8+", 43);
        read(less + "+[f,f]8+f", 43);
        read(less + "+[f,[", 40);
        read(less + "+[[f,f]1,f]1", 44);
        read(less + "+[[1", 39);
        read(less + "*[7,7]8*", 43);
        read(times("[", 6) + "f" + times(",f]8", 6) + times("*f", 13), -1);
        read(times("[", 6) + "f" + times(",f]8", 6) + times("*f", 13) + "*", 58);
        read(times("[", 6) + "f" + times(",f]8", 6) + times("*f", 13) + "*f", 58);
    }

    /** What stood on the tape behind its end is no part of the text. */
    private static void cut() {
        String[] texts = {"f", "7", "12", "[f,f]2", "f*2", "f ", "12 ", "f+", "[f,f]", "[f,f] ", "-", "(f"};
        for (String text : texts) {
            for (String behind : new String[] {"f", "z", "9", "99", " ", ")", "2", "+f", "!"}) {
                LetterForms x = new LetterForms();
                Check.tape(x, Check.bytes(text + behind.repeat(5)));
                x.end(text.length());
                int due = Text.of(text).fault;
                Check.due("7: '" + text + "' cut", due < 0 ? "0" : "throws.IllegalArgumentException", x::signs);
                Check.due("8: '" + text + "' cut", due, x::fault);
                if (due < 0) {
                    Check.form(x, 1, 1, 1, 1);
                    LetterForms y = new LetterForms();
                    Check.signs(y, text);
                    Check.form(y, 1, 1, 1, 1);
                    Check.due("15: '" + text + "' cut", Check.value(y, 0, 0), () -> Check.value(x, 0, 0));
                }
            }
        }
    }

    private static void state() {
        LetterForms x = new LetterForms();
        Check.due("8: ahead of any", -1, x::fault);
        Check.argument("7: no text", x::signs);
        Check.due("8: no text", 0, x::fault);
        Check.due("7: first", 0, () -> Check.signs(x, "f"));
        Check.due("8: a right one", -1, x::fault);
        Check.argument("7: wrong", () -> Check.signs(x, "f*f*"));
        Check.due("8: of the latest", 4, x::fault);
        Check.form(x, 1, 2);
        Check.due("8: forms are no texts", 4, x::fault);
        Check.due("16: of letters", "1 0", () -> x.rank(0, false) + " " + x.rank(0, true));
        for (int n = 1; n < 8; n++) {
            Check.due("7: " + n, n, () -> Check.signs(x, "f*f"));
        }
        Check.argument("7: a wrong one first of all", () -> Check.signs(x, "(f"));
        Check.due("8: of a refused one", 2, x::fault);
        Check.full("7: a 9th", () -> Check.signs(x, "f"));
        Check.due("8: of a right 9th", -1, x::fault);
        Check.due("7: used up", false, () -> x.end(1));
        Check.due("7: 8", 8, () -> x.stock(3));
        Check.due("16: the others stay", 2, () -> x.rank(7, false));
        ranks();
    }

    private static void ranks() {
        rank("f", 1, 0);
        rank("7", 0, 0);
        rank("f*f*2", 2, 0);
        rank("-f", 1, 0);
        rank("[f,f]3", 2, 3);
        rank("[f*f,[f,f]2]5", 4, 7);
        rank("f+f*f", -1, 0);
        rank("f*f+[f,f]1", 2, -1);
        rank("f+1", -1, 0);
        rank("[f,f]2+2", -1, -1);
        rank("[f,f]2*f+f*[f,f]2", 3, 2);
        rank("[f,f]2*f+f*[f,f]4", 3, -1);
        rank("0*(f+1)", -1, 0);
        rank("[f+1,f]2", -1, 2);
        rank("([f,f]1+f)*f", -1, -1);
        rank("[f,f]2+([f,f]1+[f,f]1)", 2, -1);
        rank("1+2*3", 0, 0);
        rank(times("[", 6) + "f,f]8" + times(",f]8", 5), 7, 48);
        LetterForms x = new LetterForms();
        Check.index("16: none", () -> x.rank(0, false));
        Check.signs(x, "f");
        Check.index("16: behind", () -> x.rank(1, true));
        Check.index("16: below", () -> x.rank(-1, true));
    }

    private static void rank(String text, int rank, int weight) {
        LetterForms x = new LetterForms();
        Check.signs(x, text);
        Check.due("16: rank " + text, rank, () -> x.rank(0, false));
        Check.due("16: weight " + text, weight, () -> x.rank(0, true));
    }

    /** Drawn texts, most of them nearly right, read by two stacks as well. */
    private static void drawn() {
        String[] parts = {"f", "f", "f", "f", "7", "12", "000", "1000", "(", ")", "[", ",", "]2", "]", "]8", "]9", "*", "+", "-", "-", " ", "ff", "g", "."};
        Drawn drawn = new Drawn(5);
        for (int turn = 0; turn < 4000; turn++) {
            StringBuilder text = new StringBuilder();
            build(drawn, text, drawn.below(5));
            if (text.length() > 400) {
                text.setLength(400);
            }
            for (int k = drawn.below(3); k > 0; k--) {
                int at = drawn.below(text.length() + 1);
                if (drawn.once(2) && at < text.length()) {
                    text.deleteCharAt(at);
                } else if (text.length() < 395) {
                    text.insert(at, parts[drawn.below(parts.length)]);
                }
            }
            String all = text.toString();
            Text due = Text.of(all);
            LetterForms x = new LetterForms();
            Check.due("7: " + all, due.fault < 0 ? "0" : "throws.IllegalArgumentException", () -> Check.signs(x, all));
            Check.due("8: " + all, due.fault, x::fault);
            if (due.fault < 0) {
                Check.due("16: rank " + all, due.rank(false), () -> x.rank(0, false));
                Check.due("16: weight " + all, due.rank(true), () -> x.rank(0, true));
            }
        }
    }

    private static void build(Drawn drawn, StringBuilder text, int deep) {
        int what = deep <= 0 ? drawn.below(2) : drawn.below(7);
        String blank = drawn.once(6) ? " " : "";
        switch (what) {
            case 0: text.append("f"); break;
            case 1: text.append(drawn.once(3) ? String.valueOf(drawn.below(1000)) : "f"); break;
            case 2: case 3:
                build(drawn, text, deep - 1);
                text.append(blank).append(what == 2 ? "+" : "*").append(blank);
                build(drawn, text, deep - 1);
                break;
            case 4:
                text.append("(");
                build(drawn, text, deep - 1);
                text.append(blank).append(")");
                break;
            case 5:
                text.append("[").append(blank);
                build(drawn, text, deep - 1);
                text.append(",");
                build(drawn, text, deep - 1);
                text.append("]").append(blank).append(drawn.below(9));
                break;
            default:
                text.append("-").append(blank);
                build(drawn, text, deep - 1);
                break;
        }
    }
}
