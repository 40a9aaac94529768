import java.util.ArrayDeque;
import java.util.ArrayList;
import java.util.Deque;
import java.util.List;

/** A row of signs read by two stacks (the class reads by calls within calls), and what it comes to. */
final class Text {
    private static final class Node {
        final char kind;
        final int number;
        final Node left;
        final Node right;

        Node(char newKind, int newNumber, Node newLeft, Node newRight) {
            kind = newKind;
            number = newNumber;
            left = newLeft;
            right = newRight;
        }
    }

    private final int[] bytes;
    private final Deque<Node> nodes = new ArrayDeque<>();
    private final Deque<Character> open = new ArrayDeque<>();
    private int at = 0;
    private int things = 0;
    private boolean begins = true;
    /** The first wrong byte, or - 1. */
    final int fault;
    private Node tree;

    Text(int[] newBytes) {
        bytes = newBytes;
        fault = read();
    }

    static Text of(String text) {
        return new Text(Check.bytes(text));
    }

    private int sign(int k) {
        return k < bytes.length ? bytes[k] : -1;
    }

    private static boolean digit(int sign) {
        return sign >= '0' && sign <= '9';
    }

    private int read() {
        while (true) {
            while (sign(at) == ' ') {
                at++;
            }
            int here = at;
            if (sign(at) < 0) {
                if (begins || !reduce(0) || !open.isEmpty()) {
                    return here;
                }
                tree = nodes.pop();
                return -1;
            }
            if (!(begins ? operand() : operator())) {
                return wrong >= 0 ? wrong : here;
            }
        }
    }

    private int wrong = -1;

    private boolean operand() {
        int sign = sign(at);
        if ("([-".indexOf(sign) >= 0) {
            if (deep() >= 6 || sign == '[' && ++things > 40) {
                return false;
            }
            open.push((char) sign);
            at++;
            return true;
        }
        if (sign == 'f') {
            if (++things > 40 || Character.isLetter(sign(at + 1)) && sign(at + 1) < 128) {
                return false;
            }
            at++;
            complete(new Node('f', 0, null, null));
            return true;
        }
        if (digit(sign)) {
            int number = number(999);
            if (++things > 40 || number < 0) {
                return false;
            }
            complete(new Node('n', number, null, null));
            return true;
        }
        return false;
    }

    /** - 1 if it is none. */
    private int number(int most) {
        int end = at;
        while (digit(sign(end))) {
            end++;
        }
        if (end == at || end - at > 3) {
            return -1;
        }
        int number = 0;
        for (int k = at; k < end; k++) {
            number = 10 * number + sign(k) - '0';
        }
        if (number > most) {
            return -1;
        }
        at = end;
        return number;
    }

    private long deep() {
        return open.stream().filter(c -> c != '+' && c != '*').count();
    }

    private void complete(Node node) {
        Node all = node;
        while (!open.isEmpty() && open.peek() == '-') {
            open.pop();
            all = new Node('-', 0, all, null);
        }
        nodes.push(all);
        begins = false;
    }

    private boolean operator() {
        int sign = sign(at);
        if (sign == '+' || sign == '*') {
            if (++things > 40) {
                return false;
            }
            reduce(sign == '*' ? 2 : 1);
            open.push((char) sign);
            begins = true;
        } else if (sign == ')' || sign == ',' || sign == ']') {
            reduce(0);
            char due = sign == ')' ? '(' : sign == ',' ? '[' : ',';
            if (open.isEmpty() || open.peek() != due) {
                return false;
            }
            open.pop();
            if (sign == ',') {
                open.push(',');
                begins = true;
            } else if (sign == ')') {
                complete(nodes.pop());
            } else {
                at++;
                while (sign(at) == ' ') {
                    at++;
                }
                wrong = at;
                int by = number(8);
                if (by < 0) {
                    return false;
                }
                wrong = -1;
                Node right = nodes.pop();
                complete(new Node('o', by, nodes.pop(), right));
                return true;
            }
        } else {
            return false;
        }
        at++;
        return true;
    }

    /** Does what binds as much or more; true always. */
    private boolean reduce(int least) {
        while (!open.isEmpty() && (open.peek() == '*' && least <= 2 || open.peek() == '+' && least <= 1)) {
            Node right = nodes.pop();
            nodes.push(new Node(open.pop(), 0, nodes.pop(), right));
        }
        return true;
    }

    // ==== what it comes to ====

    /** Null without a value. */
    int[] value(int[] f, int p) {
        return value(tree, f, p);
    }

    private static int[] value(Node n, int[] f, int p) {
        int[] all = null;
        if (n.kind == 'f') {
            all = f.clone();
        } else if (n.kind == 'n') {
            all = new int[] {n.number % p};
        } else if (n.kind == '-') {
            int[] of = value(n.left, f, p);
            all = of == null ? null : Plain.scaled(of, -1, p);
        } else {
            int[] left = value(n.left, f, p);
            int[] right = value(n.right, f, p);
            if (left == null || right == null) {
                return null;
            }
            if (n.kind == '+') {
                all = left.length == right.length ? Plain.plus(left, right, p) : null;
            } else if (n.kind == '*') {
                all = Plain.times(left, right, p);
            } else {
                all = Plain.overlap(left, right, n.number, p);
            }
        }
        return all == null || all.length > 41 ? null : all;
    }

    int rank(boolean weight) {
        List<Integer> all = new ArrayList<>();
        products(tree, weight, all);
        for (int one : all) {
            if (one != all.get(0)) {
                return -1;
            }
        }
        return all.get(0);
    }

    /** Everything multiplied out: the rank, or the weight, of each product that is added. */
    private static void products(Node n, boolean weight, List<Integer> all) {
        if (n.kind == 'f' || n.kind == 'n') {
            all.add(n.kind == 'f' && !weight ? 1 : 0);
        } else if (n.kind == '-') {
            products(n.left, weight, all);
        } else {
            List<Integer> left = new ArrayList<>();
            List<Integer> right = new ArrayList<>();
            products(n.left, weight, left);
            products(n.right, weight, right);
            left = List.copyOf(new java.util.TreeSet<>(left));
            right = List.copyOf(new java.util.TreeSet<>(right));
            if (n.kind == '+') {
                all.addAll(left);
                all.addAll(right);
            } else {
                for (int l : left) {
                    for (int r : right) {
                        all.add(l + r + (weight && n.kind == 'o' ? n.number : 0));
                    }
                }
            }
        }
    }
}
