import java.util.ArrayList;
import java.util.List;

/** Forms and linear equations modulo p, done in the plainest ways, other ones than the class takes. */
final class Plain {
    private Plain() {
    }

    static int mod(long n, int p) {
        return (int) Math.floorMod(n, (long) p);
    }

    static int inverse(int n, int p) {
        for (int k = 1; k < p; k++) {
            if (mod((long) n * k, p) == 1) {
                return k;
            }
        }
        throw new IllegalStateException("no inverse");
    }

    static boolean nought(int[] f) {
        for (int n : f) {
            if (n != 0) {
                return false;
            }
        }
        return true;
    }

    static int[] times(int[] f, int[] g, int p) {
        int[] all = new int[f.length + g.length - 1];
        for (int i = 0; i < f.length; i++) {
            for (int j = 0; j < g.length; j++) {
                all[i + j] = mod(all[i + j] + (long) f[i] * g[j], p);
            }
        }
        return all;
    }

    static int[] scaled(int[] f, int n, int p) {
        int[] all = new int[f.length];
        for (int i = 0; i < f.length; i++) {
            all[i] = mod((long) f[i] * n, p);
        }
        return all;
    }

    static int[] plus(int[] f, int[] g, int p) {
        int[] all = new int[f.length];
        for (int i = 0; i < f.length; i++) {
            all[i] = mod((long) f[i] + g[i], p);
        }
        return all;
    }

    static int[] power(int[] f, int n, int p) {
        int[] all = {1};
        for (int i = 0; i < n; i++) {
            all = times(all, f, p);
        }
        return all;
    }

    static int at(int[] f, int x, int y, int p) {
        int d = f.length - 1;
        int[] sum = {0};
        for (int i = 0; i <= d; i++) {
            int[] part = {f[i]};
            part = times(part, power(new int[] {x}, d - i, p), p);
            part = times(part, power(new int[] {y}, i, p), p);
            sum = plus(sum, part, p);
        }
        return sum[0];
    }

    static int[] mixed(int[] f, int[] t, int p) {
        int d = f.length - 1;
        int[] all = new int[d + 1];
        for (int i = 0; i <= d; i++) {
            int[] part = times(power(new int[] {t[0], t[1]}, d - i, p), power(new int[] {t[2], t[3]}, i, p), p);
            all = plus(all, scaled(part, f[i], p), p);
        }
        return all;
    }

    static int[] byX(int[] f, int p) {
        int d = f.length - 1;
        int[] all = new int[d];
        for (int i = 0; i < d; i++) {
            all[i] = mod((long) f[i] * (d - i), p);
        }
        return all;
    }

    static int[] byY(int[] f, int p) {
        int d = f.length - 1;
        int[] all = new int[d];
        for (int i = 0; i < d; i++) {
            all[i] = mod((long) f[i + 1] * (i + 1), p);
        }
        return all;
    }

    /** Null, if k is more than a degree. */
    static int[] overlap(int[] f, int[] g, int k, int p) {
        if (k > f.length - 1 || k > g.length - 1) {
            return null;
        }
        int[] all = new int[f.length + g.length - 1 - 2 * k];
        for (int i = 0; i <= k; i++) {
            int[] u = f;
            int[] v = g;
            for (int j = 0; j < k; j++) {
                u = j < k - i ? byX(u, p) : byY(u, p);
                v = j < i ? byX(v, p) : byY(v, p);
            }
            all = plus(all, scaled(times(u, v, p), (i % 2 == 0 ? 1 : -1) * over(k, i), p), p);
        }
        return all;
    }

    static int over(int n, int k) {
        return k == 0 || k == n ? 1 : over(n - 1, k - 1) + over(n - 1, k);
    }

    // ==== equations ====

    /** Brings rows into steps, in place; answers the column of each step. */
    static List<Integer> steps(int[][] rows, int columns, int p) {
        List<Integer> steps = new ArrayList<>();
        for (int c = 0; c < columns && steps.size() < rows.length; c++) {
            int at = steps.size();
            int r = at;
            while (r < rows.length && rows[r][c] == 0) {
                r++;
            }
            if (r == rows.length) {
                continue;
            }
            int[] row = rows[r];
            rows[r] = rows[at];
            rows[at] = scaled(row, inverse(row[c], p), p);
            for (int o = 0; o < rows.length; o++) {
                if (o != at && rows[o][c] != 0) {
                    rows[o] = plus(rows[o], scaled(rows[at], -rows[o][c], p), p);
                }
            }
            steps.add(c);
        }
        return steps;
    }

    static int rank(List<int[]> rows, int p) {
        if (rows.isEmpty()) {
            return 0;
        }
        int[][] all = new int[rows.size()][];
        for (int i = 0; i < all.length; i++) {
            all[i] = rows.get(i).clone();
        }
        return steps(all, all[0].length, p).size();
    }

    /** The q of a degree with q times g = f, g not nought; null if there is none. */
    static int[] quotient(int[] f, int[] g, int p) {
        int unknown = f.length - g.length + 1;
        if (unknown < 1) {
            return null;
        }
        int[][] rows = new int[f.length][unknown + 1];
        for (int i = 0; i < f.length; i++) {
            for (int j = 0; j < unknown; j++) {
                rows[i][j] = i - j >= 0 && i - j < g.length ? g[i - j] : 0;
            }
            rows[i][unknown] = f[i];
        }
        List<Integer> steps = steps(rows, unknown + 1, p);
        if (steps.contains(unknown) || steps.size() < unknown) {
            return null;
        }
        int[] q = new int[unknown];
        for (int j = 0; j < unknown; j++) {
            q[j] = rows[j][unknown];
        }
        return q;
    }

    /** What is in common: v and u of the least degrees with u f = v g tell it. Neither is nought. */
    static int[] common(int[] f, int[] g, int p) {
        for (int t = Math.min(f.length, g.length) - 1; t >= 0; t--) {
            int us = g.length - t;
            int vs = f.length - t;
            int[][] rows = new int[f.length + g.length - 1 - t][us + vs];
            for (int i = 0; i < rows.length; i++) {
                for (int j = 0; j < us; j++) {
                    rows[i][j] = i - j >= 0 && i - j < f.length ? f[i - j] : 0;
                }
                for (int j = 0; j < vs; j++) {
                    rows[i][us + j] = i - j >= 0 && i - j < g.length ? mod(-g[i - j], p) : 0;
                }
            }
            List<Integer> steps = steps(rows, us + vs, p);
            if (steps.size() == us + vs) {
                continue;
            }
            int free = 0;
            while (steps.contains(free)) {
                free++;
            }
            int[] all = new int[us + vs];
            all[free] = 1;
            for (int r = 0; r < steps.size(); r++) {
                all[steps.get(r)] = mod(-rows[r][free], p);
            }
            int[] v = new int[vs];
            System.arraycopy(all, us, v, 0, vs);
            int[] c = quotient(f, v, p);
            int first = 0;
            while (c[first] == 0) {
                first++;
            }
            return scaled(c, inverse(c[first], p), p);
        }
        throw new IllegalStateException("1 is always in common");
    }
}
