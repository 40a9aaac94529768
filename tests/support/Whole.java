import java.math.BigInteger;
import java.util.ArrayList;
import java.util.List;

/** Whole forms and real roots, done step by step. */
final class Whole {
    private Whole() {
    }

    /** What reduced() may be asked, 0 to 8. */
    static long[] reduced(int a0, int b0, int c0) {
        long a = a0;
        long b = b0;
        long c = c0;
        long changes = 0;
        long[] t = {1, 0, 0, 1};
        while (!(-a < b && b <= a && (a < c || a == c && b >= 0))) {
            if (b > a || b <= -a) {
                long n = 0;
                while (b + 2 * a * n > a) {
                    n--;
                }
                while (b + 2 * a * n <= -a) {
                    n++;
                }
                t = joined(t, new long[] {1, n, 0, 1});
                changes++;
            }
            long[] f = put(a0, b0, c0, t);
            if (f[0] > f[2] || f[0] == f[2] && f[1] < 0) {
                t = joined(t, new long[] {0, -1, 1, 0});
                changes++;
            }
            f = put(a0, b0, c0, t);
            a = f[0];
            b = f[1];
            c = f[2];
        }
        return new long[] {a, b, c, changes, t[0], t[1], t[2], t[3], turns(a, b, c)};
    }

    private static long[] joined(long[] s, long[] t) {
        return new long[] {s[0] * t[0] + s[1] * t[2], s[0] * t[1] + s[1] * t[3],
            s[2] * t[0] + s[3] * t[2], s[2] * t[1] + s[3] * t[3]};
    }

    private static long[] put(long a, long b, long c, long[] t) {
        return new long[] {a * t[0] * t[0] + b * t[0] * t[2] + c * t[2] * t[2],
            2 * a * t[0] * t[1] + b * (t[0] * t[3] + t[1] * t[2]) + 2 * c * t[2] * t[3],
            a * t[1] * t[1] + b * t[1] * t[3] + c * t[3] * t[3]};
    }

    /** All tables with numbers - 3 to 3 are enough for a reduced one. */
    private static long turns(long a, long b, long c) {
        long many = 0;
        for (int n = 0; n < 7 * 7 * 7 * 7; n++) {
            long[] t = {n / 343 - 3, n / 49 % 7 - 3, n / 7 % 7 - 3, n % 7 - 3};
            long[] f = put(a, b, c, t);
            many += t[0] * t[3] - t[1] * t[2] == 1 && f[0] == a && f[1] == b && f[2] == c ? 1 : 0;
        }
        return many;
    }

    static List<int[]> classes(int disc, boolean all) {
        List<int[]> found = new ArrayList<>();
        for (int a = 1; a <= 60; a++) {
            for (int b = -60; b <= 60; b++) {
                if ((b * b - disc) % (4 * a) != 0) {
                    continue;
                }
                int c = (b * b - disc) / (4 * a);
                boolean isReduced = -a < b && b <= a && (a < c || a == c && b >= 0);
                int common = BigInteger.valueOf(a).gcd(BigInteger.valueOf(b)).gcd(BigInteger.valueOf(c)).intValue();
                if (isReduced && (all || common == 1)) {
                    found.add(new int[] {a, b, c});
                }
            }
        }
        return found;
    }

    // ==== real roots by a row of rests (Sturm's) ====

    static int real(int[] numbers) {
        List<BigInteger[]> row = new ArrayList<>();
        BigInteger[] f = new BigInteger[numbers.length];
        for (int k = 0; k < f.length; k++) {
            f[k] = BigInteger.valueOf(numbers[k]);
        }
        BigInteger[] g = new BigInteger[f.length - 1];
        for (int k = 0; k < g.length; k++) {
            g[k] = f[k].multiply(BigInteger.valueOf(g.length - k));
        }
        row.add(f);
        while (g.length > 0) {
            row.add(g);
            BigInteger[] rest = lessRest(f, g);
            f = g;
            g = rest;
        }
        return changes(row, true) - changes(row, false);
    }

    /** 0 less the rest of f divided by g, times what is above 0. */
    private static BigInteger[] lessRest(BigInteger[] f, BigInteger[] g) {
        BigInteger[] rest = f.clone();
        while (rest.length >= g.length) {
            BigInteger[] next = new BigInteger[rest.length - 1];
            BigInteger sign = BigInteger.valueOf(g[0].signum());
            for (int k = 1; k < rest.length; k++) {
                BigInteger part = k < g.length ? g[k].multiply(rest[0]) : BigInteger.ZERO;
                next[k - 1] = rest[k].multiply(g[0]).subtract(part).multiply(sign);
            }
            rest = next;
        }
        int zeros = 0;
        while (zeros < rest.length && rest[zeros].signum() == 0) {
            zeros++;
        }
        BigInteger[] all = new BigInteger[rest.length - zeros];
        for (int k = 0; k < all.length; k++) {
            all[k] = rest[k + zeros].negate();
        }
        return all;
    }

    /** Changes of sign far left, or far right. */
    private static int changes(List<BigInteger[]> row, boolean left) {
        int changes = 0;
        int last = 0;
        for (BigInteger[] f : row) {
            int sign = f[0].signum() * (left && f.length % 2 == 0 ? -1 : 1);
            changes += last != 0 && sign != last ? 1 : 0;
            last = sign;
        }
        return changes;
    }
}
