import java.util.ArrayList;
import java.util.List;

/** BODIES as a table in which an act is looked up from a KIND upwards; the class has them as methods of its people. */
final class PlainActs {
    static final int SINGS = 0, NEEDS = 1, SHARES = 2, TELLS = 3;
    private static final int[] ABOVE = {-1, 0, 0, 1, 2, 0};
    /** The number of the body of an act (sings, needs, shares, tells) that a KIND has of its own, or 0. */
    private static final int[][] OWN = {
        {10, 11, 12, 13}, {0, 20, 0, 0}, {30, 0, 0, 31}, {51, 0, 50, 0}, {40, 41, 0, 0}, {0, 0, 61, 60}};

    static final class Parted extends RuntimeException {
        private static final long serialVersionUID = 1;
    }

    final List<Integer> trace = new ArrayList<>();
    private final int kind;
    private final int n;
    private final int a;

    PlainActs(int kind, int n, int a) {
        this.kind = kind;
        this.n = n;
        this.a = a;
    }

    static boolean isUnder(int kind, int other) {
        return kind == other || ABOVE[kind] >= 0 && isUnder(ABOVE[kind], other);
    }

    int act(int act, int x) {
        return from(kind, act, x);
    }

    private int from(int k, int act, int x) {
        int body = OWN[k][act];
        return body == 0 ? from(ABOVE[k], act, x) : run(body, ABOVE[k], x);
    }

    private int run(int body, int above, int x) {
        trace.add(body);
        switch (body) {
            case 10: return x + n;
            case 11: return act(SINGS, x) * 2;
            case 12: if (a == n) throw new Parted(); else return x / (a - n);
            case 13: return act(NEEDS, x) ^ a;
            case 20: return from(above, NEEDS, x) - a;
            case 30: return from(above, SINGS, x) * 3;
            case 31: return from(above, TELLS, x) + act(SHARES, n);
            case 40: return 0 - from(above, SINGS, x);
            case 41: return from(above, NEEDS, x) + act(SINGS, n);
            case 50: return from(above, SHARES, x + 2) ^ 1;
            case 51: return from(above, SINGS, x) - n;
            case 60: return from(above, TELLS, x) * 2;
            case 61: return from(above, SHARES, x) + act(SINGS, a);
            default: throw new IllegalStateException("no such body: " + body);
        }
    }
}
