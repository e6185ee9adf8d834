import com.sun.management.ThreadMXBean;
import java.lang.management.ManagementFactory;
import java.util.Random;

/** Any calls in any state: none throws, refusals change nothing, and a run keeps to little room. */
public final class AnyCallTest {
    private static final Check CHECK = new Check();
    private static final int[] ODD = {Integer.MIN_VALUE, Integer.MAX_VALUE, -1, -2, 8, 9, 16, 32, 64, 255, 256, 1000000,
        Integer.MIN_VALUE + 1, Integer.MAX_VALUE - 1, 1 << 30, 40, 41, 90, 91, 200, 201, 999, 1000, 9999, 10000};
    private static final String[] TEXTS = {"old 5;child 9;", "deaf 90;deaf 80;restless 9;traveller 40;",
        "sleeper 1;sleeper 2;sleeper 3;sleeper 4;sleeper 5;sleeper 6;sleeper 7;sleeper 8;", "old 5;asleep 0;", "old",
        "child 5 voice 3 purse 4;old 8;owes 0 1 5;owes 1 0 6;asleep 0;"};

    private final Random lot;

    private AnyCallTest(long seed) {
        lot = new Random(seed);
    }

    /** Mostly small numbers, so that most calls find something; now and then an odd one. */
    private int number() {
        int sort = lot.nextInt(12);
        if (sort == 0) return ODD[lot.nextInt(ODD.length)];
        if (sort == 1) return lot.nextInt();
        return lot.nextInt(sort < 8 ? 8 : 64);
    }

    private int call(SungAsleep x, int which) {
        int a = number();
        int b = number();
        int c = number();
        switch (which) {
            case 0: return x.feed(lot.nextLong(), a);
            case 1: Check.feed(x, TEXTS[lot.nextInt(TEXTS.length)]); return x.valley();
            case 2: return x.person(a, b);
            case 3: return x.personOf(a, b);
            case 4: return x.voice(a, b);
            case 5: return x.purse(a, b);
            case 6: return x.turn(a, b);
            case 7: return x.older();
            case 8: return x.lasts(a, b);
            case 9: return x.sing(a, b);
            case 10: return x.may(a, b);
            case 11: return x.wake(a);
            case 12: return x.night(a);
            case 13: return x.day();
            case 14: return x.owed(a, b);
            case 15: return x.owe(a, b, c);
            case 16: return x.ring();
            case 17: return x.least();
            case 18: return x.plan(a);
            case 19: return x.last();
            case 20: return x.with(a);
            case 21: return x.silent(a);
            case 22: return x.ways();
            case 23: return x.inTurn();
            case 24: return x.dearest();
            case 25: return x.hoarse();
            case 26: return x.tent();
            case 27: return x.seed(a);
            case 28: return x.draw();
            case 29: return x.prove();
            case 30: return x.row(a, b);
            case 31: return x.alterRow(a, b, c);
            case 32: return x.judge();
            case 33: return x.ages(a, b, c, number());
            case 34: return x.sheet(a, b, c);
            case 35: return x.put(a, b, c);
            case 36: return x.item(a, b, c);
            case 37: return x.shelf(a, b, c);
            case 38: return x.taken(a, b);
            case 39: return x.act(a, b, c);
            case 40: return x.trace(a);
            case 41: return x.many(a);
            case 42: return x.keep();
            default: return x.again();
        }
    }

    /** These change things though they may answer below 0. */
    private static boolean mayAnswerBelow(int which) {
        return which == 1 || which == 13 || which == 27 || which == 31 || which == 39;
    }

    private static long stateOf(SungAsleep x) {
        long hash = 7;
        for (int what = 0; what < 5; what++) hash = 31 * hash + x.many(what);
        for (int what = 0; what < 4; what++) hash = 31 * hash + x.night(what);
        int z = x.seed(0);
        x.seed(z);
        hash = 31 * hash + z;
        for (int i = 0; i < 8; i++) {
            for (int k = 0; k < 8; k++) {
                hash = 31 * hash + x.personOf(i, k);
                hash = 31 * hash + x.owed(i, k);
            }
            for (int what = 0; what < 3; what++) hash = 31 * hash + x.row(i, what);
        }
        for (int i = 0; i < 4; i++) {
            for (int k = 0; k < 14; k++) hash = 31 * hash + x.taken(i, k);
            for (int sort = 0; sort < 4; sort++) {
                for (int k = 0; k < 40; k++) hash = 31 * hash + x.item(i, sort, k);
            }
        }
        for (int i = 0; i < 30; i++) hash = 31 * hash + x.trace(i);
        return hash;
    }

    private static boolean isAsking(int which) {
        return which == 3 || which == 10 || which == 12 || which == 14 || which >= 17 && which <= 26 || which == 30
            || which == 32 || which == 36 || which == 38 || which == 40 || which == 41;
    }

    private void oneRun() {
        SungAsleep x = new SungAsleep();
        SungAsleep twin = new SungAsleep();
        long seed = lot.nextLong();
        AnyCallTest first = new AnyCallTest(seed);
        AnyCallTest second = new AnyCallTest(seed);
        for (int i = 0; i < 512; i++) {
            int which = lot.nextInt(44);
            long was = stateOf(x);
            int answer = first.call(x, which);
            CHECK.due("the same calls give the same answers, call " + which, second.call(twin, which), answer);
            boolean refused = answer < 0 && !mayAnswerBelow(which);
            if (refused || isAsking(which)) CHECK.holds("call " + which + " changes nothing", stateOf(x) == was);
        }
    }

    private static void room() {
        ThreadMXBean threads = (ThreadMXBean) ManagementFactory.getThreadMXBean();
        long thread = Thread.currentThread().getId();
        SungAsleep warm = new SungAsleep();
        warm.keep();
        long was = threads.getThreadAllocatedBytes(thread);
        SungAsleep x = new SungAsleep();
        for (int i = 0; i < 8; i++) x.person(i % 6, 10 * i + 9);
        x.keep();
        for (int i = 0; i < 63; i++) {
            x.again();
            x.keep();
            x.sheet(0, 3, 40);
            x.turn(1, 3);
            x.voice(1, i);
            x.least();
            x.tent();
            x.prove();
        }
        long bytes = threads.getThreadAllocatedBytes(thread) - was;
        CHECK.holds("some 500 dear calls take less than 400000 bytes, took " + bytes, bytes < 400000);
    }

    public static void main(String[] args) {
        AnyCallTest test = new AnyCallTest(512);
        for (int run = 0; run < 300; run++) test.oneRun();
        room();
        CHECK.end();
    }
}
