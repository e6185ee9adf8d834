import java.util.Random;

/** Promises 19 to 28, 31 and 34 against all rows of songs written out one by one, on small valleys told by lot. */
public final class BruteForceTest {
    private static final Check CHECK = new Check();

    private final int people;
    private final int[] kind;
    private final int[] need;
    private final int[] voice;

    private int silent = -1;
    private boolean stranger;

    private int least;
    private long ways;
    private int lasts;
    private int anyLasts;
    private final int[] with = new int[8];
    private int[] plan;
    private final int[] row = new int[16];

    private BruteForceTest(SungAsleep x) {
        people = x.many(0);
        kind = new int[people];
        need = new int[people];
        voice = new int[people];
        for (int i = 0; i < people; i++) {
            kind[i] = x.personOf(i, 0);
            need[i] = x.personOf(i, 3);
            voice[i] = x.personOf(i, 2);
        }
    }

    private void write(int awake) {
        least = -3;
        ways = 0;
        lasts = 0;
        anyLasts = 0;
        plan = null;
        java.util.Arrays.fill(with, -3);
        writeFrom(awake, 0, 0);
    }

    private void writeFrom(int awake, int songs, int minutes) {
        if (Integer.bitCount(awake) <= 1) {
            end(awake, songs, minutes);
            return;
        }
        int singers = stranger ? 1 : people;
        for (int singer = 0; singer < singers; singer++) {
            for (int whom = 1; whom < 1 << people; whom++) {
                int lasting = lasting(awake, singer, whom);
                if (lasting > 0) {
                    row[2 * songs] = singer;
                    row[2 * songs + 1] = whom;
                    writeFrom(awake & ~whom, songs + 1, minutes + lasting);
                }
            }
        }
    }

    private int lasting(int awake, int singer, int whom) {
        if ((whom & awake) != whom || Integer.bitCount(whom) > 3) return 0;
        if (!stranger && (singer == silent || (awake >> singer & 1) == 0 || (whom >> singer & 1) == 1)) return 0;
        int most = 0;
        for (int i = 0; i < people; i++) {
            if ((whom >> i & 1) == 1) {
                if (kind[i] == 4 && whom != 1 << i) return 0;
                most = Math.max(most, need[i]);
            }
        }
        return !stranger && most > voice[singer] ? 0 : most;
    }

    private void end(int awake, int songs, int minutes) {
        anyLasts |= awake;
        for (int i = 0; i < people; i++) {
            if (awake == 1 << i && (with[i] == -3 || minutes < with[i])) with[i] = minutes;
        }
        if (least != -3 && minutes > least) return;
        if (least == -3 || minutes < least) {
            least = minutes;
            ways = 0;
            lasts = 0;
            plan = null;
        }
        ways++;
        lasts |= awake;
        // Rows are written in their order: only one of fewer songs goes ahead of the first.
        if (plan == null || 2 * songs < plan.length) plan = java.util.Arrays.copyOf(row, 2 * songs);
    }

    public static void main(String[] args) {
        Random lot = new Random(20261117);
        for (int round = 0; round < 1500; round++) {
            SungAsleep x = new SungAsleep();
            int people = round % 50 == 0 ? 6 : 1 + lot.nextInt(5);
            int ages = 1 + lot.nextInt(90);
            for (int i = 0; i < people; i++) {
                x.person(lot.nextInt(6), 1 + lot.nextInt(ages));
                if (lot.nextInt(3) > 0) x.voice(i, lot.nextInt(1 + Math.min(200, ages * 2)));
                x.lasts(i, lot.nextInt(3));
            }
            for (int i = 0; i < 2; i++) x.sing(lot.nextInt(people), lot.nextInt(1 << people));
            compare(x);
        }
        CHECK.end();
    }

    private static void compare(SungAsleep x) {
        BruteForceTest all = new BruteForceTest(x);
        int awake = x.night(1);
        all.write(awake);
        int[] plan = all.plan;
        int least = all.least;
        CHECK.due("least", x.least(), least);
        CHECK.due("last", x.last(), all.lasts);
        CHECK.due("ways", x.ways(), Math.min(1000000, all.ways));
        for (int i = 0; i < all.people; i++) CHECK.due("with", x.with(i), all.with[i]);
        CHECK.due("turn", x.inTurn(), turnOf(x, all.anyLasts));
        comparePlan(x, plan);
        for (int i = 0; i < all.people; i++) {
            all.silent = i;
            all.write(awake);
            CHECK.due("silent", x.silent(i), all.least);
        }
        all.silent = -1;
        CHECK.due("dearest", x.dearest(), least == -3 ? -3 : dearestOf(all, awake));
        CHECK.due("hoarse", x.hoarse(), hoarseOf(all, awake));
        all.stranger = true;
        all.write(awake);
        CHECK.due("tent", x.tent(), all.least);
    }

    private static int turnOf(SungAsleep x, int set) {
        int who = -3;
        for (int i = 7; i >= 0; i--) {
            if ((set >> i & 1) == 1 && (who == -3 || x.personOf(i, 5) <= x.personOf(who, 5))) who = i;
        }
        return who;
    }

    private static int dearestOf(BruteForceTest all, int awake) {
        int who = -3;
        int best = 0;
        for (int i = 0; i < all.people; i++) {
            if ((awake >> i & 1) == 0) continue;
            all.write(awake & ~(1 << i));
            if (all.least != -3 && (who == -3 || all.least < best)) {
                who = i;
                best = all.least;
            }
        }
        return who;
    }

    private static int hoarseOf(BruteForceTest all, int awake) {
        int[] own = all.voice.clone();
        int low = 0;
        int high = 200;
        while (low < high) {
            int middle = (low + high) / 2;
            java.util.Arrays.fill(all.voice, middle);
            all.write(awake);
            if (all.least == -3) low = middle + 1;
            else high = middle;
        }
        System.arraycopy(own, 0, all.voice, 0, own.length);
        return low;
    }

    private static void comparePlan(SungAsleep x, int[] plan) {
        int minute = x.night(0);
        int awake = x.night(1);
        if (plan == null) {
            CHECK.due("plan", x.plan(0), -3);
            CHECK.due("prove", x.prove(), -3);
            return;
        }
        int songs = plan.length / 2;
        CHECK.due("songs", x.plan(0), songs);
        CHECK.due("prove", x.prove(), songs);
        for (int i = 0; i < 8; i++) {
            CHECK.due("singer", x.plan(10 + i), i < songs ? plan[2 * i] : -3);
            CHECK.due("whom", x.plan(20 + i), i < songs ? plan[2 * i + 1] : -3);
            CHECK.due("row singer", x.row(i, 0), i < songs ? plan[2 * i] : -9);
            CHECK.due("row whom", x.row(i, 1), i < songs ? plan[2 * i + 1] : -9);
        }
        CHECK.due("judge", x.judge(), 0);
        x.keep();
        for (int i = 0; i < songs; i++) {
            minute += x.sing(plan[2 * i], plan[2 * i + 1]);
            awake &= ~plan[2 * i + 1];
            CHECK.due("row minute", x.row(i, 2), minute);
            CHECK.due("minute", x.night(0), minute);
        }
        CHECK.due("over", x.night(2), 1);
        CHECK.due("awake", x.night(1), awake);
        x.again();
        CHECK.due("who is last", 1 << x.plan(1), awake);
    }
}
