import java.util.ArrayList;
import java.util.List;

/**
 * Rows of songs found forwards, from those awake now to the sets that can be left: for each set the best row to it
 * is kept as a whole. The class goes the other way round and keeps no rows.
 */
final class PlainNights {
    record Song(int singer, int whom, int minutes) { }

    private final int[] needs;
    private final int[] voices;
    private final boolean[] deaf;
    private final int awake;

    private final List<List<Song>> best = new ArrayList<>();
    private final long[] ways = new long[256];

    /** A voice of -1 stands for one who doesn't sing. */
    PlainNights(int[] needs, int[] voices, boolean[] deaf, int awake) {
        this.needs = needs;
        this.voices = voices;
        this.deaf = deaf;
        this.awake = awake;
        for (int set = 0; set < 256; set++) best.add(null);
        best.set(awake, List.of());
        ways[awake] = 1;
        for (int set = awake; set > 0; set--) {
            if (best.get(set) != null) leave(set);
        }
    }

    private void leave(int set) {
        for (int singer = 0; singer < needs.length; singer++) {
            if ((set >> singer & 1) == 0) continue;
            for (int whom = 1; whom <= set; whom++) {
                int minutes = lasting(set & ~(1 << singer), whom);
                if (minutes > 0 && minutes <= voices[singer]) reach(set, new Song(singer, whom, minutes));
            }
        }
    }

    private int lasting(int others, int whom) {
        int count = Integer.bitCount(whom);
        if ((whom & ~others) != 0 || count > 3) return 0;
        int most = 0;
        for (int i = 0; i < needs.length; i++) {
            if ((whom >> i & 1) == 0) continue;
            if (deaf[i] && count > 1) return 0;
            most = Math.max(most, needs[i]);
        }
        return most;
    }

    private void reach(int set, Song song) {
        int left = set & ~song.whom();
        List<Song> row = new ArrayList<>(best.get(set));
        row.add(song);
        List<Song> other = best.get(left);
        if (other == null || minutes(row) < minutes(other)) ways[left] = 0;
        if (other == null || minutes(row) <= minutes(other)) ways[left] += ways[set];
        if (other == null || isAhead(row, other)) best.set(left, row);
    }

    static int minutes(List<Song> row) {
        int sum = 0;
        for (Song song : row) sum += song.minutes();
        return sum;
    }

    private static boolean isAhead(List<Song> row, List<Song> other) {
        if (minutes(row) != minutes(other)) return minutes(row) < minutes(other);
        if (row.size() != other.size()) return row.size() < other.size();
        for (int i = 0; i < row.size(); i++) {
            Song a = row.get(i);
            Song b = other.get(i);
            if (a.singer() != b.singer()) return a.singer() < b.singer();
            if (a.whom() != b.whom()) return a.whom() < b.whom();
        }
        return false;
    }

    /** PLAN, or null. */
    List<Song> plan() {
        if (awake == 0) return List.of();
        List<Song> first = null;
        for (int i = 0; i < 8; i++) {
            List<Song> row = best.get(1 << i);
            if (row != null && (first == null || isAhead(row, first))) first = row;
        }
        return first;
    }

    /** LEAST, or -3. */
    int least() {
        return plan() == null ? -3 : minutes(plan());
    }

    /** LEAST with this one last, or -3. */
    int leastWith(int who) {
        List<Song> row = best.get(1 << who);
        return row == null ? -3 : minutes(row);
    }

    long ways() {
        if (awake == 0) return 1;
        long sum = 0;
        for (int i = 0; i < 8; i++) {
            if (leastWith(i) != -3 && leastWith(i) == least()) sum += ways[1 << i];
        }
        return sum;
    }
}
