import java.math.BigInteger;
import java.util.ArrayList;
import java.util.Arrays;
import java.util.List;
import java.util.Map;
import java.util.TreeMap;

/**
 * The document told a second time, for the tests: lists and maps, slow and plain, with nothing shared with the class.
 * The names of the calls are those of the document.
 */
public final class PlainValley {
    private static final int BAD = -1, FULL = -2, NONE = -3, STATE = -4;

    private static final class Person {
        int kind;
        int age;
        int voice = 100;
        int purse;
        int lasts;
        int sung;
        boolean awake = true;

        Person(int kind, int age) {
            this.kind = kind;
            this.age = age;
        }

        int needs() {
            switch (kind) {
                case 1: return age / 2 + 1;
                case 2: case 4: return age + 5;
                case 3: return (age / 2 + 1) * 2;
                default: return age;
            }
        }

        Person copy() {
            Person p = new Person(kind, age);
            p.voice = voice;
            p.purse = purse;
            p.lasts = lasts;
            p.sung = sung;
            p.awake = awake;
            return p;
        }
    }

    private static final class All {
        List<Person> people = new ArrayList<>();
        Map<List<Integer>, Integer> owed = new TreeMap<>((p, q) -> p.toString().compareTo(q.toString()));
        int minute;
        int z = 1;

        All copy() {
            All all = new All();
            for (Person p : people) all.people.add(p.copy());
            all.owed.putAll(owed);
            all.minute = minute;
            all.z = z;
            return all;
        }

        int owed(int who, int whom) {
            return owed.getOrDefault(List.of(who, whom), 0);
        }

        void owe(int who, int whom, int v) {
            owed.put(List.of(who, whom), v);
        }
    }

    private record Items(int sort, long[] items) { }

    private All all = new All();
    private All kept;
    private final StringBuilder tape = new StringBuilder();
    private List<int[]> rows = new ArrayList<>();
    private List<Integer> trace = List.of();
    private final Items[] sheets = new Items[4];
    private final Object[] shelves = new Object[4];

    private boolean is(int person) {
        return person >= 0 && person < all.people.size();
    }

    private Person at(int person) {
        return all.people.get(person);
    }

    private List<Integer> whoAreAwake() {
        List<Integer> who = new ArrayList<>();
        for (int i = 0; i < all.people.size(); i++) if (at(i).awake) who.add(i);
        return who;
    }

    private int awakeSet() {
        return whoAreAwake().stream().mapToInt(i -> 1 << i).sum();
    }

    // ---- the valley

    public int feed(long eight, int n) {
        if (n < 1 || n > 8) return BAD;
        if (tape.length() + n > 200) return FULL;
        byte[] bytes = BigInteger.valueOf(eight).toByteArray();
        for (int i = 0; i < n; i++) {
            int at = bytes.length - 1 - i;
            tape.append((char) (at >= 0 ? bytes[at] & 255 : eight < 0 ? 255 : 0));
        }
        return tape.length();
    }

    public int valley() {
        PlainReader reader = new PlainReader(tape.toString());
        tape.setLength(0);
        int fault = reader.fault();
        if (fault >= 0) return -100 - fault;
        All told = new All();
        told.z = all.z;
        for (int[] p : reader.people) {
            Person person = new Person(p[0], p[1]);
            person.voice = p[2];
            person.purse = p[3];
            person.awake = p[4] == 1;
            told.people.add(person);
        }
        for (int i = 0; i < 8; i++) for (int k = 0; k < 8; k++) told.owe(i, k, reader.owed[i][k]);
        all = told;
        rows = new ArrayList<>();
        return told.people.size();
    }

    public int person(int kind, int age) {
        if (kind < 0 || kind > 5 || age < 1 || age > 90) return BAD;
        if (all.people.size() == 8) return FULL;
        all.people.add(new Person(kind, age));
        return all.people.size() - 1;
    }

    public int personOf(int person, int what) {
        if (!is(person) || what < 0 || what > 7) return BAD;
        Person p = at(person);
        return new int[] {p.kind, p.age, p.voice, p.needs(), p.sung, p.lasts, p.awake ? 1 : 0, p.purse + 100000}[what];
    }

    public int voice(int person, int v) {
        if (!is(person) || v < 0 || v > 200) return BAD;
        int was = at(person).voice;
        at(person).voice = v;
        return was;
    }

    public int purse(int person, int v) {
        if (!is(person) || v < -9999 || v > 9999) return BAD;
        int was = at(person).purse;
        at(person).purse = v;
        return was + 100000;
    }

    public int turn(int person, int kind) {
        if (!is(person) || kind < 0 || kind > 5) return BAD;
        int was = at(person).kind;
        at(person).kind = kind;
        return was;
    }

    public int older() {
        for (Person p : all.people) if (p.age < 90) p.age++;
        return all.people.stream().mapToInt(p -> p.age).sum();
    }

    public int lasts(int person, int v) {
        if (!is(person) || v < 0 || v > 999) return BAD;
        int was = at(person).lasts;
        at(person).lasts = v;
        return was;
    }

    // ---- nights

    private static List<Integer> members(int set) {
        List<Integer> who = new ArrayList<>();
        for (int i = 0; i < 32; i++) if ((set >>> i & 1) == 1) who.add(i);
        return who;
    }

    /** The minutes of the song if just these are awake, or BAD or STATE. */
    private int song(List<Integer> awake, int singer, int whom) {
        List<Integer> to = members(whom);
        if (!is(singer) || to.isEmpty() || to.size() > 3 || !to.stream().allMatch(this::is)) return BAD;
        if (!awake.contains(singer) || !awake.containsAll(to) || to.contains(singer)) return STATE;
        if (to.size() > 1 && to.stream().anyMatch(i -> at(i).kind == 4)) return STATE;
        int minutes = to.stream().mapToInt(i -> at(i).needs()).max().getAsInt();
        return minutes > at(singer).voice ? STATE : minutes;
    }

    public int sing(int singer, int whom) {
        int minutes = song(whoAreAwake(), singer, whom);
        if (minutes < 0) return minutes;
        all.minute += minutes;
        at(singer).sung += minutes;
        for (int i : members(whom)) {
            Person p = at(i);
            p.awake = false;
            if (p.kind == 5) {
                p.purse -= 2 * p.needs();
                at(singer).purse += 2 * p.needs();
            } else {
                all.owe(i, singer, Math.min(9999, all.owed(i, singer) + p.needs()));
            }
        }
        return minutes;
    }

    public int may(int singer, int whom) {
        int minutes = song(whoAreAwake(), singer, whom);
        return minutes == BAD ? BAD : minutes == STATE ? 0 : 1;
    }

    public int wake(int person) {
        if (!is(person)) return BAD;
        if (at(person).awake) return 0;
        at(person).awake = true;
        return 1;
    }

    public int night(int what) {
        switch (what) {
            case 0: return all.minute;
            case 1: return awakeSet();
            case 2: return whoAreAwake().size() < 2 ? 1 : 0;
            case 3: return all.people.stream().mapToInt(p -> p.sung).sum();
            default: return BAD;
        }
    }

    public int day() {
        List<Integer> awake = whoAreAwake();
        int last = awake.size() == 1 ? awake.get(0) : -9;
        if (last >= 0) at(last).lasts++;
        for (Person p : all.people) {
            p.awake = true;
            p.sung = 0;
        }
        all.minute = 0;
        int people = all.people.size();
        for (int i = 0; i < people; i++) {
            for (int k = i + 1; k < people; k++) {
                int there = all.owed(i, k);
                int back = all.owed(k, i);
                all.owe(i, k, there > back ? there - back : 0);
                all.owe(k, i, back > there ? back - there : 0);
            }
        }
        return last;
    }

    public int owed(int who, int whom) {
        return !is(who) || !is(whom) || who == whom ? BAD : all.owed(who, whom);
    }

    public int owe(int who, int whom, int v) {
        if (!is(who) || !is(whom) || who == whom || v < 0 || v > 9999) return BAD;
        int was = all.owed(who, whom);
        all.owe(who, whom, v);
        return was;
    }

    public int ring() {
        for (int told = 0; told < 1000; told++) {
            int[] three = {told / 100, told / 10 % 10, told % 10};
            if (!Arrays.stream(three).allMatch(this::is) || Arrays.stream(three).distinct().count() < 3) continue;
            int least = 10000;
            for (int i = 0; i < 3; i++) least = Math.min(least, all.owed(three[i], three[(i + 1) % 3]));
            if (least == 0) continue;
            for (int i = 0; i < 3; i++) {
                int next = three[(i + 1) % 3];
                all.owe(three[i], next, all.owed(three[i], next) - least);
            }
            return told;
        }
        return NONE;
    }

    // ---- what would be

    private PlainNights nights(int awake, int silent, int voice) {
        int people = all.people.size();
        int[] needs = new int[people];
        int[] voices = new int[people];
        boolean[] deaf = new boolean[people];
        for (int i = 0; i < people; i++) {
            needs[i] = at(i).needs();
            voices[i] = i == silent ? -1 : voice >= 0 ? voice : at(i).voice;
            deaf[i] = at(i).kind == 4;
        }
        return new PlainNights(needs, voices, deaf, awake);
    }

    private PlainNights nights() {
        return nights(awakeSet(), -1, -1);
    }

    public int least() {
        return nights().least();
    }

    public int plan(int what) {
        boolean known = what == 0 || what == 1 || what >= 10 && what <= 17 || what >= 20 && what <= 27;
        if (!known) return BAD;
        List<PlainNights.Song> plan = nights().plan();
        if (plan == null) return NONE;
        if (what == 0) return plan.size();
        if (what == 1) {
            List<Integer> awake = whoAreAwake();
            for (PlainNights.Song song : plan) awake.removeAll(members(song.whom()));
            return awake.isEmpty() ? -9 : awake.get(0);
        }
        if (what % 10 >= plan.size()) return NONE;
        PlainNights.Song song = plan.get(what % 10);
        return what < 20 ? song.singer() : song.whom();
    }

    public int last() {
        PlainNights nights = nights();
        int set = 0;
        for (int i : whoAreAwake()) {
            if (nights.leastWith(i) != NONE && nights.leastWith(i) == nights.least()) set |= 1 << i;
        }
        return set;
    }

    public int with(int person) {
        return is(person) ? nights().leastWith(person) : BAD;
    }

    public int silent(int person) {
        return is(person) ? nights(awakeSet(), person, -1).least() : BAD;
    }

    public int ways() {
        return (int) Math.min(1000000, nights().ways());
    }

    public int inTurn() {
        PlainNights nights = nights();
        return whoAreAwake().stream().filter(i -> nights.leastWith(i) != NONE)
            .min((i, k) -> Integer.compare(at(i).lasts, at(k).lasts)).orElse(NONE);
    }

    public int dearest() {
        int least = least();
        if (least == NONE) return NONE;
        int who = NONE;
        int most = Integer.MIN_VALUE;
        for (int i : whoAreAwake()) {
            int without = nights(awakeSet() & ~(1 << i), -1, -1).least();
            if (without != NONE && least - without > most) {
                most = least - without;
                who = i;
            }
        }
        return who;
    }

    public int hoarse() {
        int voice = 200;
        if (nights(awakeSet(), -1, voice).least() == NONE) return NONE;
        // Only a voice that just suffices for somebody can be the least.
        List<Integer> needs = new ArrayList<>(List.of(0));
        for (int i : whoAreAwake()) needs.add(at(i).needs());
        for (int v : needs) {
            if (v < voice && nights(awakeSet(), -1, v).least() != NONE) voice = v;
        }
        return voice;
    }

    public int tent() {
        return tent(whoAreAwake());
    }

    /** The stranger parts those who are to sleep into groups: the group of the first of them is tried in all ways. */
    private int tent(List<Integer> awake) {
        int least = Integer.MAX_VALUE;
        if (awake.size() <= 1) return 0;
        for (int left : awake) {
            List<Integer> rest = new ArrayList<>(awake);
            rest.remove((Integer) left);
            least = Math.min(least, grouped(rest));
        }
        return least;
    }

    private int grouped(List<Integer> rest) {
        if (rest.isEmpty()) return 0;
        int least = Integer.MAX_VALUE;
        int set = rest.stream().mapToInt(i -> 1 << i).sum();
        for (int whom = 1; whom <= set; whom++) {
            List<Integer> group = members(whom);
            boolean can = rest.containsAll(group) && group.contains(rest.get(0)) && group.size() <= 3
                && (group.size() == 1 || group.stream().noneMatch(i -> at(i).kind == 4));
            if (!can) continue;
            List<Integer> others = new ArrayList<>(rest);
            others.removeAll(group);
            int minutes = group.stream().mapToInt(i -> at(i).needs()).max().getAsInt();
            least = Math.min(least, minutes + grouped(others));
        }
        return least;
    }

    public int seed(int v) {
        int was = all.z;
        all.z = v;
        return was;
    }

    public int draw() {
        List<Integer> awake = whoAreAwake();
        if (awake.isEmpty()) return NONE;
        all.z = (int) (all.z * 1103515245L + 12345);
        return awake.get((int) ((all.z & 0xffffffffL) / 65536 % awake.size()));
    }

    // ---- rows

    public int prove() {
        List<PlainNights.Song> plan = nights().plan();
        if (plan == null) return NONE;
        rows = new ArrayList<>();
        int minute = all.minute;
        for (PlainNights.Song song : plan) {
            minute += song.minutes();
            rows.add(new int[] {song.singer(), song.whom(), minute});
        }
        return rows.size();
    }

    public int row(int i, int what) {
        return i < 0 || i >= rows.size() || what < 0 || what > 2 ? -9 : rows.get(i)[what];
    }

    public int alterRow(int i, int what, int v) {
        if (i < 0 || i >= rows.size() || what < 0 || what > 2) return -9;
        int was = rows.get(i)[what];
        rows.get(i)[what] = v;
        return was;
    }

    public int judge() {
        List<Integer> awake = whoAreAwake();
        int minute = all.minute;
        for (int i = 0; i < rows.size(); i++) {
            int[] row = rows.get(i);
            int minutes = song(awake, row[0], row[1]);
            if (awake.size() < 2 || minutes < 0 || row[2] != minute + minutes) return i + 1;
            minute = row[2];
            awake.removeAll(members(row[1]));
        }
        return awake.size() < 2 ? 0 : 222;
    }

    public int ages(int sheet, int i, int person, int n) {
        if (sheet < 0 || sheet > 3 || !is(person) || n < 0 || n > 8 || person + n > all.people.size()) return BAD;
        Items row = sheets[sheet];
        if (row == null) return -11;
        if (row.sort() != 0) return -13;
        if (i < 0 || (long) i + n > row.items().length) return -12;
        for (int k = 0; k < n; k++) {
            long age = row.items()[i + k];
            at(person + k).age = age < 1 ? 1 : age > 90 ? 90 : (int) age;
        }
        return n;
    }

    // ---- the host

    public int sheet(int sheet, int sort, int n) {
        if (sheet < 0 || sheet > 3 || sort < -1 || sort > 3) return BAD;
        if (sort >= 0 && n > 40) return BAD;
        if (sort >= 0 && n < 0) return -14;
        sheets[sheet] = sort < 0 ? null : new Items(sort, new long[n]);
        return 1;
    }

    public int put(int sheet, int i, int v) {
        if (sheet < 0 || sheet > 3) return BAD;
        Items row = sheets[sheet];
        if (row == null) return -11;
        if (i < 0 || i >= row.items().length) return -12;
        row.items()[i] = row.sort() == 0 ? (byte) v : row.sort() == 1 ? (short) v : v;
        return 1;
    }

    public int item(int sheet, int sort, int i) {
        if (sheet < 0 || sheet > 3 || sort < 0 || sort > 3) return BAD;
        Items row = sheets[sheet];
        if (row == null) return -11;
        if (row.sort() != sort) return -13;
        return i < 0 || i >= row.items().length ? -12 : (int) row.items()[i];
    }

    public int shelf(int shelf, int what, int n) {
        if (shelf < 0 || shelf > 3 || what < 0 || what > 2) return BAD;
        if (what == 0 && !is(n) || what == 1 && (n < 0 || n > 3)) return BAD;
        shelves[shelf] = what == 0 ? (Object) n : what == 1 ? sheets[n] : null;
        return 1;
    }

    /** The number of a person, a row, or null. */
    private Object thing(int shelf) {
        Object thing = shelves[shelf];
        return thing instanceof Integer && !is((Integer) thing) ? null : thing;
    }

    public int taken(int shelf, int as) {
        if (shelf < 0 || shelf > 3 || as < 0 || as > 5 && as < 10 || as > 13) return BAD;
        Object thing = thing(shelf);
        if (thing == null) return -11;
        if (thing instanceof Items row) return row.sort() == as - 10 ? row.items().length : -13;
        int n = (Integer) thing;
        return as <= 5 && PlainActs.isUnder(at(n).kind, as) ? n : -13;
    }

    public int act(int shelf, int act, int x) {
        trace = List.of();
        if (shelf < 0 || shelf > 3 || act < 0 || act > 3 || !(thing(shelf) instanceof Integer)) return 0;
        int n = (Integer) thing(shelf);
        PlainActs acts = new PlainActs(at(n).kind, n, at(n).age);
        trace = acts.trace;
        try {
            return acts.act(act, x);
        } catch (PlainActs.Parted e) {
            return -15;
        }
    }

    public int trace(int i) {
        return i >= 0 && i < many(4) ? trace.get(i) : NONE;
    }

    public int many(int what) {
        switch (what) {
            case 0: return all.people.size();
            case 1: return whoAreAwake().size();
            case 2: return rows.size();
            case 3: return tape.length();
            case 4: return Math.min(30, trace.size());
            default: return BAD;
        }
    }

    // ---- kept

    public int keep() {
        kept = all.copy();
        return 1;
    }

    public int again() {
        if (kept == null) return NONE;
        all = kept.copy();
        return all.people.size();
    }
}
