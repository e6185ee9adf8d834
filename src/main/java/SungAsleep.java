/** A valley in which nobody falls asleep but by being sung to by somebody awake. */
public final class SungAsleep {
    public static final int BAD = -1, FULL = -2, NONE = -3, STATE = -4;

    private static final int NO_SUCH = -9;
    private static final int NOTHING = -11, OUTSIDE = -12, OTHER = -13, SIZE_BELOW = -14, PARTED_BY_0 = -15;
    private static final int FAULTS = -100, NOT_OVER = 222;

    private static final int PEOPLE = 8, EVERYBODY = 255, KINDS = 6;
    private static final int MOST_AGE = 90, MOST_VOICE = 200, MOST_PURSE = 9999, MOST_LASTS = 999, MOST_OWED = 9999;
    private static final int PURSE_SHIFT = 100000;
    private static final int TAPE = 200, MOST_TOLD = 999, PLACES = 4, MOST_ITEMS = 40, SORTS = 4, BODIES = 30;
    private static final int MOST_WAYS = 1000000;
    private static final int OWN_VOICE = -1, ENDLESS = 1000;

    private Valley now = new Valley();
    private Valley kept;
    private final Reckoner reckoner = new Reckoner();
    private final Tape tape = new Tape();
    private final Trace bodies = new Trace();
    private final int[] rows = new int[3 * PEOPLE];
    private int rowCount;
    private final Row[] sheets = new Row[PLACES];
    private final Row[] shelfRows = new Row[PLACES];
    private final int[] shelfPeople = {-1, -1, -1, -1};

    public SungAsleep() {
    }

    // ---- the valley

    public int feed(long eight, int n) {
        if (n < 1 || n > 8) return BAD;
        if (tape.size + n > TAPE) return FULL;
        for (int i = 0; i < n; i++) {
            tape.append((int) (eight >>> 8 * i) & 255);
        }
        return tape.size;
    }

    public int valley() {
        Valley told = new Valley();
        told.z = now.z;
        int fault = tape.faultOf(told);
        tape.size = 0;
        if (fault >= 0) return FAULTS - fault;
        now = told;
        rowCount = 0;
        return now.size;
    }

    public int person(int kind, int age) {
        if (kind < 0 || kind >= KINDS || age < 1 || age > MOST_AGE) return BAD;
        if (now.size >= PEOPLE) return FULL;
        now.join(made(kind, now.size, age));
        return now.size - 1;
    }

    public int personOf(int person, int what) {
        Sleeper p = now.at(person);
        if (p == null) return BAD;
        switch (what) {
            case 0: return p.kind();
            case 1: return p.age;
            case 2: return p.voice;
            case 3: return p.minutes();
            case 4: return p.sung;
            case 5: return p.lasts;
            case 6: return p.awake ? 1 : 0;
            case 7: return p.purse + PURSE_SHIFT;
            default: return BAD;
        }
    }

    public int voice(int person, int v) {
        Sleeper p = now.at(person);
        if (p == null || v < 0 || v > MOST_VOICE) return BAD;
        int was = p.voice;
        p.voice = v;
        return was;
    }

    public int purse(int person, int v) {
        Sleeper p = now.at(person);
        if (p == null || v < -MOST_PURSE || v > MOST_PURSE) return BAD;
        int was = p.purse;
        p.purse = v;
        return was + PURSE_SHIFT;
    }

    public int turn(int person, int kind) {
        Sleeper p = now.at(person);
        if (p == null || kind < 0 || kind >= KINDS) return BAD;
        int was = p.kind();
        now.people[person] = likeness(p, kind);
        return was;
    }

    public int older() {
        int sum = 0;
        for (int i = 0; i < PEOPLE; i++) {
            Sleeper p = now.at(i);
            if (p != null) {
                p.age = Math.min(MOST_AGE, p.age + 1);
                sum += p.age;
            }
        }
        return sum;
    }

    public int lasts(int person, int v) {
        Sleeper p = now.at(person);
        if (p == null || v < 0 || v > MOST_LASTS) return BAD;
        int was = p.lasts;
        p.lasts = v;
        return was;
    }

    // ---- nights

    public int sing(int singer, int whom) {
        int minutes = now.songMinutes(now.awakeSet(), singer, whom);
        if (minutes > 0) now.settleSong(singer, whom, minutes);
        return minutes;
    }

    public int may(int singer, int whom) {
        int minutes = now.songMinutes(now.awakeSet(), singer, whom);
        if (minutes == BAD) return BAD;
        return minutes > 0 ? 1 : 0;
    }

    public int wake(int person) {
        Sleeper p = now.at(person);
        if (p == null) return BAD;
        if (p.awake) return 0;
        p.awake = true;
        return 1;
    }

    public int night(int what) {
        switch (what) {
            case 0: return now.minute;
            case 1: return now.awakeSet();
            case 2: return isOver(now.awakeSet()) ? 1 : 0;
            case 3: return now.sungByAll();
            default: return BAD;
        }
    }

    public int day() {
        int awake = now.awakeSet();
        int last = Integer.bitCount(awake) == 1 ? Integer.numberOfTrailingZeros(awake) : NO_SUCH;
        Sleeper p = now.at(last);
        if (p != null) p.lasts++;
        now.beginDay();
        return last;
    }

    public int owed(int who, int whom) {
        if (!isPair(who, whom)) return BAD;
        return now.debt(who, whom);
    }

    public int owe(int who, int whom, int v) {
        if (!isPair(who, whom) || v < 0 || v > MOST_OWED) return BAD;
        int was = now.debt(who, whom);
        now.setDebt(who, whom, v);
        return was;
    }

    public int ring() {
        for (int first = 0; first < now.size; first++) {
            for (int second = 0; second < now.size; second++) {
                int third = now.debt(first, second) > 0 ? now.thirdOfRing(first, second) : -1;
                if (third >= 0) {
                    now.clearRing(first, second, third);
                    return 100 * first + 10 * second + third;
                }
            }
        }
        return NONE;
    }

    private boolean isPair(int who, int whom) {
        return who != whom && now.at(who) != null && now.at(whom) != null;
    }

    private static boolean isOver(int awake) {
        return Integer.bitCount(awake) <= 1;
    }

    // ---- what would be

    public int least() {
        return fewestMinutes(EVERYBODY, OWN_VOICE, EVERYBODY);
    }

    public int plan(int what) {
        int i = what % 10;
        boolean ofSong = what >= 10 && what <= 27 && i <= 7;
        if (what != 0 && what != 1 && !ofSong) return BAD;
        if (least() == NONE) return NONE;
        reckoner.layPlan();
        if (what == 0) return reckoner.planSize;
        if (what == 1) return reckoner.planLast();
        if (i < 0 || i >= reckoner.planSize) return NONE;
        return what < 20 ? reckoner.planSinger[i] : reckoner.planWhom[i];
    }

    public int last() {
        return least() == NONE ? 0 : reckoner.lastsOf(now.awakeSet());
    }

    public int with(int person) {
        if (now.at(person) == null) return BAD;
        return fewestMinutes(EVERYBODY, OWN_VOICE, 1 << person);
    }

    public int silent(int person) {
        if (now.at(person) == null) return BAD;
        return fewestMinutes(EVERYBODY & ~(1 << person), OWN_VOICE, EVERYBODY);
    }

    public int ways() {
        return least() == NONE ? 0 : reckoner.waysOf(now.awakeSet());
    }

    public int inTurn() {
        if (least() == NONE) return NONE;
        int ends = reckoner.endsOf(now.awakeSet());
        int who = NONE;
        int fewest = 0;
        for (int i = 0; i < PEOPLE; i++) {
            Sleeper p = now.at(i);
            if (p != null && (ends >> i & 1) == 1 && (who == NONE || p.lasts < fewest)) {
                who = i;
                fewest = p.lasts;
            }
        }
        return who;
    }

    public int dearest() {
        if (least() == NONE) return NONE;
        int awake = now.awakeSet();
        int who = NONE;
        int fewest = 0;
        for (int i = 0; i < PEOPLE; i++) {
            if ((awake >> i & 1) == 1) {
                int without = reckoner.leastOf(awake & ~(1 << i));
                if (without != NONE && (who == NONE || without < fewest)) {
                    who = i;
                    fewest = without;
                }
            }
        }
        return who;
    }

    /** With one voice for all, the one who needs most may be last: the second of the needs decides. */
    public int hoarse() {
        int most = 0;
        int second = 0;
        for (int i = 0; i < PEOPLE; i++) {
            Sleeper p = now.at(i);
            if (p != null && p.awake) {
                int minutes = p.minutes();
                second = Math.max(second, Math.min(most, minutes));
                most = Math.max(most, minutes);
            }
        }
        return second <= MOST_VOICE ? second : NONE;
    }

    /** Whoever is left awake could sing all the stranger's songs with a voice without end, and the other way round. */
    public int tent() {
        return fewestMinutes(EVERYBODY, ENDLESS, EVERYBODY);
    }

    public int seed(int v) {
        int was = now.z;
        now.z = v;
        return was;
    }

    public int draw() {
        int awake = now.awakeSet();
        int count = Integer.bitCount(awake);
        if (count == 0) return NONE;
        now.z = now.z * 1103515245 + 12345;
        int place = (now.z >>> 16) % count;
        int who = NONE;
        for (int i = 0; i < PEOPLE; i++) {
            if ((awake >> i & 1) == 1) {
                if (place == 0) who = i;
                place--;
            }
        }
        return who;
    }

    private int fewestMinutes(int singers, int voice, int ends) {
        reckoner.ask(now, singers, voice, ends);
        return reckoner.leastOf(now.awakeSet());
    }

    // ---- rows

    public int prove() {
        if (least() == NONE) return NONE;
        reckoner.layPlan();
        int minute = now.minute;
        for (int i = 0; i < reckoner.planSize; i++) {
            minute += now.neededBy(reckoner.planWhom[i]);
            rows[3 * i] = reckoner.planSinger[i];
            rows[3 * i + 1] = reckoner.planWhom[i];
            rows[3 * i + 2] = minute;
        }
        rowCount = reckoner.planSize;
        return rowCount;
    }

    public int row(int i, int what) {
        return isInRow(i, what) ? rows[3 * i + what] : NO_SUCH;
    }

    public int alterRow(int i, int what, int v) {
        if (!isInRow(i, what)) return NO_SUCH;
        int was = rows[3 * i + what];
        rows[3 * i + what] = v;
        return was;
    }

    public int judge() {
        int awake = now.awakeSet();
        int minute = now.minute;
        for (int i = 0; i < rowCount; i++) {
            int whom = rows[3 * i + 1];
            int minutes = now.songMinutes(awake, rows[3 * i], whom);
            if (minutes < 0 || minute + minutes != rows[3 * i + 2]) return i + 1;
            minute += minutes;
            awake &= ~whom;
        }
        return isOver(awake) ? 0 : NOT_OVER;
    }

    public int ages(int sheet, int i, int person, int n) {
        if (!isPlace(sheet) || now.at(person) == null || n < 0 || n > PEOPLE || person + n > now.size) return BAD;
        Row row = sheets[sheet];
        if (row == null) return NOTHING;
        if (row.sort != 0) return OTHER;
        if (i < 0 || i > row.items.length - n) return OUTSIDE;
        for (int k = 0; k < n; k++) {
            Sleeper p = now.at(person + k);
            if (p != null) p.age = (int) Math.max(1, Math.min(MOST_AGE, row.items[i + k]));
        }
        return n;
    }

    private boolean isInRow(int i, int what) {
        return i >= 0 && i < rowCount && what >= 0 && what <= 2;
    }

    // ---- the host

    public int sheet(int sheet, int sort, int n) {
        if (!isPlace(sheet) || sort < -1 || sort >= SORTS) return BAD;
        if (sort == -1) {
            sheets[sheet] = null;
            return 1;
        }
        if (n > MOST_ITEMS) return BAD;
        if (n < 0) return SIZE_BELOW;
        sheets[sheet] = new Row(sort, n);
        return 1;
    }

    public int put(int sheet, int i, int v) {
        if (!isPlace(sheet)) return BAD;
        Row row = sheets[sheet];
        if (row == null) return NOTHING;
        if (!row.has(i)) return OUTSIDE;
        row.items[i] = row.narrowed(v);
        return 1;
    }

    public int item(int sheet, int sort, int i) {
        if (!isPlace(sheet) || sort < 0 || sort >= SORTS) return BAD;
        Row row = sheets[sheet];
        if (row == null) return NOTHING;
        if (row.sort != sort) return OTHER;
        return row.has(i) ? (int) row.items[i] : OUTSIDE;
    }

    public int shelf(int shelf, int what, int n) {
        if (!isPlace(shelf) || what < 0 || what > 2) return BAD;
        if (what == 0 && now.at(n) == null) return BAD;
        if (what == 1 && !isPlace(n)) return BAD;
        shelfPeople[shelf] = what == 0 ? n : -1;
        shelfRows[shelf] = what == 1 ? sheets[n] : null;
        return 1;
    }

    public int taken(int shelf, int as) {
        boolean asKind = as >= 0 && as < KINDS;
        boolean asSort = as >= 10 && as < 10 + SORTS;
        if (!isPlace(shelf) || !asKind && !asSort) return BAD;
        Sleeper p = now.at(shelfPeople[shelf]);
        Row row = shelfRows[shelf];
        if (p != null) return asKind && isOfKind(p, as) ? p.number : OTHER;
        if (row != null) return asSort && row.sort == as - 10 ? row.items.length : OTHER;
        return NOTHING;
    }

    public int act(int shelf, int act, int x) {
        bodies.clear();
        Sleeper p = isPlace(shelf) ? now.at(shelfPeople[shelf]) : null;
        if (p == null) return 0;
        int answer = 0;
        switch (act) {
            case 0: answer = p.sings(bodies, x); break;
            case 1: answer = p.needs(bodies, x); break;
            case 2: answer = p.shares(bodies, x); break;
            case 3: answer = p.tells(bodies, x); break;
            default: break;
        }
        return bodies.broken ? PARTED_BY_0 : answer;
    }

    public int trace(int i) {
        return i >= 0 && i < bodies.size ? bodies.begun[i] : NONE;
    }

    public int many(int what) {
        switch (what) {
            case 0: return now.size;
            case 1: return Integer.bitCount(now.awakeSet());
            case 2: return rowCount;
            case 3: return tape.size;
            case 4: return bodies.size;
            default: return BAD;
        }
    }

    private static boolean isPlace(int place) {
        return place >= 0 && place < PLACES;
    }

    // ---- kept

    public int keep() {
        kept = now.copied();
        return 1;
    }

    public int again() {
        if (kept == null) return NONE;
        now = kept.copied();
        return now.size;
    }

    // ---- people

    private static Sleeper made(int kind, int number, int age) {
        switch (kind) {
            case 1: return new Child(number, age);
            case 2: return new Old(number, age);
            case 3: return new Restless(number, age);
            case 4: return new Deaf(number, age);
            case 5: return new Traveller(number, age);
            default: return new Sleeper(number, age);
        }
    }

    private static Sleeper likeness(Sleeper p, int kind) {
        Sleeper like = made(kind, p.number, p.age);
        like.voice = p.voice;
        like.purse = p.purse;
        like.lasts = p.lasts;
        like.sung = p.sung;
        like.awake = p.awake;
        return like;
    }

    private static boolean isOfKind(Sleeper p, int kind) {
        switch (kind) {
            case 0: return true;
            case 1: return p instanceof Child;
            case 2: return p instanceof Old;
            case 3: return p instanceof Restless;
            case 4: return p instanceof Deaf;
            case 5: return p instanceof Traveller;
            default: return false;
        }
    }

    private static class Sleeper {
        final int number;
        int age;
        int voice = 100;
        int purse;
        int lasts;
        int sung;
        boolean awake = true;

        Sleeper(int number, int age) {
            this.number = number;
            this.age = age;
        }

        int kind() {
            return 0;
        }

        int minutes() {
            return age;
        }

        boolean alone() {
            return false;
        }

        boolean pays() {
            return false;
        }

        /** A deaf one's tells() ends seven bodies deep here: it notes itself, so that calls go no deeper. */
        int sings(Trace t, int x) {
            if (t.broken) return 0;
            if (t.size < BODIES) t.begun[t.size++] = 10;
            return x + number;
        }

        int needs(Trace t, int x) {
            return t.begins(11) ? sings(t, x) * 2 : 0;
        }

        int shares(Trace t, int x) {
            return t.begins(12) ? t.parted(x, age - number) : 0;
        }

        int tells(Trace t, int x) {
            return t.begins(13) ? needs(t, x) ^ age : 0;
        }
    }

    private static class Child extends Sleeper {
        Child(int number, int age) {
            super(number, age);
        }

        @Override
        int kind() {
            return 1;
        }

        @Override
        int minutes() {
            return super.minutes() / 2 + 1;
        }

        @Override
        int needs(Trace t, int x) {
            return t.begins(20) ? super.needs(t, x) - age : 0;
        }
    }

    private static class Old extends Sleeper {
        Old(int number, int age) {
            super(number, age);
        }

        @Override
        int kind() {
            return 2;
        }

        @Override
        int minutes() {
            return super.minutes() + 5;
        }

        @Override
        int sings(Trace t, int x) {
            return t.begins(30) ? super.sings(t, x) * 3 : 0;
        }

        @Override
        int tells(Trace t, int x) {
            return t.begins(31) ? super.tells(t, x) + shares(t, number) : 0;
        }
    }

    private static final class Restless extends Child {
        Restless(int number, int age) {
            super(number, age);
        }

        @Override
        int kind() {
            return 3;
        }

        @Override
        int minutes() {
            return 2 * super.minutes();
        }

        @Override
        int shares(Trace t, int x) {
            return t.begins(50) ? super.shares(t, x + 2) ^ 1 : 0;
        }

        @Override
        int sings(Trace t, int x) {
            return t.begins(51) ? super.sings(t, x) - number : 0;
        }
    }

    private static final class Deaf extends Old {
        Deaf(int number, int age) {
            super(number, age);
        }

        @Override
        int kind() {
            return 4;
        }

        @Override
        boolean alone() {
            return true;
        }

        @Override
        int sings(Trace t, int x) {
            return t.begins(40) ? 0 - super.sings(t, x) : 0;
        }

        @Override
        int needs(Trace t, int x) {
            return t.begins(41) ? super.needs(t, x) + sings(t, number) : 0;
        }
    }

    private static final class Traveller extends Sleeper {
        Traveller(int number, int age) {
            super(number, age);
        }

        @Override
        int kind() {
            return 5;
        }

        @Override
        boolean pays() {
            return true;
        }

        @Override
        int tells(Trace t, int x) {
            return t.begins(60) ? super.tells(t, x) * 2 : 0;
        }

        @Override
        int shares(Trace t, int x) {
            return t.begins(61) ? super.shares(t, x) + sings(t, age) : 0;
        }
    }

    /** The bodies that ran; once something was parted by 0 no further body begins, as if the act had been left. */
    private static final class Trace {
        final int[] begun = new int[BODIES];
        int size;
        boolean broken;

        void clear() {
            size = 0;
            broken = false;
        }

        boolean begins(int body) {
            if (broken) return false;
            if (size < BODIES) {
                begun[size] = body;
                size++;
            }
            return true;
        }

        int parted(int x, int by) {
            if (by == 0) {
                broken = true;
                return 0;
            }
            return x / by;
        }
    }

    /** A row of a sheet; a shelf may hold it when the sheet has another one already. */
    private static final class Row {
        final int sort;
        final long[] items;

        Row(int sort, int n) {
            this.sort = sort;
            this.items = new long[Math.max(0, n)];
        }

        boolean has(int i) {
            return i >= 0 && i < items.length;
        }

        long narrowed(int v) {
            switch (sort) {
                case 0: return (byte) v;
                case 1: return (short) v;
                default: return v;
            }
        }
    }

    /** All that keep() keeps: people, the night, what is owed, and z. */
    private static final class Valley {
        final Sleeper[] people = new Sleeper[PEOPLE];
        final int[] debts = new int[PEOPLE * PEOPLE];
        int size;
        int minute;
        int z = 1;

        Sleeper at(int person) {
            return person >= 0 && person < size ? people[person] : null;
        }

        void join(Sleeper p) {
            if (size >= PEOPLE) return;
            people[size] = p;
            size++;
        }

        int awakeSet() {
            int set = 0;
            for (int i = 0; i < size; i++) {
                Sleeper p = people[i];
                if (p != null && p.awake) set |= 1 << i;
            }
            return set;
        }

        int aloneSet() {
            int set = 0;
            for (int i = 0; i < size; i++) {
                Sleeper p = people[i];
                if (p != null && p.alone()) set |= 1 << i;
            }
            return set;
        }

        int sungByAll() {
            int sum = 0;
            for (int i = 0; i < size; i++) {
                Sleeper p = people[i];
                if (p != null) sum += p.sung;
            }
            return sum;
        }

        /** How long a song to all of these lasts; 0 if a deaf one isn't alone. */
        int neededBy(int whom) {
            boolean several = Integer.bitCount(whom) > 1;
            int most = 0;
            for (int i = 0; i < size; i++) {
                Sleeper p = people[i];
                if (p != null && (whom >> i & 1) == 1) {
                    if (several && p.alone()) return 0;
                    most = Math.max(most, p.minutes());
                }
            }
            return most;
        }

        /** The minutes of a song while just these are awake, or BAD or STATE. */
        int songMinutes(int awake, int singer, int whom) {
            Sleeper p = at(singer);
            int count = Integer.bitCount(whom);
            int all = (1 << size) - 1;
            if (p == null || count < 1 || count > 3 || (whom & ~all) != 0) return BAD;
            int bit = 1 << singer;
            if ((awake & bit) == 0 || (whom & bit) != 0 || (whom & ~awake) != 0) return STATE;
            int minutes = neededBy(whom);
            return minutes < 1 || minutes > p.voice ? STATE : minutes;
        }

        void settleSong(int singer, int whom, int minutes) {
            Sleeper s = at(singer);
            if (s == null) return;
            minute += minutes;
            s.sung += minutes;
            for (int i = 0; i < size; i++) {
                Sleeper p = people[i];
                if (p != null && (whom >> i & 1) == 1) {
                    p.awake = false;
                    settleWith(s, p);
                }
            }
        }

        private void settleWith(Sleeper singer, Sleeper p) {
            int minutes = p.minutes();
            if (p.pays()) {
                p.purse -= 2 * minutes;
                singer.purse += 2 * minutes;
            } else {
                setDebt(p.number, singer.number, Math.min(MOST_OWED, debt(p.number, singer.number) + minutes));
            }
        }

        void beginDay() {
            minute = 0;
            for (int i = 0; i < size; i++) {
                Sleeper p = people[i];
                if (p != null) {
                    p.awake = true;
                    p.sung = 0;
                }
                for (int k = 0; k < i; k++) {
                    int lesser = Math.min(debt(i, k), debt(k, i));
                    lessen(i, k, lesser);
                    lessen(k, i, lesser);
                }
            }
        }

        int debt(int who, int whom) {
            return at(who) == null || at(whom) == null ? 0 : debts[PEOPLE * who + whom];
        }

        void setDebt(int who, int whom, int v) {
            if (at(who) != null && at(whom) != null) debts[PEOPLE * who + whom] = v;
        }

        private void lessen(int who, int whom, int by) {
            setDebt(who, whom, debt(who, whom) - by);
        }

        /** The first who closes a ring with these two, or -1; nobody owes oneself, so the three are unlike. */
        int thirdOfRing(int first, int second) {
            for (int third = 0; third < size; third++) {
                if (debt(second, third) > 0 && debt(third, first) > 0) return third;
            }
            return -1;
        }

        void clearRing(int first, int second, int third) {
            int ofTwo = Math.min(debt(first, second), debt(second, third));
            int smallest = Math.min(ofTwo, debt(third, first));
            lessen(first, second, smallest);
            lessen(second, third, smallest);
            lessen(third, first, smallest);
        }

        Valley copied() {
            Valley copy = new Valley();
            copy.size = size;
            copy.minute = minute;
            copy.z = z;
            System.arraycopy(debts, 0, copy.debts, 0, debts.length);
            for (int i = 0; i < size; i++) {
                Sleeper p = people[i];
                if (p != null) copy.people[i] = likeness(p, p.kind());
            }
            return copy;
        }
    }

    /** What nights can become: for each set of people awake, reckoned from the smaller sets on. */
    private static final class Reckoner {
        private static final int SETS = 92;
        private static final int NEVER = 1000000;

        private final int[] asked = new int[2 * PEOPLE + 2];
        private int awake;
        private int alone;
        private final int[] sets = new int[SETS];
        private int setCount;
        private final int[] minutes = new int[EVERYBODY + 1];
        private final int[] able = new int[EVERYBODY + 1];
        private final int[] fewest = new int[EVERYBODY + 1];
        private final int[] songs = new int[EVERYBODY + 1];
        private final int[] rowsToIt = new int[EVERYBODY + 1];
        private final int[] bestEnds = new int[EVERYBODY + 1];
        private final int[] anyEnds = new int[EVERYBODY + 1];
        final int[] planSinger = new int[PEOPLE];
        final int[] planWhom = new int[PEOPLE];
        int planSize;

        /** Of the valley's nights those in which only these sing and only one of these is last. */
        void ask(Valley v, int singers, int voice, int ends) {
            awake = v.awakeSet();
            alone = v.aloneSet();
            // The set of ends is never 0, so the first question differs from the zeros that stand here.
            boolean fresh = note(2 * PEOPLE, ends) | note(2 * PEOPLE + 1, alone);
            for (int i = 0; i < PEOPLE; i++) {
                Sleeper p = v.at(i);
                boolean there = p != null && p.awake;
                boolean sings = there && (singers >> i & 1) == 1;
                fresh |= note(i, there ? p.minutes() : 0);
                fresh |= note(PEOPLE + i, !sings ? -1 : voice == OWN_VOICE ? p.voice : voice);
            }
            if (fresh) reckon(ends);
        }

        /** Whether this differs from the question before: the same one need not be reckoned again. */
        private boolean note(int place, int v) {
            boolean differs = asked[place] != v;
            asked[place] = v;
            return differs;
        }

        private void reckon(int ends) {
            listSongs();
            for (int set = 0; set <= EVERYBODY; set++) {
                if ((set & ~awake) == 0) reckonSet(set, ends);
            }
        }

        private void listSongs() {
            setCount = 0;
            for (int set = 1; set <= EVERYBODY; set++) {
                if ((set & ~awake) == 0) {
                    int lowest = Integer.numberOfTrailingZeros(set);
                    minutes[set] = Math.max(minutes[set & ~(1 << lowest)], asked[lowest]);
                    if (isSungTo(set) && setCount < SETS) {
                        able[set] = ableFor(minutes[set]);
                        sets[setCount] = set;
                        setCount++;
                    }
                }
            }
        }

        private boolean isSungTo(int set) {
            int count = Integer.bitCount(set);
            return count == 1 || count <= 3 && (set & alone) == 0;
        }

        private int ableFor(int needed) {
            int set = 0;
            for (int i = 0; i < PEOPLE; i++) {
                if (asked[PEOPLE + i] >= needed) set |= 1 << i;
            }
            return set;
        }

        private void reckonSet(int set, int ends) {
            boolean ended = isOver(set) && (set == 0 || (set & ends) != 0);
            fewest[set] = ended ? 0 : NEVER;
            songs[set] = 0;
            rowsToIt[set] = ended ? 1 : 0;
            bestEnds[set] = ended ? set : 0;
            anyEnds[set] = bestEnds[set];
            if (isOver(set)) return;
            for (int k = 0; k < setCount && sets[k] < set; k++) {
                if ((sets[k] & ~set) == 0) weigh(set, sets[k]);
            }
        }

        private void weigh(int set, int whom) {
            int rest = set & ~whom;
            int singers = Integer.bitCount(able[whom] & rest);
            if (singers == 0 || fewest[rest] == NEVER) return;
            anyEnds[set] |= anyEnds[rest];
            int total = minutes[whom] + fewest[rest];
            if (total > fewest[set]) return;
            if (total < fewest[set]) {
                fewest[set] = total;
                songs[set] = PEOPLE;
                rowsToIt[set] = 0;
                bestEnds[set] = 0;
            }
            songs[set] = Math.min(songs[set], songs[rest] + 1);
            rowsToIt[set] = Math.min(MOST_WAYS, rowsToIt[set] + singers * rowsToIt[rest]);
            bestEnds[set] |= bestEnds[rest];
        }

        int leastOf(int set) {
            int least = (set & ~awake) == 0 ? fewest[set] : NEVER;
            return least == NEVER ? NONE : least;
        }

        int waysOf(int set) {
            return (set & ~awake) == 0 ? rowsToIt[set] : 0;
        }

        int lastsOf(int set) {
            return (set & ~awake) == 0 ? bestEnds[set] : 0;
        }

        int endsOf(int set) {
            return (set & ~awake) == 0 ? anyEnds[set] : 0;
        }

        void layPlan() {
            int set = awake;
            planSize = Math.min(PEOPLE, songs[set]);
            for (int i = 0; i < planSize; i++) {
                laySong(i, set);
                set &= ~planWhom[i];
            }
        }

        private void laySong(int i, int set) {
            for (int singer = 0; singer < PEOPLE; singer++) {
                for (int k = 0; k < setCount && sets[k] < set; k++) {
                    if (isBest(set, singer, sets[k])) {
                        planSinger[i] = singer;
                        planWhom[i] = sets[k];
                        return;
                    }
                }
            }
        }

        private boolean isBest(int set, int singer, int whom) {
            int rest = set & ~whom;
            boolean sings = (whom & ~set) == 0 && (able[whom] & rest & 1 << singer) != 0;
            return sings && minutes[whom] + fewest[rest] == fewest[set] && songs[rest] + 1 == songs[set];
        }

        int planLast() {
            int set = awake;
            for (int i = 0; i < planSize; i++) set &= ~planWhom[i];
            return set == 0 ? NO_SUCH : Integer.numberOfTrailingZeros(set);
        }
    }

    /** The bytes that came, and their reading: where it stops short, its place is that of the fault. */
    private static final class Tape {
        private static final int VOICE = 6, PURSE = 7, OWES = 8, ASLEEP = 9, WORDS = 10;

        private final int[] bytes = new int[TAPE];
        int size;
        private int place;
        private int behind;

        void append(int b) {
            if (size >= TAPE) return;
            bytes[size] = b;
            size++;
        }

        /** The place of the fault, or -1; what is told comes to a valley that is new. */
        int faultOf(Valley told) {
            place = 0;
            skipBlanks();
            for (int items = 0; items < TAPE && place < size; items++) {
                int word = wordHere();
                boolean right;
                if (word == OWES) right = readsOwes(told);
                else if (word == ASLEEP) right = readsAsleep(told);
                else right = word >= 0 && word < KINDS && readsPerson(word, told);
                if (!right) return place;
            }
            return -1;
        }

        private boolean readsPerson(int kind, Valley told) {
            if (told.size >= PEOPLE) return false;
            pass();
            int age = numberHere(1, MOST_AGE);
            if (age < 0) return false;
            pass();
            Sleeper p = made(kind, told.size, age);
            told.join(p);
            return readsVoice(p) && readsPurse(p) && readsSemicolon();
        }

        private boolean readsVoice(Sleeper p) {
            if (wordHere() != VOICE) return true;
            pass();
            int voice = numberHere(0, MOST_VOICE);
            if (voice < 0) return false;
            p.voice = voice;
            pass();
            return true;
        }

        private boolean readsPurse(Sleeper p) {
            if (wordHere() != PURSE) return true;
            pass();
            int purse = numberHere(0, MOST_TOLD);
            if (purse < 0) return false;
            p.purse = purse;
            pass();
            return true;
        }

        private boolean readsOwes(Valley told) {
            pass();
            int who = numberHere(0, told.size - 1);
            if (who < 0) return false;
            pass();
            int whom = numberHere(0, told.size - 1);
            if (whom < 0 || whom == who) return false;
            pass();
            int minutes = numberHere(0, MOST_TOLD);
            if (minutes < 0) return false;
            pass();
            told.setDebt(who, whom, minutes);
            return readsSemicolon();
        }

        private boolean readsAsleep(Valley told) {
            pass();
            Sleeper p = told.at(numberHere(0, told.size - 1));
            if (p == null || !p.awake || isOver(told.awakeSet())) return false;
            p.awake = false;
            pass();
            return readsSemicolon();
        }

        private boolean readsSemicolon() {
            if (byteAt(place) != ';') return false;
            place++;
            skipBlanks();
            return true;
        }

        /** What was looked at is taken; the place is then that of the next thing, or the end. */
        private void pass() {
            place = behind;
            skipBlanks();
        }

        private void skipBlanks() {
            while (place < size && byteAt(place) == ' ') place++;
        }

        private int byteAt(int i) {
            return i >= 0 && i < size ? bytes[i] : -1;
        }

        /** Which word the name is that begins here, or -1. */
        private int wordHere() {
            behind = place;
            while (behind < size && byteAt(behind) >= 'a' && byteAt(behind) <= 'z') behind++;
            for (int word = 0; word < WORDS; word++) {
                if (isHere(nameOf(word))) return word;
            }
            return -1;
        }

        private boolean isHere(String name) {
            if (name.length() != behind - place) return false;
            for (int i = 0; i < name.length(); i++) {
                if (name.charAt(i) != byteAt(place + i)) return false;
            }
            return true;
        }

        private static String nameOf(int word) {
            switch (word) {
                case 0: return "sleeper";
                case 1: return "child";
                case 2: return "old";
                case 3: return "restless";
                case 4: return "deaf";
                case 5: return "traveller";
                case VOICE: return "voice";
                case PURSE: return "purse";
                case OWES: return "owes";
                default: return "asleep";
            }
        }

        /** The number that begins here, or -1 if there is none or it is not as told. */
        private int numberHere(int low, int high) {
            int value = 0;
            behind = place;
            while (behind < size && byteAt(behind) >= '0' && byteAt(behind) <= '9') {
                // A fourth digit is a fault anyway; adding it up could wrap.
                if (behind - place < 3) value = 10 * value + byteAt(behind) - '0';
                behind++;
            }
            int digits = behind - place;
            return digits < 1 || digits > 3 || value < low || value > high ? -1 : value;
        }
    }
}
