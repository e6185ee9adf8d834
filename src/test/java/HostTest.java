/** Promises 36 to 45: sheets, shelves, acts, counts, what is kept. */
public final class HostTest {
    private static final Check CHECK = new Check();

    public static void main(String[] args) {
        sheet();
        putAndItem();
        shelf();
        shelfKeepsItsRow();
        shelfByNumber();
        taken();
        actsOfAllKinds();
        traces();
        partedByNothing();
        actsOfNothing();
        many();
        keepAndAgain();
        keepLeavesOut();
        CHECK.end();
    }

    private static void sheet() {
        SungAsleep x = new SungAsleep();
        int[][] calls = {{0, 0, 0, 1}, {3, 3, 40, 1}, {0, 0, 41, -1}, {0, 0, -1, -14}, {0, 4, 5, -1}, {0, -2, 5, -1},
            {4, 0, 5, -1}, {-1, 0, 5, -1}, {4, 0, -1, -1}, {0, 4, -1, -1}, {0, -1, -1, 1}, {1, -1, 99, 1},
            {0, 1, Integer.MIN_VALUE, -14}, {0, 1, Integer.MAX_VALUE, -1}};
        for (int[] c : calls) CHECK.due("sheet " + c[0] + " " + c[1] + " " + c[2], x.sheet(c[0], c[1], c[2]), c[3]);
        CHECK.due("missing", x.put(0, 0, 1), -11);
        CHECK.due("all 0", x.item(3, 3, 39), 0);
        x.put(3, 39, 7);
        CHECK.due("a refusal changes nothing", x.sheet(3, 3, -1), -14);
        CHECK.due("7", x.item(3, 3, 39), 7);
        x.sheet(3, 3, 40);
        CHECK.due("all 0 anew", x.item(3, 3, 39), 0);
    }

    private static void putAndItem() {
        SungAsleep x = new SungAsleep();
        for (int sort = 0; sort < 4; sort++) x.sheet(sort, sort, 3);
        int[] values = {0, 127, 128, -129, 40000, -40000, Integer.MIN_VALUE, Integer.MAX_VALUE, -11, -1};
        for (int v : values) {
            int[] want = {(byte) v, (short) v, v, v};
            for (int sort = 0; sort < 4; sort++) {
                CHECK.due("put", x.put(sort, 2, v), 1);
                CHECK.due("item of sort " + sort + " of " + v, x.item(sort, sort, 2), want[sort]);
                CHECK.due("its neighbour", x.item(sort, sort, 1), 0);
            }
        }
        CHECK.due("put the first", x.put(0, 0, 5), 1);
        CHECK.due("the first", x.item(0, 0, 0), 5);
        CHECK.due("put to no sheet", x.put(4, 0, 1), -1);
        CHECK.due("put to no sheet", x.put(-1, 0, 1), -1);
        CHECK.due("put outside", x.put(0, 3, 1), -12);
        CHECK.due("put outside", x.put(0, -1, 1), -12);
        CHECK.due("item outside", x.item(0, 0, 3), -12);
        CHECK.due("item outside", x.item(0, 0, -1), -12);
        CHECK.due("another sort ahead of outside", x.item(0, 1, 3), -13);
        CHECK.due("no such sort", x.item(0, 4, 0), -1);
        CHECK.due("no such sort", x.item(0, -1, 0), -1);
        CHECK.due("no such sheet", x.item(4, 0, 0), -1);
        x.sheet(0, -1, 0);
        CHECK.due("missing ahead of sort", x.item(0, 1, 3), -11);
        CHECK.due("missing ahead of outside", x.put(0, 9, 3), -11);
    }

    private static void shelf() {
        SungAsleep x = Check.told("old 9;child 9;");
        int[][] calls = {{0, 0, 0, 1}, {3, 0, 1, 1}, {4, 0, 0, -1}, {-1, 0, 0, -1}, {0, 3, 0, -1}, {0, -1, 0, -1},
            {0, 0, 2, -1}, {0, 0, -1, -1}, {0, 1, 4, -1}, {0, 1, -1, -1}};
        for (int[] c : calls) CHECK.due("shelf " + c[0] + " " + c[1] + " " + c[2], x.shelf(c[0], c[1], c[2]), c[3]);
        CHECK.due("refusals changed nothing", x.taken(0, 0), 0);
        CHECK.due("a missing sheet", x.shelf(0, 1, 0), 1);
        CHECK.due("is nothing", x.taken(0, 0), -11);
        CHECK.due("nothing, whatever n", x.shelf(3, 2, 99), 1);
        CHECK.due("is nothing", x.taken(3, 0), -11);
    }

    private static void shelfKeepsItsRow() {
        SungAsleep x = Check.told("old 9;");
        x.sheet(0, 2, 5);
        x.shelf(0, 1, 0);
        CHECK.due("five", x.taken(0, 12), 5);
        x.sheet(0, 1, 7);
        CHECK.due("the row, not the sheet", x.taken(0, 12), 5);
        x.sheet(0, -1, 0);
        CHECK.due("still", x.taken(0, 12), 5);
        x.shelf(0, 0, 0);
        CHECK.due("a person in its stead", x.taken(0, 2), 0);
        CHECK.due("no row any more", x.taken(0, 12), -13);
    }

    private static void shelfByNumber() {
        SungAsleep x = Check.told("old 9;child 9;");
        x.shelf(1, 0, 1);
        x.turn(1, 5);
        CHECK.due("it turned", x.taken(1, 5), 1);
        x.keep();
        Check.tell(x, "old 3;");
        CHECK.due("nobody any more", x.taken(1, 5), -11);
        CHECK.due("no act", x.act(1, 0, 5), 0);
        x.again();
        CHECK.due("by its number", x.taken(1, 5), 1);
    }

    private static void taken() {
        boolean[][] under = {
            {true, false, false, false, false, false},
            {true, true, false, false, false, false},
            {true, false, true, false, false, false},
            {true, true, false, true, false, false},
            {true, false, true, false, true, false},
            {true, false, false, false, false, true}};
        SungAsleep x = new SungAsleep();
        for (int kind = 0; kind < 6; kind++) {
            x.person(kind, 9);
            x.shelf(0, 0, kind);
            for (int as = 0; as < 6; as++) {
                CHECK.due("kind " + kind + " as " + as, x.taken(0, as), under[kind][as] ? kind : -13);
            }
            for (int as = 10; as < 14; as++) CHECK.due("a person as a row", x.taken(0, as), -13);
        }
        for (int sort = 0; sort < 4; sort++) {
            x.sheet(sort, sort, sort);
            x.shelf(1, 1, sort);
            for (int as = 10; as < 14; as++) CHECK.due("row", x.taken(1, as), as - 10 == sort ? sort : -13);
            CHECK.due("a row as a person", x.taken(1, 0), -13);
        }
        int[] bad = {-1, 6, 9, 14, Integer.MIN_VALUE, Integer.MAX_VALUE};
        for (int as : bad) {
            CHECK.due("as " + as, x.taken(0, as), -1);
            CHECK.due("BAD ahead of nothing", x.taken(3, as), -1);
        }
        CHECK.due("no shelf", x.taken(4, 0), -1);
        CHECK.due("no shelf", x.taken(-1, 0), -1);
        CHECK.due("nothing", x.taken(3, 13), -11);
    }

    /** Answers worked out by hand, for number n = 2 and AGE a = 9, with x = 50. */
    private static void actsOfAllKinds() {
        int[][] want = {
            {52, 104, 7, 104 ^ 9},
            {52, 95, 7, 95 ^ 9},
            {156, 312, 7, (312 ^ 9) + 0},
            {50, 91, 6, 91 ^ 9},
            {-156, -312 - 12, 7, (-324 ^ 9) + 0},
            {52, 104, 7 + 11, (104 ^ 9) * 2}};
        SungAsleep x = Check.told("old 9;old 9;old 9;");
        x.shelf(0, 0, 2);
        for (int kind = 0; kind < 6; kind++) {
            x.turn(2, kind);
            for (int act = 0; act < 4; act++) {
                CHECK.due("act " + act + " of kind " + kind, x.act(0, act, 50), want[kind][act]);
            }
        }
        x.turn(2, 0);
        CHECK.due("the rest away", x.act(0, 2, -50), -7);
        CHECK.due("ints wrap", x.act(0, 0, Integer.MAX_VALUE), Integer.MIN_VALUE + 1);
        CHECK.due("needs wrap", x.act(0, 1, Integer.MAX_VALUE), 2);
        Check.tell(x, "old 1;old 1;old 3;");
        CHECK.due("an old one tells and shares", x.act(0, 3, 4), ((4 + 2) * 3 * 2 ^ 3) + 2);
        Check.tell(x, "old 1;old 1;old 1;");
        x.turn(2, 0);
        CHECK.due("the least by -1", x.act(0, 2, Integer.MIN_VALUE), Integer.MIN_VALUE);
    }

    private static void trace(SungAsleep x, String name, int... bodies) {
        CHECK.due(name + " many", x.many(4), bodies.length);
        for (int i = 0; i < bodies.length; i++) CHECK.due(name + " body " + i, x.trace(i), bodies[i]);
        CHECK.due(name + " no more", x.trace(bodies.length), -3);
        CHECK.due(name + " none ahead", x.trace(-1), -3);
    }

    private static void traces() {
        int[][][] want = {
            {{10}, {11, 10}, {12}, {13, 11, 10}},
            {{10}, {20, 11, 10}, {12}, {13, 20, 11, 10}},
            {{30, 10}, {11, 30, 10}, {12}, {31, 13, 11, 30, 10, 12}},
            {{51, 10}, {20, 11, 51, 10}, {50, 12}, {13, 20, 11, 51, 10}},
            {{40, 30, 10}, {41, 11, 40, 30, 10, 40, 30, 10}, {12},
                {31, 13, 41, 11, 40, 30, 10, 40, 30, 10, 12}},
            {{10}, {11, 10}, {61, 12, 10}, {60, 13, 11, 10}}};
        SungAsleep x = Check.told("old 9;old 9;");
        x.shelf(2, 0, 1);
        for (int kind = 0; kind < 6; kind++) {
            x.turn(1, kind);
            for (int act = 0; act < 4; act++) {
                x.act(2, act, 5);
                trace(x, "kind " + kind + " act " + act, want[kind][act]);
            }
        }
    }

    private static void partedByNothing() {
        SungAsleep x = Check.told("old 1;old 1;traveller 2;");
        x.shelf(0, 0, 1);
        int[] kinds = {0, 1, 2, 3, 4, 5};
        int[][] shares = {{12}, {12}, {12}, {50, 12}, {12}, {61, 12}};
        for (int kind : kinds) {
            x.turn(1, kind);
            CHECK.due("shares of kind " + kind, x.act(0, 2, 5), -15);
            trace(x, "shares of kind " + kind, shares[kind]);
            CHECK.holds("sings still", x.act(0, 0, 5) != -15);
        }
        x.turn(1, 2);
        CHECK.due("tells of an old one", x.act(0, 3, 5), -15);
        trace(x, "tells of an old one", 31, 13, 11, 30, 10, 12);
        x.turn(1, 5);
        CHECK.due("tells of a traveller", x.act(0, 3, 5), ((5 + 1) * 2 ^ 1) * 2);
        x.shelf(0, 0, 2);
        CHECK.due("2 and 2", x.act(0, 2, 5), -15);
        x.older();
        CHECK.due("a year later", x.act(0, 2, 5), 5 + 5);
    }

    private static void actsOfNothing() {
        SungAsleep x = Check.told("old 9;");
        x.sheet(0, 0, 5);
        x.shelf(0, 0, 0);
        x.shelf(1, 1, 0);
        int[][] none = {{-1, 0}, {4, 0}, {0, -1}, {0, 4}, {1, 0}, {2, 0}};
        for (int[] c : none) {
            x.act(0, 3, 5);
            CHECK.due("a trace", x.many(4), 6);
            CHECK.due("act " + c[0] + " " + c[1], x.act(c[0], c[1], 5), 0);
            CHECK.due("no trace", x.many(4), 0);
            CHECK.due("no body", x.trace(0), -3);
        }
        CHECK.due("trace of far", x.trace(Integer.MAX_VALUE), -3);
    }

    private static void many() {
        SungAsleep x = Check.told("old 9;child 9;child 9;asleep 1;");
        x.prove();
        x.shelf(0, 0, 0);
        x.act(0, 0, 1);
        x.feed(0, 5);
        int[] want = {3, 2, 1, 5, 2};
        for (int what = 0; what < 5; what++) CHECK.due("many " + what, x.many(what), want[what]);
        CHECK.due("many -1", x.many(-1), -1);
        CHECK.due("many 5", x.many(5), -1);
    }

    private static void keepAndAgain() {
        SungAsleep x = Check.told("old 9 voice 50 purse 4;child 9;traveller 8;owes 0 1 7;");
        CHECK.due("nothing is kept", x.again(), -3);
        x.seed(99);
        x.lasts(1, 3);
        x.sing(0, 4);
        int[][] was = state(x);
        CHECK.due("keep", x.keep(), 1);
        for (int round = 0; round < 2; round++) {
            x.sing(0, 2);
            x.day();
            x.owe(0, 1, 55);
            x.turn(0, 4);
            x.voice(0, 1);
            x.purse(0, 1);
            x.lasts(0, 1);
            x.older();
            x.person(0, 5);
            x.draw();
            CHECK.due("again", x.again(), 3);
            int[][] is = state(x);
            for (int i = 0; i < was.length; i++) {
                for (int k = 0; k < was[i].length; k++) CHECK.due("state " + i + " " + k, is[i][k], was[i][k]);
            }
        }
        Check.tell(x, "old 3;");
        CHECK.due("what is kept stays", x.again(), 3);
        x.older();
        x.keep();
        Check.tell(x, "old 3;");
        x.again();
        CHECK.due("the latest", x.personOf(0, 1), 10);
    }

    private static int[][] state(SungAsleep x) {
        int n = x.many(0);
        int[][] all = new int[n + 1][8 + n];
        for (int i = 0; i < n; i++) {
            for (int what = 0; what < 8; what++) all[i][what] = x.personOf(i, what);
            for (int k = 0; k < n; k++) all[i][8 + k] = x.owed(i, k);
        }
        for (int what = 0; what < 4; what++) all[n][what] = x.night(what);
        int z = x.seed(0);
        x.seed(z);
        all[n][4] = z;
        return all;
    }

    private static void keepLeavesOut() {
        SungAsleep x = Check.told("old 9;child 9;");
        x.keep();
        x.prove();
        x.sheet(0, 0, 5);
        x.shelf(0, 0, 1);
        x.act(0, 1, 5);
        x.feed(0, 3);
        x.again();
        CHECK.due("rows stay", x.many(2), 1);
        CHECK.due("sheets stay", x.item(0, 0, 4), 0);
        CHECK.due("shelves stay", x.taken(0, 1), 1);
        CHECK.due("the trace stays", x.many(4), 3);
        CHECK.due("the tape stays", x.many(3), 3);
    }
}
