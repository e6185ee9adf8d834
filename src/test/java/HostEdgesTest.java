/** The boundary cases of promises 36 to 45 and of the terms that go with them, sentence by sentence. */
public final class HostEdgesTest {
    private static final int BAD = SungAsleep.BAD, NONE = SungAsleep.NONE;
    private static final Scene THREE = new Scene("tell sleeper 9;sleeper 9;sleeper 9;", "shelf(0, 0, 2)");

    public static void main(String[] args) {
        sheetRanges();
        sheetBelowZero();
        sheetMissing();
        sheetAllZero();
        putPlaces();
        putNarrowed();
        itemSorts();
        itemPlaces();
        itemAsLowAsRefusals();
        shelvesAtFirst();
        shelfHolds();
        shelfOfNobodyAnyMore();
        shelfOfARow();
        takenRanges();
        takenForKinds();
        takenForSorts();
        actOfNothing();
        actsThatWrap();
        quotientsAreCut();
        partedByNothing();
        traceOfTheLatest();
        traceIsShort();
        many();
        manyAtFirst();
        keepWhat();
        againWithoutKeep();
        againStays();
        the512thCall();
        Scene.end();
    }

    /** Promise 36: "BAD: no such SHEET, sort, n above 40"; Terms: SHEETS 0 to 3, sorts 0 to 3, "40 at most". */
    private static void sheetRanges() {
        Scene x = Scene.MIDST;
        String[] inside = {"0, 0, 0", "0, 0, 40", "3, 3, 0", "3, 3, 40", "2, 1, 1", "1, 2, 39"};
        for (String three : inside) x.answers("sheet(" + three + ")", 1);
        String[] outside = {"-1, 0, 5", "4, 0, 5", "MIN, 0, 5", "MAX, 0, 5", "0, -2, 5", "0, 4, 5", "0, MIN, 5", "0, MAX, 5",
            "0, 0, 41", "3, 3, 41", "0, 0, MAX", "4, -1, 5", "-1, -1, 5"};
        for (String three : outside) x.refuses("sheet(" + three + ")", BAD);
        x.then("sheet(0, 3, 40)").answers("item(0, 3, 39)", 0).answers("item(0, 3, 40)", -12);
        x.then("sheet(0, 2, 0)").answers("item(0, 2, 0)", -12);
    }

    /** Promise 36: "-14": a size below 0, behind BAD. */
    private static void sheetBelowZero() {
        Scene x = Scene.MIDST;
        x.refuses("sheet(0, 0, -1)", -14).refuses("sheet(3, 3, -1)", -14).refuses("sheet(1, 2, MIN)", -14).refuses("sheet(2, 1, -40)", -14);
        x.refuses("sheet(4, 0, -1)", BAD).refuses("sheet(-1, 0, -1)", BAD).refuses("sheet(0, 4, -1)", BAD).refuses("sheet(0, -2, -1)", BAD);
    }

    /** Promise 36: "or missing (sort -1; n counts nothing then)"; Terms: "or missing (at first)". */
    private static void sheetMissing() {
        String[] sizes = {"0", "5", "40", "41", "-1", "MIN", "MAX"};
        for (String n : sizes) {
            Scene.MIDST.answers("sheet(0, -1, " + n + ")", 1).then("sheet(0, -1, " + n + ")").answers("item(0, 0, 4)", -11);
            Scene.MIDST.asks("sheet(2, -1, " + n + ")", 1);
        }
        for (int i = 0; i < 4; i++) Scene.NEW.refuses("put(" + i + ", 0, 1)", -11).refuses("item(" + i + ", 0, 0)", -11);
    }

    /** Promise 36: "A SHEET becomes a row of n of a sort, all 0". */
    private static void sheetAllZero() {
        for (int sort = 0; sort < 4; sort++) {
            Scene x = Scene.MIDST.then("sheet(1, " + sort + ", 40)");
            for (int i = 0; i < 40; i += 13) x.answers("item(1, " + sort + ", " + i + ")", 0);
            x.answers("item(1, " + sort + ", 39)", 0).answers("item(0, 0, 4)", 33);
        }
    }

    /** Promise 37: "BAD: no such SHEET; -11; -12". */
    private static void putPlaces() {
        Scene x = Scene.MIDST;
        x.answers("put(0, 0, 5)", 1).answers("put(0, 4, 5)", 1).answers("put(1, 39, 5)", 1);
        x.then("put(0, 0, 5)").answers("item(0, 0, 0)", 5).answers("item(0, 0, 1)", 0).answers("item(0, 0, 4)", 33);
        String[] outside = {"0, -1", "0, 5", "0, MIN", "0, MAX", "1, 40", "1, -1", "3, 0", "3, -1"};
        for (String both : outside) x.refuses("put(" + both + ", 9)", -12);
        x.refuses("put(2, 0, 9)", -11).refuses("put(2, -1, 9)", -11).refuses("put(2, 40, 9)", -11);
        String[] sheets = {"-1", "4", "MIN", "MAX"};
        for (String sheet : sheets) x.refuses("put(" + sheet + ", 0, 9)", BAD).refuses("put(" + sheet + ", -1, 9)", BAD);
    }

    /** Promise 37: "narrowed to its sort". */
    private static void putNarrowed() {
        int[] values = {127, 128, -128, -129, 255, 256, 32767, 32768, -32768, -32769, 65535, 65536, Integer.MAX_VALUE,
            Integer.MIN_VALUE, -1, 0};
        for (int v : values) {
            int[] want = {(byte) v, (short) v, v, v};
            for (int sort = 0; sort < 4; sort++) {
                Scene x = Scene.NEW.then("sheet(0, " + sort + ", 2)", "put(0, 1, " + v + ")");
                x.answers("item(0, " + sort + ", 1)", want[sort]).answers("item(0, " + sort + ", 0)", 0);
            }
        }
        Scene bytes = Scene.NEW.then("sheet(0, 0, 1)");
        bytes.then("put(0, 0, 127)").answers("item(0, 0, 0)", 127);
        bytes.then("put(0, 0, 128)").answers("item(0, 0, 0)", -128);
        Scene shorts = Scene.NEW.then("sheet(0, 1, 1)");
        shorts.then("put(0, 0, 32767)").answers("item(0, 1, 0)", 32767);
        shorts.then("put(0, 0, 32768)").answers("item(0, 1, 0)", -32768);
    }

    /** Promise 38: "taken for a sort (0 to 3 ..). BAD: no such SHEET, sort; -11; -13": each sort is of its own. */
    private static void itemSorts() {
        for (int sort = 0; sort < 4; sort++) {
            Scene x = Scene.MIDST.then("sheet(2, " + sort + ", 3)", "put(2, 2, 9)");
            for (int as = 0; as < 4; as++) x.asks("item(2, " + as + ", 2)", as == sort ? 9 : -13);
            x.refuses("item(2, -1, 2)", BAD).refuses("item(2, 4, 2)", BAD).refuses("item(2, MIN, 2)", BAD).refuses("item(2, MAX, 2)", BAD);
        }
        Scene x = Scene.MIDST;
        x.refuses("item(2, 0, 0)", -11).refuses("item(2, 3, -1)", -11).refuses("item(2, 4, 0)", BAD).refuses("item(2, -1, 0)", BAD);
        x.refuses("item(-1, 0, 0)", BAD).refuses("item(4, 0, 0)", BAD).refuses("item(MIN, 0, 0)", BAD).refuses("item(MAX, 0, 0)", BAD);
    }

    /** Promise 38: "-12", behind -13. */
    private static void itemPlaces() {
        Scene x = Scene.MIDST;
        x.asks("item(0, 0, 0)", 0).asks("item(0, 0, 4)", 33).asks("item(1, 3, 39)", -7);
        x.refuses("item(0, 0, -1)", -12).refuses("item(0, 0, 5)", -12).refuses("item(0, 0, MIN)", -12).refuses("item(0, 0, MAX)", -12);
        x.refuses("item(1, 3, 40)", -12).refuses("item(3, 1, 0)", -12).refuses("item(3, 1, -1)", -12);
        x.refuses("item(0, 1, 5)", -13).refuses("item(0, 1, -1)", -13).refuses("item(3, 0, 0)", -13);
    }

    /** Promise 38: "An item may be as low as these, too". */
    private static void itemAsLowAsRefusals() {
        int[] low = {-1, -11, -12, -13, -14, -15};
        for (int v : low) Scene.NEW.then("sheet(0, 0, 1)", "put(0, 0, " + v + ")").asks("item(0, 0, 0)", v);
    }

    /** Terms: SHELVES 0 to 3 hold "nothing (at first)", whoever is there, and whatever the SHEETS have. */
    private static void shelvesAtFirst() {
        Scene x = new Scene("tell old 1;old 1;old 1;old 1;", "sheet(0, 0, 5)", "sheet(3, 3, 5)");
        for (int shelf = 0; shelf < 4; shelf++) {
            x.refuses("taken(" + shelf + ", 0)", -11).refuses("taken(" + shelf + ", 10)", -11).answers("act(" + shelf + ", 0, 5)", 0);
        }
    }

    /** Promise 39: "A SHELF holds PERSON n (what 0), the row of SHEET n (1 ..), nothing (2): 1. BAD: no such SHELF, what, thing". */
    private static void shelfHolds() {
        Scene x = Scene.MIDST;
        x.answers("shelf(0, 0, 0)", 1).answers("shelf(3, 0, 5)", 1).answers("shelf(0, 1, 0)", 1).answers("shelf(3, 1, 3)", 1);
        x.answers("shelf(0, 2, 0)", 1).answers("shelf(3, 2, MAX)", 1).answers("shelf(0, 2, -1)", 1).answers("shelf(0, 2, MIN)", 1);
        String[] outside = {"-1, 0, 0", "4, 0, 0", "MIN, 0, 0", "MAX, 0, 0", "0, -1, 0", "0, 3, 0", "0, MIN, 0", "0, MAX, 0",
            "0, 0, -1", "0, 0, 6", "0, 0, MIN", "0, 0, MAX", "0, 1, -1", "0, 1, 4", "0, 1, MIN", "0, 1, MAX", "4, 2, 0",
            "-1, 2, 0", "-1, 1, 0", "4, 1, 0"};
        for (String three : outside) x.refuses("shelf(" + three + ")", BAD);
        x.then("shelf(3, 0, 4)").answers("taken(3, 5)", 4).answers("taken(0, 4)", 3);
        x.then("shelf(0, 1, 0)").answers("taken(0, 10)", 5).answers("taken(0, 4)", -13);
        x.then("shelf(1, 0, 0)").answers("taken(1, 0)", 0).answers("taken(1, 13)", -13);
        x.then("shelf(0, 2, 3)").answers("taken(0, 4)", -11).then("shelf(1, 2, 3)").answers("taken(1, 13)", -11);
        // a missing sheet's row is nothing, whatever the shelf held
        x.then("shelf(0, 1, 2)").answers("taken(0, 4)", -11).then("sheet(2, 0, 5)").answers("taken(0, 10)", -11);
        x.then("shelf(1, 1, 2)").answers("taken(1, 13)", -11);
        // a row of no items is a row
        x.then("shelf(3, 1, 3)").answers("taken(3, 11)", 0);
        Scene.NEW.refuses("shelf(0, 0, 0)", BAD).answers("shelf(0, 1, 0)", 1);
    }

    /** Terms: SHELVES hold a PERSON "(by its number; nothing, if there is no such one any more)". */
    private static void shelfOfNobodyAnyMore() {
        Scene x = Scene.MIDST.then("valley()", "tell child 3;old 4;old 5;deaf 6;");
        x.answers("taken(0, 4)", 3).answers("act(0, 0, 1)", -12).answers("taken(2, 0)", -11).answers("act(2, 0, 1)", 0);
        x.then("act(2, 0, 1)").answers("many(4)", 0);
        Scene less = Scene.MIDST.then("valley()", "tell child 3;old 4;old 5;");
        less.answers("taken(0, 4)", -11).then("person(5, 8)").answers("taken(0, 5)", 3).answers("taken(2, 0)", -11);
        less.then("again()").answers("taken(0, 4)", 3).answers("taken(2, 3)", 5);
        Scene.MIDST.then("turn(3, 1)").answers("taken(0, 1)", 3).answers("taken(0, 4)", -13);
    }

    /** Terms: SHELVES hold "a SHEET's row": the row itself, which another row of the sheet doesn't touch. */
    private static void shelfOfARow() {
        Scene x = Scene.MIDST.answers("taken(1, 13)", 40);
        x.then("sheet(1, 0, 3)").answers("taken(1, 13)", 40).then("shelf(1, 1, 1)").answers("taken(1, 10)", 3);
        x.then("sheet(1, -1, 0)").answers("taken(1, 13)", 40).then("shelf(1, 1, 1)").answers("taken(1, 13)", -11);
    }

    /** Promise 40: "KIND as (0 to 5 ..)", "as 10 to 13"; "BAD: no such SHELF, as; -11; -13". */
    private static void takenRanges() {
        Scene x = Scene.MIDST;
        String[] outside = {"-1", "6", "9", "14", "MIN", "MAX"};
        for (String as : outside) {
            for (int shelf = 0; shelf < 4; shelf++) x.refuses("taken(" + shelf + ", " + as + ")", BAD);
            x.refuses("taken(4, " + as + ")", BAD);
        }
        String[] shelves = {"-1", "4", "MIN", "MAX"};
        for (String shelf : shelves) x.refuses("taken(" + shelf + ", 0)", BAD).refuses("taken(" + shelf + ", 13)", BAD);
        int[] inside = {0, 5, 10, 13};
        for (int as : inside) x.refuses("taken(3, " + as + ")", -11);
        x.asks("taken(0, 0)", 3).asks("taken(2, 3)", 5).refuses("taken(0, 5)", -13).refuses("taken(0, 10)", -13);
        x.refuses("taken(1, 0)", -13).refuses("taken(1, 5)", -13).refuses("taken(1, 12)", -13).asks("taken(1, 13)", 40);
    }

    /** Promise 40: "a thing of KIND as (0 to 5, or one under it): its number". */
    private static void takenForKinds() {
        String[] under = {"0", "0 1", "0 2", "0 1 3", "0 2 4", "0 5"};
        for (int kind = 0; kind < 6; kind++) {
            Scene x = THREE.then("turn(2, " + kind + ")");
            for (int as = 0; as < 6; as++) x.asks("taken(0, " + as + ")", under[kind].contains("" + as) ? 2 : -13);
        }
    }

    /** Promise 40: "for a row of sort as - 10 (as 10 to 13): how many items". */
    private static void takenForSorts() {
        for (int sort = 0; sort < 4; sort++) {
            for (int n = 0; n <= 40; n += 20) {
                Scene x = Scene.NEW.then("sheet(3, " + sort + ", " + n + ")", "shelf(3, 1, 3)");
                for (int as = 10; as < 14; as++) x.asks("taken(3, " + as + ")", as - 10 == sort ? n : -13);
            }
        }
    }

    /** Promise 41: "0, and no TRACE then: no such SHELF, act, nothing, a row". */
    private static void actOfNothing() {
        String[] none = {"-1, 0", "4, 0", "MIN, 0", "MAX, 0", "0, -1", "0, 4", "0, MIN", "0, MAX", "3, 0", "1, 0", "1, 3", "3, 4", "4, 4"};
        for (String both : none) {
            Scene x = Scene.MIDST.answers("act(" + both + ", 5)", 0).then("act(" + both + ", 5)");
            x.answers("many(4)", 0).answers("trace(0)", NONE);
            // but for the trace all is as it was
            Scene.MIDST.isLeftBy("act(" + both + ", 5)", "act(0, 3, 5)");
        }
        Scene.MIDST.answers("act(0, 0, 5)", -24).answers("act(0, 3, 5)", -66 ^ 40);
    }

    /** Terms: "ACTS of things, with a number x (ints that wrap)". */
    private static void actsThatWrap() {
        int max = Integer.MAX_VALUE;
        int min = Integer.MIN_VALUE;
        THREE.answers("act(0, 0, MAX)", min + 1).answers("act(0, 0, 2147483645)", max).answers("act(0, 0, MIN)", min + 2);
        THREE.answers("act(0, 1, 1073741821)", max - 1).answers("act(0, 1, 1073741822)", min).answers("act(0, 1, MAX)", 2);
        Scene old = THREE.then("turn(2, 2)");
        old.answers("act(0, 0, 715827880)", 2147483646).answers("act(0, 0, 715827881)", -2147483647);
        Scene deaf = THREE.then("turn(2, 4)");
        // where (x + 2) * 3 is the least int, it is its own opposite
        deaf.answers("act(0, 0, 2147483646)", min).answers("act(0, 0, 715827881)", 2147483647).answers("act(0, 0, -715827885)", -2147483647);
        deaf.answers("act(0, 0, -1431655768)", 2).answers("act(0, 0, 1431655764)", -2);
        Scene restless = THREE.then("turn(2, 3)");
        restless.answers("act(0, 0, MAX)", max).answers("act(0, 2, MAX)", (min + 1) / 7 ^ 1).answers("act(0, 2, MIN)", (min + 2) / 7 ^ 1);
        Scene child = THREE.then("turn(2, 1)");
        child.answers("act(0, 1, 1073741822)", min - 9).answers("act(0, 1, 1073741826)", min + 8 - 9);
        Scene traveller = THREE.then("turn(2, 5)");
        traveller.answers("act(0, 3, MAX)", (2 ^ 9) * 2).answers("act(0, 2, MAX)", max / 7 + 11);
        traveller.answers("act(0, 3, 1073741822)", (min ^ 9) * 2);
    }

    /** Terms: "Quotients are cut towards 0"; "shares: x by (a - n), the rest away". */
    private static void quotientsAreCut() {
        int[] xs = {0, 1, 6, 7, 8, 13, 14, -1, -6, -7, -8, -13, -14};
        for (int x : xs) THREE.answers("act(0, 2, " + x + ")", x / 7);
        THREE.answers("act(0, 2, -6)", 0).answers("act(0, 2, -8)", -1);
        // a - n is -1, and -2
        Scene one = new Scene("tell old 1;old 1;sleeper 1;sleeper 1;", "shelf(0, 0, 2)", "shelf(1, 0, 3)");
        one.answers("act(0, 2, 5)", -5).answers("act(0, 2, MIN)", Integer.MIN_VALUE).answers("act(0, 2, MAX)", -Integer.MAX_VALUE);
        one.answers("act(1, 2, 5)", -2).answers("act(1, 2, -5)", 2).answers("act(1, 2, 1)", 0).answers("act(1, 2, MIN)", 1073741824);
    }

    private static void bodies(Scene x, int... due) {
        x.answers("many(4)", due.length);
        for (int i = 0; i < due.length; i++) x.asks("trace(" + i + ")", due[i]);
        x.refuses("trace(" + due.length + ")", NONE);
    }

    /** Terms, body 12: "-15 if these are the same; that is all that act() answers then"; one beside is no such case. */
    private static void partedByNothing() {
        Scene x = new Scene("tell old 1;sleeper 1;", "shelf(0, 0, 1)");
        int[][] shares = {{12}, {12}, {12}, {50, 12}, {12}, {61, 12}};
        for (int kind = 0; kind < 6; kind++) {
            Scene k = x.then("turn(1, " + kind + ")").answers("act(0, 2, 5)", -15).answers("act(0, 2, 0)", -15).answers("act(0, 2, MIN)", -15);
            bodies(k.then("act(0, 2, 5)"), shares[kind]);
            k.then("older()").answers("act(0, 2, 5)", kind == 3 ? 7 ^ 1 : kind == 5 ? 5 + 3 : 5);
            // but for the trace all is as it was
            k.then("act(0, 0, 5)").isLeftBy("act(0, 2, 5)", "act(0, 0, 5)");
        }
        Scene old = x.then("turn(1, 2)").answers("act(0, 3, 5)", -15).answers("act(0, 0, 5)", 18).answers("act(0, 1, 5)", 36);
        bodies(old.then("act(0, 3, 5)"), 31, 13, 11, 30, 10, 12);
        Scene deaf = x.then("turn(1, 4)").answers("act(0, 3, 5)", -15).answers("act(0, 1, 5)", -42);
        bodies(deaf.then("act(0, 3, 5)"), 31, 13, 41, 11, 40, 30, 10, 40, 30, 10, 12);
        x.then("turn(1, 5)").answers("act(0, 3, 5)", (12 ^ 1) * 2);
        x.then("turn(1, 3)").answers("act(0, 3, 5)", 9 ^ 1);
        // the number 0 has no such AGE; 7 and 7 are the highest of all
        Scene eight = new Scene("tell old 1;old 1;old 1;old 1;old 1;old 1;old 1;old 7;", "shelf(0, 0, 7)", "shelf(1, 0, 0)");
        eight.answers("act(0, 2, 9)", -15).answers("act(0, 3, 9)", -15).answers("act(1, 2, 9)", 9);
        // an answer that is -15 by itself is no such case
        Scene same = new Scene("tell sleeper 5;", "shelf(0, 0, 0)").answers("act(0, 0, -15)", -15);
        bodies(same.then("act(0, 0, -15)"), 10);
    }

    /** Terms, THE TRACE: "numbers of the bodies that ran in the latest act(), as they began (left first)". */
    private static void traceOfTheLatest() {
        bodies(Scene.NEW);
        bodies(THREE);
        bodies(THREE.then("act(0, 0, 5)"), 10);
        bodies(THREE.then("act(0, 3, 5)", "act(0, 0, 5)"), 10);
        bodies(THREE.then("act(0, 0, 5)", "act(0, 3, 5)"), 13, 11, 10);
        bodies(THREE.then("turn(2, 1)", "act(0, 3, 5)"), 13, 20, 11, 10);
        bodies(THREE.then("turn(2, 2)", "act(0, 3, 5)"), 31, 13, 11, 30, 10, 12);
        bodies(THREE.then("turn(2, 3)", "act(0, 3, 5)"), 13, 20, 11, 51, 10);
        bodies(THREE.then("turn(2, 5)", "act(0, 3, 5)"), 60, 13, 11, 10);
        bodies(THREE.then("turn(2, 5)", "act(0, 2, 5)"), 61, 12, 10);
        bodies(THREE.then("turn(2, 4)", "act(0, 1, 5)"), 41, 11, 40, 30, 10, 40, 30, 10);
        // nothing but act() changes it
        bodies(THREE.then("act(0, 0, 5)", "shelf(0, 2, 0)", "tell old 5;", "keep()", "again()", "day()"), 10);
    }

    /** Promise 42: "THE TRACE's i-th body. NONE."; the longest act there is begins 11 bodies, so that all of the 30 are kept. */
    private static void traceIsShort() {
        Scene x = Scene.MIDST.asks("many(4)", 11).asks("trace(0)", 31).asks("trace(10)", 12);
        String[] outside = {"-1", "11", "12", "29", "30", "31", "MIN", "MAX"};
        for (String i : outside) x.refuses("trace(" + i + ")", NONE);
        Scene.NEW.refuses("trace(0)", NONE);
    }

    /** Promise 43: "what = 0 PEOPLE, .. 4 bodies of THE TRACE. BAD: another what". */
    private static void many() {
        Scene x = Scene.MIDST;
        x.asks("many(0)", 6).asks("many(1)", 5).asks("many(2)", 2).asks("many(3)", 11).asks("many(4)", 11);
        String[] outside = {"-1", "5", "MIN", "MAX"};
        for (String what : outside) x.refuses("many(" + what + ")", BAD);
    }

    /** Promise 43, at both ends: nothing, and as many as there can be. */
    private static void manyAtFirst() {
        for (int what = 0; what < 5; what++) Scene.NEW.asks("many(" + what + ")", 0);
        Scene most = new Scene("tell deaf 1;deaf 1;deaf 1;deaf 1;deaf 1;deaf 1;deaf 1;deaf 1;", "prove()", "tape " + "x".repeat(200));
        most.answers("many(0)", 8).answers("many(1)", 8).answers("many(2)", 7).answers("many(3)", 200);
    }

    /** Promise 44: "All but THE TAPE, ROWS, SHEETS, SHELVES, THE TRACE is kept: 1." */
    private static void keepWhat() {
        Scene x = Scene.MIDST.answers("keep()", 1).then("keep()");
        Scene back = x.then("wake(4)", "day()", "lasts(0, 9)", "owe(0, 1, 9)", "turn(0, 4)", "voice(0, 1)", "purse(0, 1)", "older()",
            "person(0, 5)", "seed(3)", "again()");
        int[] want = {0, 30, 60, 30, 25, 0, 1, 100070};
        for (int what = 0; what < 8; what++) back.answers("personOf(0, " + what + ")", want[what]);
        back.answers("owed(0, 1)", 12).answers("night(0)", 25).answers("night(1)", 47).answers("night(3)", 25).answers("many(0)", 6);
        x.isLeftBy("wake(4)", "day()", "lasts(0, 9)", "owe(0, 1, 9)", "turn(0, 4)", "older()", "seed(3)", "again()");
        Scene rest = x.then("valley()", "feed(0, 3)", "alterRow(0, 0, 9)", "put(0, 4, 44)", "sheet(2, 1, 2)", "shelf(3, 0, 0)",
            "act(0, 0, 1)", "again()");
        rest.answers("many(3)", 3).answers("row(0, 0)", 9).answers("item(0, 0, 4)", 44).answers("item(2, 1, 1)", 0);
        rest.answers("taken(3, 0)", 0).answers("many(4)", 3);
        Scene.NEW.answers("keep()", 1).then("keep()", "tell old 5;old 6;").answers("again()", 0);
        Scene.NEW.then("keep()", "tell old 5;old 6;", "seed(9)", "again()").answers("many(0)", 0).answers("seed(0)", 1);
    }

    /** Promise 45: "NONE: nothing is kept". */
    private static void againWithoutKeep() {
        Scene.NEW.refuses("again()", NONE);
        new Scene("tell old 5;old 6;owes 0 1 3;", "prove()", "seed(6)").refuses("again()", NONE);
    }

    /** Promise 45: "It becomes what was kept latest (which stays): how many PEOPLE." */
    private static void againStays() {
        Scene x = new Scene("tell old 5;old 6;owes 0 1 3;", "keep()", "older()");
        x.answers("again()", 2).then("again()").answers("personOf(0, 1)", 5);
        x.then("again()", "older()", "sing(0, 2)", "owe(0, 1, 9)", "seed(8)").then("again()").answers("personOf(0, 1)", 5)
            .answers("owed(0, 1)", 3).answers("night(1)", 3).answers("seed(0)", 1);
        x.then("keep()", "older()", "again()").answers("personOf(0, 1)", 6);
        x.then("again()", "person(0, 1)", "again()").answers("many(0)", 2).answers("person(0, 7)", 2);
        // what comes behind again() doesn't reach what is kept, nor what comes behind keep()
        new Scene("tell old 5;old 6;", "keep()", "turn(0, 1)", "again()", "turn(1, 3)", "again()").answers("personOf(0, 0)", 2)
            .answers("personOf(1, 0)", 2);
        Scene eight = new Scene("tell old 1;old 1;old 1;old 1;old 1;old 1;old 1;old 1;", "keep()", "tell old 2;");
        eight.answers("again()", 8);
    }

    /** "An object is used for at most 512 calls after it has been made": the 512th answers as the first. */
    private static void the512thCall() {
        String[] round = {"sing(0, 14)", "day()", "older()", "least()", "prove()", "keep()", "again()", "act(0, 3, 5)"};
        String[] calls = new String[506];
        for (int i = 0; i < calls.length; i++) calls[i] = round[i % round.length];
        Scene x = new Scene("person(0, 90)", "person(4, 90)", "person(1, 90)", "person(3, 90)", "shelf(0, 0, 1)").then(calls);
        // 5 and 506 calls are made: the next is the 512th
        x.answers("least()", 92).answers("prove()", 1).answers("owed(2, 0)", 0).answers("personOf(0, 1)", 90);
        Scene sung = new Scene("person(0, 90)", "person(1, 90)", "purse(0, 9999)", "lasts(0, 999)");
        for (int i = 0; i < 253; i++) sung = sung.then("sing(0, 2)", "day()");
        // 4 and 506 calls are made
        sung.answers("personOf(0, 5)", 999 + 253).answers("owed(1, 0)", 9999).answers("sing(0, 2)", 46);
    }
}
