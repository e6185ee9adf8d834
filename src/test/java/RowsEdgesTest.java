/** The boundary cases of promises 31 to 35, sentence by sentence: rows, their reader, ages from a sheet. */
public final class RowsEdgesTest {
    private static final int BAD = SungAsleep.BAD, NONE = SungAsleep.NONE;
    private static final Scene ALL_DEAF = new Scene("tell deaf 1;deaf 2;deaf 3;deaf 4;deaf 5;deaf 6;deaf 7;deaf 8;", "prove()");

    public static void main(String[] args) {
        proveNone();
        proveNothing();
        proveAnew();
        proveSeven();
        rowInside();
        rowOutside();
        alterRowAnyInt();
        alterRowOutside();
        judgeWithoutRows();
        judgeMinutes();
        judgeSongs();
        judgeNotOver();
        judgeOverAhead();
        judgeFromNowOn();
        agesNumbers();
        agesHeld();
        agesBad();
        agesHost();
        agesPlaces();
        Scene.end();
    }

    /** Promise 31: "NONE: there is none (ROWS stay)". */
    private static void proveNone() {
        Scene x = Scene.MIDST;
        for (int i = 0; i < 6; i++) x = x.then("voice(" + i + ", 0)");
        x.refuses("prove()", NONE).answers("many(2)", 2).answers("row(0, 1)", 2);
        new Scene("tell old 5 voice 10;old 6 voice 9;").refuses("prove()", NONE).answers("many(2)", 0);
        new Scene("tell old 5 voice 11;old 6 voice 9;").answers("prove()", 1);
        new Scene("tell old 5 voice 10;old 6 voice 10;").answers("prove()", 1);
    }

    /** Promise 31: "ROWS of PLAN: how many": none, where the NIGHT is OVER, and the rows before are gone. */
    private static void proveNothing() {
        Scene.NEW.answers("prove()", 0).then("prove()").answers("many(2)", 0).answers("row(0, 0)", -9);
        new Scene("tell old 5;").answers("prove()", 0);
        Scene over = new Scene("tell old 5;old 6;", "prove()", "sing(0, 2)");
        over.answers("many(2)", 1).answers("prove()", 0).then("prove()").answers("many(2)", 0).answers("row(0, 0)", -9);
    }

    /** Promise 31: fewer rows than before leave nothing of those before; what was altered is gone. */
    private static void proveAnew() {
        Scene x = ALL_DEAF.then("alterRow(0, 0, 99)", "alterRow(6, 2, -5)", "sing(7, 1)", "sing(7, 2)", "prove()");
        x.answers("many(2)", 5).answers("row(0, 0)", 2).answers("row(4, 2)", 63).answers("row(5, 0)", -9).answers("row(6, 2)", -9);
        x.answers("judge()", 0);
    }

    /** Terms: "ROWS of PLAN: (the singer, to whom as a set, MINUTE behind it)"; seven are the most. */
    private static void proveSeven() {
        int[] singers = {0, 0, 0, 0, 0, 0, 7};
        int[] whom = {2, 4, 8, 16, 32, 64, 1};
        int[] minutes = {7, 15, 24, 34, 45, 57, 63};
        ALL_DEAF.answers("many(2)", 7).answers("prove()", 7);
        for (int i = 0; i < 7; i++) {
            ALL_DEAF.asks("row(" + i + ", 0)", singers[i]).asks("row(" + i + ", 1)", whom[i]).asks("row(" + i + ", 2)", minutes[i]);
        }
        ALL_DEAF.refuses("row(7, 0)", -9).refuses("alterRow(7, 0, 5)", -9);
    }

    /** Promise 32: "what = 0 the singer, 1 to whom, 2 MINUTE". */
    private static void rowInside() {
        Scene x = Scene.MIDST;
        int[][] rows = {{0, 2, 30}, {3, 37, 85}};
        for (int i = 0; i < 2; i++) {
            for (int what = 0; what < 3; what++) x.asks("row(" + i + ", " + what + ")", rows[i][what]);
        }
    }

    /** Promise 32: "-9: there is none such, another what". */
    private static void rowOutside() {
        String[] outside = {"-1, 0", "2, 0", "7, 0", "8, 0", "MIN, 0", "MAX, 0", "0, -1", "0, 3", "0, MIN", "0, MAX", "1, 3",
            "1073741824, 0", "-1, 3", "715827883, 0"};
        for (String both : outside) Scene.MIDST.refuses("row(" + both + ")", -9);
        Scene.NEW.refuses("row(0, 0)", -9);
    }

    /** Promise 33: "It becomes v: what it was": any int, so that an answer below 0 is no refusal. */
    private static void alterRowAnyInt() {
        Scene x = Scene.MIDST;
        x.answers("alterRow(0, 0, 7)", 0).answers("alterRow(0, 1, 7)", 2).answers("alterRow(0, 2, 7)", 30);
        x.answers("alterRow(1, 0, 7)", 3).answers("alterRow(1, 1, 7)", 37).answers("alterRow(1, 2, 7)", 85);
        x.then("alterRow(1, 2, MIN)").answers("row(1, 2)", Integer.MIN_VALUE).answers("alterRow(1, 2, 0)", Integer.MIN_VALUE);
        x.then("alterRow(0, 0, MAX)").answers("row(0, 0)", Integer.MAX_VALUE).answers("row(0, 1)", 2);
        x.then("alterRow(0, 1, -9)").answers("row(0, 1)", -9).answers("alterRow(0, 1, 4)", -9);
        x.then("alterRow(0, 1, -9)", "alterRow(0, 1, 4)").answers("row(0, 1)", 4);
        x.isLeftBy("alterRow(1, 1, 5)", "alterRow(1, 1, 37)");
    }

    /** Promise 33: "-9 likewise". */
    private static void alterRowOutside() {
        String[] outside = {"-1, 0", "2, 0", "7, 0", "8, 0", "MIN, 0", "MAX, 0", "0, -1", "0, 3", "1, 3", "0, MIN", "0, MAX",
            "1073741824, 0", "715827883, 0"};
        for (String both : outside) Scene.MIDST.refuses("alterRow(" + both + ", 5)", -9);
        Scene.NEW.refuses("alterRow(0, 0, 5)", -9);
    }

    /** Promise 34: "0 all is right; .. 222": without rows it is OVER or not. */
    private static void judgeWithoutRows() {
        Scene.NEW.asks("judge()", 0);
        new Scene("tell old 5;").asks("judge()", 0);
        new Scene("tell old 5;old 6;asleep 0;").asks("judge()", 0);
        new Scene("tell old 5;old 6;").asks("judge()", 222);
    }

    /** Terms, THE READER: "right is one that can be sung then, with its MINUTE". */
    private static void judgeMinutes() {
        Scene x = Scene.MIDST.asks("judge()", 0);
        String[] first = {"29", "31", "5", "0", "-30", "MIN", "MAX"};
        for (String minute : first) x.then("alterRow(0, 2, " + minute + ")").asks("judge()", 1);
        String[] second = {"84", "86", "55", "60", "MIN", "MAX"};
        for (String minute : second) x.then("alterRow(1, 2, " + minute + ")").asks("judge()", 2);
        x.then("alterRow(0, 2, 29)", "alterRow(1, 2, 84)").asks("judge()", 1);
        ALL_DEAF.asks("judge()", 0).then("alterRow(6, 2, 62)").asks("judge()", 7);
        ALL_DEAF.then("alterRow(6, 2, 64)").asks("judge()", 7);
    }

    /** Promise 34: "else the first ROW that isn't, and 1 more": singers and sets that sing() would refuse. */
    private static void judgeSongs() {
        Scene x = Scene.MIDST;
        String[] singers = {"-1", "6", "1", "4", "MIN", "MAX"};
        for (String singer : singers) x.then("alterRow(0, 0, " + singer + ")").asks("judge()", 1);
        String[] sets = {"0", "1", "64", "66", "16", "18", "10", "46", "-1", "MIN", "MAX"};
        for (String whom : sets) x.then("alterRow(0, 1, " + whom + ")").asks("judge()", 1);
        // a MINUTE as if the refusal were added makes it no better
        x.then("alterRow(0, 0, -1)", "alterRow(0, 2, 24)").asks("judge()", 1);
        x.then("alterRow(0, 1, 0)", "alterRow(0, 2, 24)").asks("judge()", 1);
        x.then("alterRow(0, 1, 1)", "alterRow(0, 2, 21)").asks("judge()", 1);
        x.then("alterRow(0, 1, 10)", "alterRow(0, 2, 25)").asks("judge()", 1);
        // who was sung to sleep by the row before can't sing, nor be sung to
        x.then("alterRow(1, 0, 1)").asks("judge()", 2).then("alterRow(1, 0, 0)").asks("judge()", 2);
        x.then("alterRow(1, 1, 38)").asks("judge()", 2).then("alterRow(1, 1, 2)").asks("judge()", 2);
        x.then("alterRow(0, 0, 5)").asks("judge()", 0);
        x.then("voice(3, 55)").asks("judge()", 0);
        x.then("voice(3, 54)").asks("judge()", 2);
        x.then("voice(0, 5)").asks("judge()", 0);
        x.then("voice(0, 4)").asks("judge()", 1);
        x.then("turn(5, 4)").asks("judge()", 2);
    }

    /** Terms, THE READER: "if all are, but the NIGHT isn't OVER by them: 222". */
    private static void judgeNotOver() {
        Scene x = new Scene("tell sleeper 10;sleeper 20;sleeper 30;", "prove()").asks("judge()", 0);
        x.then("alterRow(0, 1, 2)").asks("judge()", 222);
        x.then("alterRow(0, 1, 2)", "alterRow(0, 2, 19)").asks("judge()", 1);
        x.then("person(0, 5)").asks("judge()", 222);
        Scene.MIDST.then("wake(4)").asks("judge()", 222);
        ALL_DEAF.then("alterRow(0, 1, 0)").asks("judge()", 1);
    }

    /** Terms, THE READER: "if it was OVER ahead of a row, that one is wrong". */
    private static void judgeOverAhead() {
        Scene x = new Scene("tell deaf 5;deaf 6;deaf 7;", "prove()");
        x.answers("row(0, 0)", 0).answers("row(0, 1)", 2).answers("row(1, 0)", 2).answers("row(1, 1)", 1).asks("judge()", 0);
        x.then("turn(0, 2)", "turn(1, 2)", "alterRow(0, 0, 2)", "alterRow(0, 1, 3)").asks("judge()", 2);
        x.then("sing(2, 2)", "sing(2, 1)").asks("judge()", 1);
        new Scene("tell old 5;old 6;", "prove()", "sing(0, 2)").asks("judge()", 1);
        new Scene("keep()", "tell old 5;old 6;", "prove()", "again()").answers("many(2)", 1).asks("judge()", 1);
    }

    /** Terms: "THE READER takes ROWS as SONGS from now on", with MINUTE as it is now. */
    private static void judgeFromNowOn() {
        Scene x = Scene.MIDST.then("sing(0, 2)");
        x.asks("judge()", 1);
        x.then("wake(1)").asks("judge()", 1).then("alterRow(0, 2, 35)", "alterRow(1, 2, 90)").asks("judge()", 0);
        Scene.MIDST.then("older()").asks("judge()", 1);
        Scene.MIDST.then("day()").asks("judge()", 1);
        // the reader asks for no LEAST: a longer row of songs is right, too
        Scene longer = new Scene("tell sleeper 10;sleeper 20;", "prove()", "alterRow(0, 0, 0)", "alterRow(0, 1, 2)");
        longer.asks("judge()", 1).then("alterRow(0, 2, 20)").asks("judge()", 0);
    }

    private static Scene eightWithBytes() {
        Scene x = new Scene("tell old 1;old 2;old 3;old 4;old 5;old 6;old 7;old 8;asleep 6;", "sheet(2, 0, 9)");
        for (int i = 0; i < 9; i++) x = x.then("put(2, " + i + ", " + (10 + i) + ")");
        return x;
    }

    /** Promise 35: "n numbers (0 to 8) .. become AGES of PEOPLE from one on: n". */
    private static void agesNumbers() {
        Scene x = eightWithBytes();
        x.asks("ages(2, 0, 0, 0)", 0).asks("ages(2, 9, 7, 0)", 0).answers("ages(2, 0, 0, 8)", 8).answers("ages(2, 1, 0, 8)", 8);
        x.answers("ages(2, 8, 7, 1)", 1).refuses("ages(2, 0, 0, -1)", BAD).refuses("ages(2, 0, 0, 9)", BAD);
        for (int i = 0; i < 8; i++) {
            x.then("ages(2, 0, 0, 8)").answers("personOf(" + i + ", 1)", 10 + i);
            x.then("ages(2, 1, 0, 8)").answers("personOf(" + i + ", 1)", 11 + i);
            x.then("ages(2, 5, 3, 2)").answers("personOf(" + i + ", 1)", i == 3 ? 15 : i == 4 ? 16 : 1 + i);
        }
        x.then("ages(2, 8, 7, 1)").answers("personOf(7, 1)", 18).answers("personOf(6, 1)", 7);
    }

    /** Promise 35: "(held to 1 to 90)". */
    private static void agesHeld() {
        int[][] held = {{0, 1}, {1, 1}, {2, 2}, {-1, 1}, {-128, 1}, {89, 89}, {90, 90}, {91, 90}, {127, 90}, {128, 1}, {256, 1},
            {346, 90}, {347, 90}, {345, 89}};
        for (int[] h : held) {
            Scene x = new Scene("tell old 50;child 9;", "sheet(0, 0, 1)", "put(0, 0, " + h[0] + ")");
            x.answers("ages(0, 0, 1, 1)", 1).then("ages(0, 0, 1, 1)").answers("personOf(1, 1)", h[1]).answers("personOf(0, 1)", 50);
        }
    }

    /** Promise 35: "BAD: no such SHEET, PERSON, n, or n goes beyond the last one". */
    private static void agesBad() {
        Scene x = Scene.MIDST;
        String[] bad = {"-1, 0, 0, 1", "4, 0, 0, 1", "MIN, 0, 0, 1", "MAX, 0, 0, 1", "0, 0, -1, 1", "0, 0, 6, 0", "0, 0, 6, 1",
            "0, 0, MIN, 1", "0, 0, MAX, 1", "0, 0, 0, -1", "0, 0, 0, 9", "0, 0, 0, MIN", "0, 0, 0, MAX", "0, 0, 5, 2",
            "0, 0, 4, 3", "0, 0, 3, 4", "0, 0, 0, 7", "0, 0, 0, 8", "0, 0, 5, MAX"};
        for (String four : bad) x.refuses("ages(" + four + ")", BAD);
        x.answers("ages(0, 0, 5, 1)", 1).answers("ages(0, 0, 4, 2)", 2).answers("ages(0, 0, 1, 5)", 5).asks("ages(0, 0, 5, 0)", 0);
        Scene.NEW.refuses("ages(0, 0, 0, 0)", BAD);
    }

    /** Promise 35: "-11; -13; -12", in that order, behind BAD. */
    private static void agesHost() {
        Scene x = Scene.MIDST;
        x.refuses("ages(2, 0, 0, 1)", -11).refuses("ages(2, -1, 0, 0)", -11).refuses("ages(2, 0, 0, 0)", -11);
        x.refuses("ages(1, 0, 0, 1)", -13).refuses("ages(1, -1, 0, 1)", -13).refuses("ages(3, 0, 0, 0)", -13);
        x.refuses("ages(2, 0, 6, 1)", BAD).refuses("ages(1, 0, 6, 1)", BAD).refuses("ages(0, -1, 6, 1)", BAD);
        x.refuses("ages(2, 0, 0, 9)", BAD).refuses("ages(1, 0, 0, -1)", BAD).refuses("ages(0, 9, 0, 7)", BAD);
        for (int sort = 1; sort < 4; sort++) x.then("sheet(0, " + sort + ", 5)").refuses("ages(0, 0, 0, 1)", -13);
    }

    /** Promise 35: "from i on": -12 where a number would lie outside. */
    private static void agesPlaces() {
        Scene x = Scene.MIDST;
        x.answers("ages(0, 0, 0, 5)", 5).answers("ages(0, 4, 0, 1)", 1).answers("ages(0, 3, 0, 2)", 2).asks("ages(0, 5, 0, 0)", 0);
        String[] outside = {"-1, 0, 0", "-1, 0, 1", "5, 0, 1", "4, 0, 2", "1, 0, 5", "6, 0, 0", "0, 0, 6", "MIN, 0, 1", "MAX, 0, 1",
            "MAX, 0, 5", "MAX, 0, 0", "MIN, 0, 0"};
        for (String three : outside) x.refuses("ages(0, " + three + ")", -12);
        Scene none = x.then("sheet(0, 0, 0)").asks("ages(0, 0, 0, 0)", 0);
        none.refuses("ages(0, 0, 0, 1)", -12).refuses("ages(0, 1, 0, 0)", -12);
    }
}
