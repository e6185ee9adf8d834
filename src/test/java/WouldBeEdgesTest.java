/** The boundary cases of promises 19 to 30, sentence by sentence: what would be, from now on. */
public final class WouldBeEdgesTest {
    private static final int BAD = SungAsleep.BAD, NONE = SungAsleep.NONE;
    private static final Scene ONE = new Scene("tell deaf 9 voice 0;");
    private static final Scene CANT = new Scene("tell sleeper 10 voice 19;sleeper 20 voice 9;child 3;asleep 2;", "prove()");
    private static final Scene ALL_DEAF = new Scene("tell deaf 1;deaf 2;deaf 3;deaf 4;deaf 5;deaf 6;deaf 7;deaf 8;");
    private static final Scene ALL_SLEEPERS = new Scene(
        "tell sleeper 10;sleeper 20;sleeper 30;sleeper 40;sleeper 50;sleeper 60;sleeper 70;sleeper 80;");

    public static void main(String[] args) {
        leastOfNobodyAndOne();
        leastByVoices();
        leastFromNowOn();
        leastOfEight();
        planAskedFor();
        planThatIsNone();
        planOfNobodyAndOne();
        planLength();
        planOrder();
        last();
        with();
        silent();
        waysFew();
        waysMost();
        inTurn();
        dearestLeftOut();
        dearestOfZero();
        hoarse();
        tent();
        oneQuestionBehindAnother();
        seed();
        drawOfNobody();
        drawPlaces();
        Scene.end();
    }

    /** Promise 19: "LEAST": where the NIGHT is OVER already it is 0. */
    private static void leastOfNobodyAndOne() {
        Scene.NEW.asks("least()", 0);
        ONE.asks("least()", 0);
        new Scene("tell old 5 voice 0;old 6;asleep 1;").asks("least()", 0);
        new Scene("tell old 5;old 6;").asks("least()", 10);
    }

    /** Promise 19: "NONE: it can't be OVER"; Terms: "each SONG as told, by VOICES": as much as VOICE is right. */
    private static void leastByVoices() {
        int[][] voices = {{19, 10, 10}, {20, 9, 20}, {19, 9, NONE}, {20, 10, 10}, {0, 10, 10}, {20, 0, 20}, {0, 0, NONE},
            {200, 200, 10}, {19, 0, NONE}, {0, 9, NONE}};
        for (int[] v : voices) {
            Scene x = new Scene("tell sleeper 10 voice " + v[0] + ";sleeper 20 voice " + v[1] + ";");
            x.asks("least()", v[2]);
        }
        CANT.refuses("least()", NONE);
        // together they last as long as the one who NEEDS most; one by one the voice is enough for none but the first
        new Scene("tell sleeper 10;sleeper 20 voice 0;sleeper 90 voice 10;").answers("least()", 30);
        new Scene("tell sleeper 10;sleeper 20 voice 0;sleeper 90 voice 9;").answers("least()", 90);
        new Scene("tell sleeper 10 voice 89;sleeper 20 voice 0;sleeper 90 voice 9;").answers("least()", NONE);
        Scene.MIDST.asks("least()", 60);
    }

    /** Terms: "All from now on": who sleeps is asleep, MINUTE isn't counted. */
    private static void leastFromNowOn() {
        Scene x = new Scene("tell sleeper 10;sleeper 20;deaf 30;sleeper 90;").answers("least()", 55);
        x.then("sing(0, 4)").answers("least()", 20).answers("night(0)", 35);
        x.then("sing(0, 4)", "sing(3, 3)").answers("least()", 0);
        x.then("sing(0, 4)", "sing(3, 3)", "day()").answers("least()", 55);
        x.then("sing(0, 4)", "wake(2)").answers("least()", 55);
        // the table that was made for the question before doesn't stand in for what has changed since
        x.then("least()", "older()").answers("least()", 57);
        x.then("least()", "turn(2, 2)").answers("least()", 35);
        x.then("least()", "voice(2, 0)", "voice(3, 0)").answers("least()", 125);
        x.then("keep()", "sing(0, 4)", "least()", "again()").answers("least()", 55);
        x.then("least()", "person(0, 25)").answers("least()", 60);
        x.then("least()", "tell old 5;old 6;").answers("least()", 10);
    }

    /** Terms: PEOPLE, "8 at most", "three at most at a time". */
    private static void leastOfEight() {
        ALL_SLEEPERS.answers("least()", 70 + 40 + 10);
        ALL_DEAF.answers("least()", 6 + 7 + 8 + 9 + 10 + 11 + 12);
        // the three of the least and of the highest numbers
        new Scene("tell sleeper 50;sleeper 50;sleeper 50;sleeper 9;sleeper 9;sleeper 9;sleeper 9;sleeper 90;").answers("least()", 68);
        new Scene("tell sleeper 90;sleeper 9;sleeper 9;sleeper 9;sleeper 9;sleeper 50;sleeper 50;sleeper 50;").answers("least()", 68);
        new Scene("tell sleeper 10;sleeper 20;sleeper 30;sleeper 40;").answers("least()", 30);
        new Scene("tell sleeper 10;sleeper 20;sleeper 30;sleeper 40;sleeper 50;").answers("least()", 50);
        Scene oldest = new Scene("tell deaf 90;deaf 90;deaf 90;deaf 90;deaf 90;deaf 90;deaf 90;deaf 90;");
        oldest.answers("least()", 7 * 95).answers("tent()", 7 * 95).answers("hoarse()", 95).answers("plan(0)", 7);
    }

    /** Promise 20: "what = 0 .., 1 .., 10 + i .., 20 + i. BAD: another what (i 0 to 7)". */
    private static void planAskedFor() {
        Scene x = Scene.MIDST;
        x.asks("plan(0)", 2).asks("plan(1)", 3).asks("plan(10)", 0).asks("plan(11)", 3).asks("plan(20)", 2).asks("plan(21)", 37);
        String[] bad = {"-1", "2", "3", "8", "9", "18", "19", "28", "29", "30", "31", "37", "100", "110", "-10", "-3", "MIN",
            "MAX", "-2147483638"};
        for (String what : bad) {
            x.refuses("plan(" + what + ")", BAD);
            // of several the first named
            CANT.refuses("plan(" + what + ")", BAD);
            Scene.NEW.refuses("plan(" + what + ")", BAD);
        }
    }

    /** Promise 20: "NONE: there is none, no such SONG". */
    private static void planThatIsNone() {
        int[] all = {0, 1, 10, 17, 20, 27};
        for (int what : all) CANT.refuses("plan(" + what + ")", NONE);
        for (int i = 2; i < 8; i++) {
            Scene.MIDST.refuses("plan(" + (10 + i) + ")", NONE).refuses("plan(" + (20 + i) + ")", NONE);
        }
        for (int i = 0; i < 8; i++) {
            ONE.refuses("plan(" + (10 + i) + ")", NONE).refuses("plan(" + (20 + i) + ")", NONE);
            Scene.NEW.refuses("plan(" + (10 + i) + ")", NONE).refuses("plan(" + (20 + i) + ")", NONE);
        }
    }

    /** Promise 20: "1 who is last (-9: nobody is awake)"; no SONG is needed where the NIGHT is OVER. */
    private static void planOfNobodyAndOne() {
        Scene.NEW.asks("plan(0)", 0).asks("plan(1)", -9);
        ONE.asks("plan(0)", 0).asks("plan(1)", 0);
        Scene last = new Scene("tell deaf 1;deaf 2;deaf 3;asleep 0;asleep 1;");
        last.asks("plan(0)", 0).asks("plan(1)", 2);
    }

    /** Promise 20: seven SONGS are the most that eight can need: SONG 6 is, SONG 7 is not, SONG 8 can't be asked for. */
    private static void planLength() {
        ALL_DEAF.answers("plan(0)", 7).answers("plan(1)", 7);
        ALL_DEAF.answers("plan(16)", 7).answers("plan(26)", 1).answers("plan(15)", 0).answers("plan(25)", 64);
        ALL_DEAF.refuses("plan(17)", NONE).refuses("plan(27)", NONE).refuses("plan(18)", BAD).refuses("plan(28)", BAD);
        ALL_SLEEPERS.answers("plan(0)", 3).answers("plan(12)", 7).answers("plan(13)", NONE).answers("plan(23)", NONE);
    }

    /** Terms, PLAN: "the one with the fewest SONGS; of several the first, SONG by SONG, by the singer, then by whom". */
    private static void planOrder() {
        // 20 and 10 in two songs would end with 0 last as well, but one song is fewer
        Scene fewest = new Scene("tell sleeper 30;sleeper 20;deaf 5;");
        fewest.answers("least()", 30).answers("last()", 5).answers("plan(0)", 1).answers("plan(10)", 2).answers("plan(20)", 3);
        Scene alike = new Scene("tell sleeper 5;sleeper 5;sleeper 5;sleeper 5;");
        alike.answers("plan(0)", 1).answers("plan(10)", 0).answers("plan(20)", 14).answers("plan(1)", 0);
        Scene five = new Scene("tell sleeper 5;sleeper 5;sleeper 5;sleeper 5;sleeper 5;");
        five.answers("plan(0)", 2).answers("plan(10)", 0).answers("plan(20)", 2).answers("plan(11)", 0).answers("plan(21)", 28);
        Scene hoarse = five.then("voice(0, 4)");
        hoarse.answers("plan(10)", 1).answers("plan(20)", 1).answers("plan(11)", 1).answers("plan(21)", 28).answers("plan(1)", 1);
        five.then("voice(0, 5)").answers("plan(10)", 0);
    }

    /** Promise 21: "LAST: a set (0: it can't be OVER)". */
    private static void last() {
        CANT.asks("last()", 0);
        Scene.NEW.asks("last()", 0);
        ONE.asks("last()", 1);
        new Scene("tell sleeper 5;sleeper 5;").asks("last()", 3);
        new Scene("tell sleeper 5 voice 4;sleeper 5 voice 5;").asks("last()", 2);
        new Scene("tell sleeper 5;sleeper 5;sleeper 5;sleeper 5;sleeper 5;sleeper 5;sleeper 5;sleeper 5;").asks("last()", 255);
        ALL_DEAF.asks("last()", 128);
        Scene.MIDST.asks("last()", 8);
    }

    /** Promise 22: "WITH. BAD; NONE." */
    private static void with() {
        Scene x = Scene.MIDST;
        x.asks("with(3)", 60).refuses("with(4)", NONE);
        String[] outside = {"-1", "6", "8", "MIN", "MAX"};
        for (String who : outside) x.refuses("with(" + who + ")", BAD);
        Scene.NEW.refuses("with(0)", BAD);
        ONE.asks("with(0)", 0).refuses("with(1)", BAD);
        CANT.refuses("with(0)", NONE).refuses("with(1)", NONE).refuses("with(2)", NONE).refuses("with(3)", BAD);
        Scene two = new Scene("tell sleeper 10;sleeper 20;").asks("with(0)", 20).asks("with(1)", 10);
        two.then("voice(0, 20)").answers("with(0)", 20);
        two.then("voice(0, 19)").refuses("with(0)", NONE).answers("with(1)", 10);
        // the last one needs a voice for the last song alone
        new Scene("tell sleeper 10;sleeper 20;sleeper 30 voice 10;").answers("with(2)", 30);
        new Scene("tell sleeper 10;sleeper 20;sleeper 30 voice 9;").answers("with(2)", NONE);
    }

    /** Promise 23: "SILENT. BAD; NONE." */
    private static void silent() {
        Scene x = Scene.MIDST;
        x.asks("silent(0)", 60).asks("silent(3)", 75).asks("silent(4)", 60);
        String[] outside = {"-1", "6", "8", "MIN", "MAX"};
        for (String who : outside) x.refuses("silent(" + who + ")", BAD);
        Scene.NEW.refuses("silent(0)", BAD);
        ONE.asks("silent(0)", 0).refuses("silent(1)", BAD);
        CANT.refuses("silent(0)", NONE).refuses("silent(1)", NONE).refuses("silent(2)", NONE).refuses("silent(3)", BAD);
        Scene two = new Scene("tell sleeper 10;sleeper 20;").asks("silent(0)", 10).asks("silent(1)", 20);
        two.then("voice(0, 19)").refuses("silent(1)", NONE).answers("silent(0)", 10);
        two.then("voice(1, 9)").refuses("silent(0)", NONE).answers("silent(1)", 20);
    }

    /** Promise 24: "WAYS (0: it can't be OVER)"; where it is OVER the row without a SONG is the one way. */
    private static void waysFew() {
        CANT.asks("ways()", 0);
        Scene.NEW.asks("ways()", 1);
        ONE.asks("ways()", 1);
        new Scene("tell old 5;old 6;asleep 0;").asks("ways()", 1);
        new Scene("tell old 5;old 6;").asks("ways()", 1);
        new Scene("tell old 5;old 5;").asks("ways()", 2);
        new Scene("tell old 5 voice 9;old 5 voice 10;").asks("ways()", 1);
    }

    /** Rows of songs among deaf ones who all NEED the same, some with a voice and some without. */
    private static long rowsOf(int able, int unable) {
        if (able + unable == 1) return 1;
        long rows = 0;
        if (unable > 0) rows += (long) unable * able * rowsOf(able, unable - 1);
        if (able > 1) rows += (long) able * (able - 1) * rowsOf(able - 1, unable);
        return rows;
    }

    private static Scene people(int[][] kindAgeVoice) {
        Scene x = Scene.NEW;
        for (int i = 0; i < kindAgeVoice.length; i++) {
            int[] p = kindAgeVoice[i];
            x = x.then("person(" + p[0] + ", " + p[1] + ")", "voice(" + i + ", " + p[2] + ")");
        }
        return x;
    }

    /** Terms, WAYS: "1000000 at most". */
    private static void waysMost() {
        for (int able = 1; able <= 8; able++) {
            for (int unable = 0; able + unable <= 8; unable++) {
                int[][] deaf = new int[able + unable][];
                for (int i = 0; i < deaf.length; i++) deaf[i] = new int[] {4, 1, i < able ? 6 : 5};
                people(deaf).answers("ways()", (int) Math.min(1000000, rowsOf(able, unable)));
            }
        }
        // counted by another program: 999956 rows of 53 minutes, 1000063 rows of 52
        int[][] inside = {{4, 4, 100}, {4, 2, 5}, {4, 2, 5}, {0, 8, 7}, {4, 4, 7}, {4, 2, 100}, {4, 4, 6}, {4, 1, 7}};
        people(inside).answers("least()", 53).answers("ways()", 999956);
        int[][] outside = {{0, 6, 8}, {4, 1, 0}, {4, 4, 9}, {4, 2, 6}, {4, 3, 9}, {4, 3, 5}, {4, 3, 6}, {4, 4, 7}};
        people(outside).answers("least()", 52).answers("ways()", 1000000);
    }

    /** Promise 25: "TURN: who. NONE."; "the one with the fewest LASTS, of several the least". */
    private static void inTurn() {
        CANT.refuses("inTurn()", NONE);
        Scene.NEW.refuses("inTurn()", NONE);
        ONE.asks("inTurn()", 0);
        Scene x = new Scene("tell sleeper 10;sleeper 20;sleeper 30;").asks("inTurn()", 0);
        x.then("lasts(0, 1)").asks("inTurn()", 1).then("lasts(1, 1)").asks("inTurn()", 2).then("lasts(2, 1)").asks("inTurn()", 0);
        x.then("lasts(0, 999)", "lasts(1, 998)", "lasts(2, 999)").asks("inTurn()", 1);
        x.then("lasts(0, 999)", "lasts(1, 999)", "lasts(2, 999)").asks("inTurn()", 0);
        // those with whom it can't be OVER, and those asleep, are not asked
        x.then("voice(0, 9)").asks("inTurn()", 1);
        x.then("voice(0, 20)").asks("inTurn()", 0);
        x.then("sing(2, 1)").asks("inTurn()", 1);
        // it need not be with LEAST minutes
        x.asks("last()", 4);
        Scene.MIDST.asks("inTurn()", 0).then("lasts(0, 3)").asks("inTurn()", 1);
    }

    /** Promise 26: "NONE: there is no LEAST, or none who can be left out"; "those without whom it can't be OVER are left out". */
    private static void dearestLeftOut() {
        CANT.refuses("dearest()", NONE);
        Scene.NEW.refuses("dearest()", NONE);
        Scene only = new Scene("tell sleeper 10 voice 0;sleeper 20 voice 0;sleeper 5;").asks("dearest()", 1);
        only.then("voice(0, 19)").asks("dearest()", 1);
        only.then("voice(0, 20)", "voice(1, 10)").asks("dearest()", 0);
        // without 0 as without 2 it is less by 10, if 2 can sing for 10 minutes
        new Scene("tell sleeper 50;sleeper 10 voice 0;sleeper 20 voice 10;").asks("dearest()", 0);
        new Scene("tell sleeper 50;sleeper 10 voice 0;sleeper 20 voice 9;").asks("dearest()", 2);
        new Scene("tell sleeper 5;sleeper 20 voice 0;sleeper 10 voice 0;").asks("dearest()", 1);
        // who sleeps isn't left out, though of a number below
        new Scene("tell sleeper 90;sleeper 10;sleeper 20;asleep 0;").asks("dearest()", 1);
    }

    /** Terms, DEAREST: "LEAST is less by most (0 and below, too), of several the least". */
    private static void dearestOfZero() {
        ONE.asks("dearest()", 0);
        new Scene("tell old 5;old 6;asleep 0;").asks("dearest()", 1);
        new Scene("tell sleeper 5;sleeper 5;sleeper 5;").asks("dearest()", 0);
        // without 0 it is 60 for 55, without 1 or 2 it is 5
        new Scene("tell sleeper 5;sleeper 60 voice 5;sleeper 50;").answers("least()", 55).answers("dearest()", 1);
        // without 0 it is more by 10, without any other the same
        Scene zero = people(new int[][] {{0, 5, 50}, {0, 50, 60}, {0, 5, 0}, {0, 50, 50}, {0, 60, 5}, {0, 50, 50}});
        zero.answers("least()", 55).answers("dearest()", 1);
        new Scene("tell sleeper 10;sleeper 20;").asks("dearest()", 0);
        new Scene("tell sleeper 10;sleeper 20;sleeper 30;").asks("dearest()", 1);
    }

    /** Promise 27: "HOARSE"; "the least VOICE (0 to 200) that, if each had it, would let the NIGHT be OVER". */
    private static void hoarse() {
        Scene.NEW.asks("hoarse()", 0);
        ONE.asks("hoarse()", 0);
        CANT.asks("hoarse()", 10);
        new Scene("tell sleeper 1;sleeper 90;").asks("hoarse()", 1);
        new Scene("tell old 90;old 90;").asks("hoarse()", 95);
        new Scene("tell restless 90;restless 90;").asks("hoarse()", 92);
        new Scene("tell old 90;old 89;").asks("hoarse()", 94);
        new Scene("tell sleeper 7;sleeper 9;sleeper 8;").asks("hoarse()", 8);
        Scene.MIDST.asks("hoarse()", 45);
        // it is just enough: one less is not
        for (int voice = 44; voice <= 45; voice++) {
            Scene x = Scene.MIDST;
            for (int i = 0; i < 6; i++) x = x.then("voice(" + i + ", " + voice + ")");
            x.answers("hoarse()", 45).answers("last()", voice == 45 ? 4 : 0);
        }
    }

    /** Promise 28: "TENT"; "a stranger sings .. (to three at most, deaf ones alone ..) till the NIGHT is OVER". */
    private static void tent() {
        Scene.NEW.asks("tent()", 0);
        ONE.asks("tent()", 0);
        CANT.asks("tent()", 10);
        Scene.MIDST.asks("tent()", 60);
        ALL_SLEEPERS.asks("tent()", 120);
        ALL_DEAF.asks("tent()", 63);
        new Scene("tell old 90 voice 0;old 90 voice 0;").asks("tent()", 95);
        new Scene("tell sleeper 9 voice 0;sleeper 8 voice 0;sleeper 7 voice 0;sleeper 6 voice 0;").asks("tent()", 8);
        new Scene("tell sleeper 9 voice 0;sleeper 8 voice 0;sleeper 7 voice 0;sleeper 6 voice 0;sleeper 5 voice 0;").asks("tent()", 13);
        new Scene("tell deaf 9 voice 0;deaf 8 voice 0;sleeper 7;").asks("tent()", 20);
    }

    /** Promises 19 to 28, "All from now on": no question depends on those before, with or without a change in between. */
    private static void oneQuestionBehindAnother() {
        String[] questions = {"least()", "plan(0)", "plan(10)", "plan(21)", "last()", "with(0)", "with(2)", "silent(0)", "silent(3)",
            "ways()", "inTurn()", "dearest()", "hoarse()", "tent()", "prove()"};
        String[] changes = {"many(0)", "sing(2, 2)", "wake(4)", "voice(3, 44)", "turn(3, 2)", "turn(1, 4)", "person(4, 3)", "day()",
            "again()", "older()", "sheet(0, 0, 5)"};
        for (String change : changes) {
            for (String second : questions) {
                int due = Scene.answer(Scene.MIDST.then(change).made(), second);
                for (String first : questions) Scene.MIDST.then(first, change).answers(second, due);
            }
        }
    }

    /** Promise 29: "z becomes v: what it was": any int, so that an answer below 0 is no refusal. */
    private static void seed() {
        Scene.NEW.answers("seed(5)", 1);
        String[] ints = {"0", "1", "-1", "-3", "MIN", "MAX"};
        for (String v : ints) {
            int due = v.equals("MIN") ? Integer.MIN_VALUE : v.equals("MAX") ? Integer.MAX_VALUE : Integer.parseInt(v);
            Scene.MIDST.then("seed(" + v + ")").answers("seed(9)", due).then("seed(9)").answers("seed(0)", 9);
        }
    }

    /** Promise 30: "NONE: nobody is awake": z stays. */
    private static void drawOfNobody() {
        Scene.NEW.refuses("draw()", NONE).then("draw()", "draw()").answers("seed(0)", 1);
        Scene.NEW.then("seed(77)", "draw()").answers("seed(0)", 77);
    }

    /** Terms, DRAWN: z is an int and wraps; "the one at place (z >>> 16) modulo how many". */
    private static void drawPlaces() {
        String[] seeds = {"0", "1", "-1", "MIN", "MAX", "2", "-2", "123456789"};
        for (String seed : seeds) {
            int z = seed.equals("MIN") ? Integer.MIN_VALUE : seed.equals("MAX") ? Integer.MAX_VALUE : Integer.parseInt(seed);
            int next = z * 1103515245 + 12345;
            Scene people = Scene.NEW;
            for (int n = 1; n <= 8; n++) {
                people = people.then("person(0, 5)");
                Scene x = people.then("seed(" + seed + ")");
                x.answers("draw()", (next >>> 16) % n).then("draw()").answers("seed(0)", next);
            }
        }
        // those awake, by numbers: with 1 and 2 asleep the places are 0, 3, 4
        Scene some = new Scene("tell old 5;old 5;old 5;old 5;old 5;asleep 1;asleep 2;");
        int[] awake = {0, 3, 4};
        for (int seed = 0; seed < 20; seed++) {
            int next = seed * 1103515245 + 12345;
            some.then("seed(" + seed + ")").answers("draw()", awake[(next >>> 16) % 3]);
        }
    }
}
