/** The boundary cases of promises 11 to 18, sentence by sentence: songs, nights, days, what is owed, rings. */
public final class NightsEdgesTest {
    private static final int BAD = SungAsleep.BAD, NONE = SungAsleep.NONE, STATE = SungAsleep.STATE;
    private static final String EIGHT = "old 1;old 1;old 1;old 1;old 1;old 1;old 1;old 1;";

    public static void main(String[] args) {
        needs();
        noSuchSinger();
        noSuchSet();
        oneToThree();
        whoIsAwake();
        deafAlone();
        voiceJustEnough();
        badAheadOfState();
        behindASong();
        lastOneAwake();
        travellersPay();
        owedIsHeld();
        mayAnswers();
        wake();
        night();
        over();
        dayWithOneAwake();
        dayWithoutOne();
        dayLessens();
        owed();
        owe();
        ringOfThree();
        ringOfOneOrMore();
        firstRing();
        Scene.end();
    }

    /** Terms, NEEDS: "by 2 (cut), and 1", "and 5", "twice as a child", at the least and the greatest AGES. */
    private static void needs() {
        int[] ages = {1, 2, 3, 89, 90};
        int[][] want = {{1, 2, 3, 89, 90}, {1, 2, 2, 45, 46}, {6, 7, 8, 94, 95}, {2, 4, 4, 90, 92}, {6, 7, 8, 94, 95},
            {1, 2, 3, 89, 90}};
        for (int kind = 0; kind < 6; kind++) {
            for (int i = 0; i < ages.length; i++) {
                Scene x = Scene.NEW.then("person(0, 50)", "person(" + kind + ", " + ages[i] + ")");
                x.answers("personOf(1, 3)", want[kind][i]).answers("sing(0, 2)", want[kind][i]);
            }
        }
    }

    /** Promise 11: "BAD: no such singer"; promise 12: "BAD as sing()". */
    private static void noSuchSinger() {
        String[] singers = {"-1", "6", "7", "8", "32", "MIN", "MAX"};
        for (String singer : singers) {
            Scene.MIDST.refuses("sing(" + singer + ", 2)", BAD).refuses("may(" + singer + ", 2)", BAD);
        }
        Scene.NEW.refuses("sing(0, 1)", BAD).refuses("may(0, 1)", BAD).refuses("sing(0, 2)", BAD).refuses("sing(0, 0)", BAD);
        Scene.MIDST.answers("sing(5, 1)", 30).answers("sing(0, 32)", 12);
    }

    /** Promise 11: "BAD: no such .. set (bits of PEOPLE ..)". */
    private static void noSuchSet() {
        String[] sets = {"64", "66", "128", "256", "1073741824", "MIN", "-2147483646", "-1", "-2", "MAX"};
        for (String whom : sets) Scene.MIDST.refuses("sing(0, " + whom + ")", BAD).refuses("may(0, " + whom + ")", BAD);
        Scene eight = new Scene("tell " + EIGHT);
        eight.answers("sing(0, 128)", 6).answers("sing(7, 1)", 6).answers("sing(0, 224)", 6);
        eight.refuses("sing(0, 256)", BAD).refuses("sing(0, 258)", BAD).refuses("sing(8, 1)", BAD);
        new Scene("tell old 5;").refuses("sing(0, 2)", BAD).refuses("sing(0, 1)", STATE);
    }

    /** Promise 11: the set has "1 to 3"; Terms: "to 1 to 3 others". */
    private static void oneToThree() {
        Scene x = Scene.MIDST;
        x.answers("sing(0, 2)", 5).answers("sing(0, 34)", 12).answers("sing(0, 38)", 55);
        x.refuses("sing(0, 0)", BAD).refuses("sing(0, 46)", BAD).refuses("sing(4, 47)", BAD).refuses("sing(0, 63)", BAD);
        x.refuses("may(0, 0)", BAD).refuses("may(0, 46)", BAD).refuses("may(0, 63)", BAD);
        Scene eight = new Scene("tell " + EIGHT);
        eight.answers("sing(0, 14)", 6).answers("sing(0, 146)", 6);
        eight.refuses("sing(0, 30)", BAD).refuses("sing(0, 254)", BAD).refuses("sing(0, 255)", BAD);
    }

    /** Promise 11: "STATE: one isn't awake, the singer is among them". */
    private static void whoIsAwake() {
        Scene x = Scene.MIDST;
        x.refuses("sing(0, 16)", STATE).refuses("sing(0, 18)", STATE).refuses("sing(0, 50)", STATE);
        x.refuses("sing(4, 2)", STATE).refuses("sing(4, 16)", STATE);
        x.refuses("sing(0, 1)", STATE).refuses("sing(0, 3)", STATE).refuses("sing(5, 35)", STATE);
        x.then("wake(4)").answers("sing(0, 16)", 25).answers("sing(4, 2)", 5).answers("sing(0, 50)", 25);
    }

    /** Promise 11: "STATE: .. a deaf one isn't alone"; a deaf one sings as others do. */
    private static void deafAlone() {
        Scene x = Scene.MIDST;
        x.answers("sing(0, 8)", 45).answers("sing(5, 8)", 45).answers("sing(3, 2)", 5).answers("sing(3, 7)", 55);
        x.refuses("sing(0, 10)", STATE).refuses("sing(0, 42)", STATE).refuses("sing(2, 9)", STATE).refuses("sing(2, 11)", STATE);
        Scene two = new Scene("tell deaf 5;deaf 6;old 90;");
        two.refuses("sing(2, 3)", STATE).answers("sing(2, 1)", 10).answers("sing(2, 2)", 11);
        Scene turned = two.then("turn(0, 2)", "turn(1, 2)");
        turned.answers("sing(2, 3)", 11);
        turned.then("turn(0, 4)").refuses("sing(2, 3)", STATE);
    }

    /** Promise 11: "STATE: .. it NEEDS more than VOICE": as much as VOICE is right, of several the one who NEEDS most counts. */
    private static void voiceJustEnough() {
        Scene.MIDST.then("voice(0, 55)").answers("sing(0, 4)", 55).answers("sing(0, 38)", 55);
        Scene.MIDST.then("voice(0, 54)").refuses("sing(0, 4)", STATE).refuses("sing(0, 38)", STATE).answers("sing(0, 34)", 12);
        Scene.MIDST.then("voice(0, 5)").answers("sing(0, 2)", 5).refuses("sing(0, 34)", STATE);
        Scene.MIDST.then("voice(0, 4)").refuses("sing(0, 2)", STATE);
        Scene.MIDST.then("voice(0, 0)").refuses("sing(0, 2)", STATE).refuses("may(0, 2)", 0);
        Scene most = new Scene("tell old 90;old 90;sleeper 1;");
        most.then("voice(0, 95)").answers("sing(0, 2)", 95);
        most.then("voice(0, 94)").refuses("sing(0, 2)", STATE);
        most.then("voice(0, 200)").answers("sing(0, 2)", 95);
        most.then("voice(0, 1)").answers("sing(0, 4)", 1);
        most.then("voice(0, 0)").refuses("sing(0, 4)", STATE);
        // VOICE is for one stretch: what one has SUNG ahead doesn't count
        Scene tired = new Scene("tell sleeper 9 voice 9;sleeper 9;sleeper 9;sleeper 9;", "sing(0, 2)", "sing(0, 4)");
        tired.answers("sing(0, 8)", 9).answers("personOf(0, 4)", 18);
    }

    /** Terms: "of several the first named": BAD ahead of STATE. */
    private static void badAheadOfState() {
        Scene x = Scene.MIDST;
        x.refuses("sing(4, 0)", BAD).refuses("sing(4, 64)", BAD).refuses("sing(4, 46)", BAD).refuses("sing(0, 65)", BAD);
        x.refuses("sing(0, 31)", BAD).refuses("sing(6, 16)", BAD).refuses("sing(0, 80)", BAD).refuses("sing(0, 72)", BAD);
        x.then("voice(0, 0)").refuses("sing(0, 46)", BAD).refuses("sing(0, 0)", BAD);
    }

    /** Terms: "they are asleep behind it; MINUTE, SUNG are more by it. Each of them OWES the singer what that one NEEDS". */
    private static void behindASong() {
        Scene x = Scene.MIDST.then("sing(0, 38)");
        x.answers("night(0)", 80).answers("night(1)", 9).answers("night(3)", 80).answers("personOf(0, 4)", 80);
        x.answers("owed(1, 0)", 5).answers("owed(2, 0)", 62).answers("owed(5, 0)", 12).answers("owed(3, 0)", 0);
        x.answers("owed(0, 1)", 12).answers("owed(0, 2)", 0).answers("personOf(0, 7)", 100070);
        for (int i = 1; i < 6; i++) x.answers("personOf(" + i + ", 4)", 0);
        // the shortest song there is, of one minute
        Scene one = new Scene("tell old 5 voice 1;sleeper 1;child 1;").asks("may(0, 2)", 1).answers("sing(0, 6)", 1);
        Scene sung = one.then("sing(0, 6)");
        sung.answers("night(0)", 1).answers("night(1)", 1).answers("personOf(0, 4)", 1).answers("owed(1, 0)", 1).answers("owed(2, 0)", 1);
    }

    /** Terms: "the last one awake never sleeps that night". */
    private static void lastOneAwake() {
        Scene one = new Scene("tell old 5;old 6;asleep 1;");
        one.refuses("sing(0, 1)", STATE).refuses("sing(0, 2)", STATE).refuses("sing(1, 1)", STATE).refuses("sing(1, 2)", STATE);
        one.refuses("sing(0, 3)", STATE).refuses("may(0, 1)", 0).refuses("may(1, 1)", 0);
    }

    /** Terms: "travellers pay 2 for each minute of it at once instead, from PURSE to PURSE"; PURSE "may be below 0". */
    private static void travellersPay() {
        Scene x = new Scene("tell traveller 40 purse 80;traveller 41 purse 81;child 9;old 2;traveller 1;");
        Scene sung = x.then("sing(3, 7)");
        sung.answers("personOf(0, 7)", 100000).answers("personOf(1, 7)", 99999).answers("personOf(2, 7)", 100000);
        sung.answers("personOf(3, 7)", 100162).answers("owed(0, 3)", 0).answers("owed(1, 3)", 0).answers("owed(2, 3)", 5);
        Scene both = x.then("sing(0, 18)");
        both.answers("personOf(0, 7)", 100164).answers("personOf(1, 7)", 99999).answers("personOf(4, 7)", 99998);
        both.answers("owed(1, 0)", 0).answers("night(0)", 41);
        x.then("purse(0, -9999)", "sing(3, 1)").answers("personOf(0, 7)", 90001 - 80).answers("personOf(3, 7)", 100080);
        x.then("purse(3, 9999)", "sing(3, 1)").answers("personOf(3, 7)", 109999 + 80).answers("purse(3, 0)", 110079);
        x.then("turn(0, 0)", "sing(3, 1)").answers("personOf(0, 7)", 100080).answers("owed(0, 3)", 40);
        x.then("turn(2, 5)", "sing(3, 4)").answers("personOf(2, 7)", 99982).answers("owed(2, 3)", 0);
    }

    /** Terms: "OWED from one to another: minutes (0 to 9999; 0 at first)": a song makes it 9999 at most. */
    private static void owedIsHeld() {
        Scene x = new Scene("tell old 50;child 9;");
        x.then("owe(1, 0, 9993)", "sing(0, 2)").answers("owed(1, 0)", 9998);
        x.then("owe(1, 0, 9994)", "sing(0, 2)").answers("owed(1, 0)", 9999);
        x.then("owe(1, 0, 9995)", "sing(0, 2)").answers("owed(1, 0)", 9999);
        x.then("owe(1, 0, 9999)", "sing(0, 2)").answers("owed(1, 0)", 9999).answers("night(0)", 5);
        x.then("owe(1, 0, 9999)").answers("sing(0, 2)", 5).answers("may(0, 2)", 1);
    }

    /** Promise 12: "Whether that SONG can be: 1, 0." */
    private static void mayAnswers() {
        Scene x = Scene.MIDST;
        x.asks("may(0, 2)", 1).asks("may(0, 38)", 1).asks("may(0, 8)", 1).asks("may(3, 7)", 1).asks("may(5, 1)", 1);
        x.asks("may(0, 16)", 0).asks("may(4, 2)", 0).asks("may(0, 1)", 0).asks("may(0, 3)", 0).asks("may(0, 10)", 0);
        x.then("voice(0, 55)").asks("may(0, 4)", 1);
        x.then("voice(0, 54)").asks("may(0, 4)", 0);
        x.refuses("may(4, 0)", BAD).refuses("may(4, 64)", BAD).refuses("may(4, 46)", BAD).refuses("may(0, 65)", BAD);
    }

    /** Promise 13: "Who is asleep wakes: 1; 0 who is awake. BAD." */
    private static void wake() {
        Scene x = Scene.MIDST;
        x.answers("wake(4)", 1).asks("wake(0)", 0).asks("wake(5)", 0).then("wake(4)").answers("wake(4)", 0);
        String[] outside = {"-1", "6", "8", "MIN", "MAX"};
        for (String who : outside) x.refuses("wake(" + who + ")", BAD);
        Scene.NEW.refuses("wake(0)", BAD);
        Scene woken = x.then("wake(4)");
        woken.answers("night(1)", 63).answers("night(0)", 25).answers("night(3)", 25).answers("personOf(4, 7)", 99957);
        woken.answers("personOf(0, 4)", 25).answers("night(2)", 0);
    }

    /** Promise 14: "What = 0 MINUTE, .. 3 all SUNG together. BAD." */
    private static void night() {
        Scene x = Scene.MIDST.then("sing(2, 2)");
        x.asks("night(0)", 30).asks("night(1)", 45).asks("night(2)", 0).asks("night(3)", 30);
        String[] outside = {"-1", "4", "MIN", "MAX"};
        for (String what : outside) x.refuses("night(" + what + ")", BAD);
    }

    /** Terms: "When one or none is awake, the NIGHT is OVER." */
    private static void over() {
        Scene.NEW.answers("night(2)", 1).answers("night(1)", 0);
        new Scene("tell old 5;").answers("night(2)", 1).answers("night(1)", 1);
        Scene two = new Scene("tell old 5;old 6;").answers("night(2)", 0);
        two.then("sing(1, 1)").answers("night(2)", 1).answers("night(1)", 2);
        two.then("sing(1, 1)", "wake(0)").answers("night(2)", 0);
        new Scene("tell " + EIGHT).answers("night(2)", 0).answers("night(1)", 255);
    }

    /** Promise 15: "A DAY: who was last"; Terms: "LASTS of the one who is awake is 1 more, if just one is". */
    private static void dayWithOneAwake() {
        Scene one = new Scene("tell old 5;old 6;child 9;owes 0 1 7;", "lasts(1, 998)", "sing(1, 5)");
        one.answers("day()", 1);
        Scene behind = one.then("day()");
        behind.answers("personOf(1, 5)", 999).answers("personOf(0, 5)", 0).answers("personOf(2, 5)", 0);
        behind.answers("night(0)", 0).answers("night(1)", 7).answers("night(2)", 0).answers("night(3)", 0);
        behind.answers("personOf(1, 4)", 0).answers("owed(0, 1)", 17);
        // only lasts() is told to keep to 999: how often one was last goes on
        one.then("lasts(1, 999)", "day()").answers("personOf(1, 5)", 1000).answers("lasts(1, 999)", 1000);
        new Scene("tell deaf 3;").answers("day()", 0).then("day()").answers("personOf(0, 5)", 1).answers("day()", 0);
        Scene eighth = new Scene("tell " + EIGHT, "sing(7, 7)", "sing(7, 56)", "sing(7, 64)");
        eighth.answers("day()", 7).then("day()").answers("personOf(7, 5)", 1).answers("night(1)", 255);
    }

    /** Promise 15: "-9: it isn't so that just one was awake": a DAY all the same. */
    private static void dayWithoutOne() {
        Scene.NEW.answers("day()", -9).isLeftBy("day()");
        Scene two = new Scene("tell old 5;old 6;child 9;owes 0 1 7;owes 1 0 4;", "sing(1, 4)");
        two.answers("day()", -9);
        Scene behind = two.then("day()");
        for (int i = 0; i < 3; i++) behind.answers("personOf(" + i + ", 5)", 0).answers("personOf(" + i + ", 4)", 0);
        behind.answers("night(0)", 0).answers("night(1)", 7).answers("owed(0, 1)", 3).answers("owed(1, 0)", 0);
        new Scene("tell " + EIGHT).answers("day()", -9).then("day()").answers("night(1)", 255);
    }

    /** Terms, a DAY: "of two who OWE one another both OWE less by the lesser of both". */
    private static void dayLessens() {
        int[][] pairs = {{7, 4}, {4, 7}, {5, 5}, {1, 0}, {0, 1}, {0, 0}, {9999, 9999}, {9999, 9998}, {9999, 1}, {1, 1}};
        for (int[] p : pairs) {
            int lesser = Math.min(p[0], p[1]);
            Scene x = new Scene("tell " + EIGHT, "owe(7, 0, " + p[0] + ")", "owe(0, 7, " + p[1] + ")", "owe(7, 6, 3)", "day()");
            x.answers("owed(7, 0)", p[0] - lesser).answers("owed(0, 7)", p[1] - lesser).answers("owed(7, 6)", 3);
        }
        // a ring is not cleared by a DAY
        Scene ring = new Scene("tell old 5;old 6;old 7;owes 0 1 5;owes 1 2 5;owes 2 0 5;", "day()");
        ring.answers("owed(0, 1)", 5).answers("owed(1, 2)", 5).answers("owed(2, 0)", 5);
    }

    /** Promise 16: "What one OWES another one. BAD: also the same." */
    private static void owed() {
        Scene x = Scene.MIDST;
        x.asks("owed(0, 1)", 12).asks("owed(1, 0)", 0).asks("owed(5, 0)", 0).asks("owed(0, 5)", 0).asks("owed(4, 0)", 0);
        String[] outside = {"0, 0", "5, 5", "-1, 0", "0, -1", "6, 0", "0, 6", "6, 6", "-1, -1", "MIN, 0", "0, MAX"};
        for (String both : outside) x.refuses("owed(" + both + ")", BAD);
        Scene.NEW.refuses("owed(0, 1)", BAD).refuses("owed(0, 0)", BAD);
        new Scene("tell old 5;").refuses("owed(0, 0)", BAD).refuses("owed(0, 1)", BAD).refuses("owed(1, 0)", BAD);
    }

    /** Promise 17: "It becomes v: what it was. BAD: also the same."; OWED "(0 to 9999 ..)". */
    private static void owe() {
        Scene x = Scene.MIDST;
        x.answers("owe(0, 1, 0)", 12).answers("owe(0, 1, 9999)", 12).answers("owe(5, 4, 1)", 0).answers("owe(0, 5, 9998)", 0);
        x.then("owe(0, 1, 9999)").answers("owed(0, 1)", 9999).answers("owed(1, 0)", 0).answers("owe(0, 1, 0)", 9999);
        x.then("owe(0, 1, 0)").answers("owed(0, 1)", 0);
        String[] outside = {"0, 1, -1", "0, 1, 10000", "0, 1, MIN", "0, 1, MAX", "0, 0, 5", "5, 5, 0", "-1, 0, 5", "0, -1, 5",
            "6, 0, 5", "0, 6, 5", "MIN, 0, 5", "0, MAX, 5", "6, 6, 5"};
        for (String three : outside) x.refuses("owe(" + three + ")", BAD);
        x.isLeftBy("owe(0, 1, 99)", "owe(0, 1, 12)");
        // a traveller may owe by owe(), though not by a song
        x.then("owe(4, 0, 9)").answers("owed(4, 0)", 9);
    }

    /** Promise 18: "NONE"; Terms, RING: "a row of three unlike ones of whom each OWES the next (the third the first)". */
    private static void ringOfThree() {
        Scene.NEW.refuses("ring()", NONE);
        new Scene("tell old 5;old 6;owes 0 1 5;owes 1 0 5;").refuses("ring()", NONE);
        new Scene("tell old 5;old 6;old 7;").refuses("ring()", NONE);
        new Scene("tell old 5;old 6;old 7;owes 0 1 5;owes 1 2 5;owes 0 2 5;").refuses("ring()", NONE);
        new Scene("tell old 5;old 6;old 7;old 8;owes 0 1 5;owes 1 2 5;owes 2 3 5;owes 3 0 5;").refuses("ring()", NONE);
        new Scene("tell old 5;old 6;old 7;owes 0 1 5;owes 1 0 5;owes 1 2 5;owes 2 1 5;").refuses("ring()", NONE);
        Scene x = Scene.MIDST.answers("ring()", 12);
        x.then("ring()").answers("owed(0, 1)", 7).answers("owed(1, 2)", 0).answers("owed(2, 0)", 2).refuses("ring()", NONE);
        Scene high = new Scene("tell " + EIGHT + "owes 5 7 4;owes 7 6 3;owes 6 5 2;");
        high.answers("ring()", 576).then("ring()").answers("owed(5, 7)", 2).answers("owed(7, 6)", 1).answers("owed(6, 5)", 0);
    }

    /** Terms, RING: "each OWES the next .. 1 or more; it is CLEARED: all three OWE less by the least of these". */
    private static void ringOfOneOrMore() {
        String three = "old 5;old 6;old 7;";
        new Scene("tell " + three + "owes 0 1 1;owes 1 2 1;owes 2 0 1;").answers("ring()", 12);
        new Scene("tell " + three + "owes 0 1 0;owes 1 2 1;owes 2 0 1;").refuses("ring()", NONE);
        new Scene("tell " + three + "owes 0 1 1;owes 1 2 0;owes 2 0 1;").refuses("ring()", NONE);
        new Scene("tell " + three + "owes 0 1 1;owes 1 2 1;owes 2 0 0;").refuses("ring()", NONE);
        Scene most = new Scene("tell " + three, "owe(0, 1, 9999)", "owe(1, 2, 9999)", "owe(2, 0, 9999)").answers("ring()", 12);
        most.then("ring()").answers("owed(0, 1)", 0).answers("owed(1, 2)", 0).answers("owed(2, 0)", 0);
        int[][] owing = {{1, 2, 3}, {2, 1, 3}, {3, 2, 1}, {2, 2, 9}};
        for (int[] o : owing) {
            int least = Math.min(o[0], Math.min(o[1], o[2]));
            Scene x = new Scene("tell " + three + "owes 0 1 " + o[0] + ";owes 1 2 " + o[1] + ";owes 2 0 " + o[2] + ";owes 1 0 4;",
                "ring()");
            x.answers("owed(0, 1)", o[0] - least).answers("owed(1, 2)", o[1] - least).answers("owed(2, 0)", o[2] - least);
            x.answers("owed(1, 0)", 4).refuses("ring()", NONE);
        }
    }

    /** Terms, RING: "the first such (by the first one, then the second)". */
    private static void firstRing() {
        String four = "old 5;old 6;old 7;old 8;";
        Scene both = new Scene("tell " + four + "owes 0 1 2;owes 1 2 2;owes 2 0 2;owes 0 2 3;owes 2 1 3;owes 1 0 3;");
        both.answers("ring()", 12).then("ring()").answers("ring()", 21).then("ring()").refuses("ring()", NONE);
        Scene later = new Scene("tell " + four + "owes 1 2 2;owes 2 3 2;owes 3 1 2;owes 0 3 1;owes 3 2 1;owes 2 0 1;");
        later.answers("ring()", 32).then("ring()").answers("ring()", 123);
        // of the same first and second the least third
        Scene third = new Scene("tell " + four + "owes 0 1 5;owes 1 3 1;owes 3 0 1;owes 1 2 1;owes 2 0 1;");
        third.answers("ring()", 12).then("ring()").answers("ring()", 13).then("ring()").refuses("ring()", NONE);
    }
}
