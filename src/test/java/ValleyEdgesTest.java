/** The boundary cases of promises 1 to 10, sentence by sentence: just inside, just outside, and nothing changed by a refusal. */
public final class ValleyEdgesTest {
    private static final int BAD = SungAsleep.BAD, FULL = SungAsleep.FULL, NONE = SungAsleep.NONE;
    private static final String EIGHT = "old 1;old 1;old 1;old 1;old 1;old 1;old 1;old 1;";
    private static final String[] KINDS = {"sleeper", "child", "old", "restless", "deaf", "traveller"};

    public static void main(String[] args) {
        newObject();
        feedTakesOneToEight();
        feedUpTo200();
        feedTheLowestFirst();
        feedAfterValley();
        valleyOfNothing();
        valleyUsesUpTheTape();
        valleyLeavesWhatIsNotOfIt();
        valleyIsAllByItAlone();
        textAges();
        textVoices();
        textPurses();
        textOwes();
        textAsleep();
        textEight();
        textDigits();
        textLetters();
        textBlanks();
        textEnds();
        textPlaces();
        personRanges();
        personFull();
        personAtFirst();
        personOf();
        voice();
        purse();
        turn();
        older();
        lasts();
        Scene.end();
    }

    /** Promise 1: "Nobody; nothing is kept." */
    private static void newObject() {
        Scene x = Scene.NEW;
        for (int what = 0; what <= 4; what++) x.answers("many(" + what + ")", 0);
        for (int what = 0; what <= 3; what++) x.answers("night(" + what + ")", what == 2 ? 1 : 0);
        x.refuses("again()", NONE);
        x.answers("seed(0)", 1);
        for (int i = 0; i < 8; i++) {
            x.answers("personOf(" + i + ", 0)", BAD);
            x.answers("owed(" + i + ", " + (i + 1) % 8 + ")", BAD);
            x.answers("row(" + i + ", 0)", -9);
        }
        for (int i = 0; i < 4; i++) {
            x.answers("item(" + i + ", 0, 0)", -11);
            x.answers("taken(" + i + ", 0)", -11);
        }
        x.answers("trace(0)", NONE);
    }

    /** Promise 2: "n bytes (1 to 8)"; "BAD". */
    private static void feedTakesOneToEight() {
        Scene.NEW.answers("feed(111, 1)", 1).answers("feed(111, 8)", 8);
        Scene.MIDST.answers("feed(0, 1)", 12).answers("feed(0, 8)", 19);
        String[] outside = {"0", "9", "-1", "-8", "16", "MIN", "MAX"};
        for (String n : outside) Scene.MIDST.refuses("feed(111, " + n + ")", BAD);
    }

    private static Scene tapeOf(String text, int bytes) {
        return Scene.MIDST.then("valley()", "tape " + text + " ".repeat(bytes - text.length()));
    }

    /** Promise 2: "FULL: more than 200"; Terms: "THE TAPE takes bytes, 200 at most". */
    private static void feedUpTo200() {
        tapeOf("child 7;", 192).answers("feed(0, 8)", 200);
        tapeOf("child 7;", 193).answers("feed(0, 7)", 200).refuses("feed(0, 8)", FULL);
        tapeOf("child 7;", 199).answers("feed(0, 1)", 200).refuses("feed(0, 2)", FULL);
        Scene full = tapeOf("child 7;", 200);
        full.answers("many(3)", 200).refuses("feed(0, 1)", FULL).refuses("feed(0, 8)", FULL);
        // of several the first named
        full.refuses("feed(0, 0)", BAD).refuses("feed(0, 9)", BAD).refuses("feed(0, MIN)", BAD);
        full.answers("valley()", 1);
    }

    /** Promise 2: "the lowest of eight first"; what stands above the n bytes doesn't come. */
    private static void feedTheLowestFirst() {
        long deaf = 0x3b_35_20_66_61_65_64L;
        Scene.NEW.then("feed(" + deaf + ", 7)").answers("valley()", 1);
        Scene.NEW.then("feed(" + (deaf | 0x78L << 56) + ", 7)").answers("valley()", 1);
        Scene.NEW.then("feed(" + (deaf | 0x20L << 56) + ", 8)").answers("valley()", 1);
        Scene.NEW.then("feed(" + (deaf | 0xffL << 56) + ", 8)").answers("valley()", -107);
        Scene.NEW.then("feed(" + Long.MIN_VALUE + ", 8)").answers("valley()", -100);
        Scene.NEW.then("feed(" + deaf + ", 6)").answers("valley()", -106);
    }

    /** Terms: "valley() uses it up": 200 bytes can come again, behind a fault, too. */
    private static void feedAfterValley() {
        tapeOf("child 7;", 200).then("valley()").answers("many(3)", 0).answers("feed(0, 8)", 8);
        Scene again = tapeOf("child", 200).then("valley()");
        again.answers("many(3)", 0).answers("tape " + "child 7;" + " ".repeat(192), 200).answers("valley()", 0);
    }

    /** Promise 3: "how many PEOPLE": a text of nothing, of blanks, of one, of eight. */
    private static void valleyOfNothing() {
        Scene.NEW.answers("valley()", 0);
        Scene.MIDST.then("valley()").answers("valley()", 0).then("valley()").answers("many(0)", 0).answers("night(2)", 1);
        Scene.NEW.then("tape " + " ".repeat(200)).answers("valley()", 0);
        Scene.NEW.answers("tell child 7;", 1).answers("tell " + EIGHT, 8);
    }

    /** Terms: "such a call changes nothing (but that THE TAPE is used up by valley())". */
    private static void valleyUsesUpTheTape() {
        Scene.MIDST.answers("valley()", -111).then("valley()").answers("many(3)", 0).answers("valley()", 0);
        Scene.MIDST.isLeftBy("valley()", "tape child 7;old");
        Scene.MIDST.isLeftBy("valley()", "tell child 5;child 6;owes 0 1 8;asleep 0;old 4 voice 3 purse 2", "tape child 7;old");
        Scene.MIDST.isLeftBy("valley()", "tell " + EIGHT + "owes 0 1 7;asleep 3;old 1;", "tape child 7;old");
    }

    /** Promise 3: "There are no ROWS then"; sheets, shelves, the trace and what is kept are not of the valley. */
    private static void valleyLeavesWhatIsNotOfIt() {
        Scene x = Scene.MIDST.then("valley()");
        x.answers("many(2)", 2).answers("row(0, 0)", 0);
        Scene y = x.then("tell old 5;");
        y.answers("many(2)", 0).answers("row(0, 0)", -9).answers("alterRow(0, 0, 1)", -9).answers("judge()", 0);
        y.answers("many(4)", 11).answers("trace(0)", 31).answers("item(0, 0, 4)", 33).answers("item(1, 3, 39)", -7);
        y.answers("taken(1, 13)", 40).answers("taken(0, 0)", -11).answers("taken(2, 0)", -11);
        y.answers("again()", 6);
    }

    /** Terms: "It is all by it alone (a new NIGHT; LASTS 0); z stays." */
    private static void valleyIsAllByItAlone() {
        Scene x = Scene.MIDST.then("valley()", "seed(-6)", "tell " + EIGHT);
        x.answers("night(0)", 0).answers("night(1)", 255).answers("night(3)", 0).answers("seed(0)", -6);
        for (int i = 0; i < 8; i++) {
            int[] want = {2, 1, 100, 6, 0, 0, 1, 100000};
            for (int what = 0; what < 8; what++) x.answers("personOf(" + i + ", " + what + ")", want[what]);
            for (int k = 0; k < 8; k++) x.answers("owed(" + i + ", " + k + ")", i == k ? BAD : 0);
        }
        Scene.NEW.then("tell old 5;").answers("seed(0)", 1);
    }

    private static void fault(String text, int place) {
        Scene.NEW.answers("tell " + text, -100 - place);
    }

    private static void right(String text, String question, int want) {
        Scene.NEW.answers("tell " + text, text.split("(sleeper|child|old|restless|deaf|traveller) *0*[1-9]", -1).length - 1);
        Scene.NEW.then("tell " + text).answers(question, want);
    }

    /** Terms: "KIND (..): AGE", 1 to 90; FAULT: "a NUMBER out of range". */
    private static void textAges() {
        for (String kind : KINDS) {
            int place = kind.length() + 1;
            right(kind + " 1;", "personOf(0, 1)", 1);
            right(kind + " 90;", "personOf(0, 1)", 90);
            fault(kind + " 0;", place);
            fault(kind + " 91;", place);
            fault(kind + " 999;", place);
            fault(kind + " 000;", place);
            fault("old 5;" + kind + " 91;", 6 + place);
        }
    }

    /** Terms: "voice: 0 to 200"; 100 where none is told. */
    private static void textVoices() {
        right("old 5 voice 0;", "personOf(0, 2)", 0);
        right("old 5 voice 200;", "personOf(0, 2)", 200);
        right("old 5;", "personOf(0, 2)", 100);
        right("old 5 purse 3;", "personOf(0, 2)", 100);
        fault("old 5 voice 201;", 12);
        fault("old 5 voice 999;", 12);
        fault("old 5 voice 1000;", 12);
        fault("old 5 voice -1;", 12);
        fault("old 5 voice 3 voice 3;", 14);
        fault("old 5 purse 3 voice 3;", 14);
        fault("voice 3;", 0);
    }

    /** Terms: "purse: 0 to 999"; 0 where none is told. */
    private static void textPurses() {
        right("old 5 purse 0;", "personOf(0, 7)", 100000);
        right("old 5 purse 999;", "personOf(0, 7)", 100999);
        right("old 5 voice 9 purse 999;", "personOf(0, 7)", 100999);
        right("old 5 voice 9;", "personOf(0, 7)", 100000);
        fault("old 5 purse 1000;", 12);
        fault("old 5 purse -1;", 12);
        fault("old 5 purse 3 purse 3;", 14);
        fault("old 5 voice 9 purse 1000;", 20);
        fault("purse 3;", 0);
    }

    /** Terms: "owes: who (told ahead), whom (told ahead, unlike), minutes (0 to 999)". */
    private static void textOwes() {
        right("old 5;old 6;owes 0 1 0;", "owed(0, 1)", 0);
        right("old 5;old 6;owes 0 1 999;", "owed(0, 1)", 999);
        right("old 5;old 6;owes 1 0 1;", "owed(1, 0)", 1);
        right(EIGHT + "owes 7 6 5;", "owed(7, 6)", 5);
        right(EIGHT + "owes 6 7 5;", "owed(6, 7)", 5);
        fault("old 5;old 6;owes 0 1 1000;", 21);
        fault("old 5;old 6;owes 0 1 -1;", 21);
        fault("old 5;old 6;owes 2 0 1;", 17);
        fault("old 5;old 6;owes 0 2 1;", 19);
        fault("old 5;old 6;owes 0 0 1;", 19);
        fault("old 5;old 6;owes 1 1 1;", 19);
        fault("old 5;owes 0 1 1;old 6;", 13);
        fault("old 5;owes 1 0 1;old 6;", 11);
        fault("owes 0 1 1;old 5;old 6;", 5);
        fault(EIGHT + "owes 8 0 1;", 53);
        fault(EIGHT + "owes 0 8 1;", 55);
        fault("old 5;old 6;owes 0 1 1 1;", 23);
        fault("old 5;old 6;owes 0 1;", 20);
    }

    /** Terms: "asleep: who (told ahead), if another one is awake"; FAULT: "the one who is the last awake, or asleep already". */
    private static void textAsleep() {
        right("old 5;old 6;asleep 0;", "night(1)", 2);
        right("old 5;old 6;asleep 1;", "night(1)", 1);
        right("old 5;old 6;old 7;asleep 2;asleep 0;", "night(1)", 2);
        right("old 5;old 6;asleep 0;old 7;asleep 1;", "night(1)", 4);
        fault("old 5;asleep 0;", 13);
        fault("old 5;asleep 0;old 6;", 13);
        fault("old 5;old 6;asleep 0;asleep 1;", 28);
        fault("old 5;old 6;old 7;asleep 1;asleep 1;", 34);
        fault("old 5;old 6;asleep 0;asleep 0;", 28);
        fault("old 5;old 6;asleep 2;", 19);
        fault("old 5;old 6;asleep 2;old 7;", 19);
        fault("asleep 0;", 7);
        String seven = "asleep 0;asleep 1;asleep 2;asleep 3;asleep 4;asleep 5;asleep 6;";
        right(EIGHT + seven, "night(1)", 128);
        fault(EIGHT + seven + "asleep 7;", 48 + 63 + 7);
        right("old 5;old 6;asleep 0;", "night(2)", 1);
        right("old 5;old 6;old 7;asleep 0;", "night(2)", 0);
    }

    /** FAULT: "the first NAME of a ninth one"; PEOPLE, "8 at most". */
    private static void textEight() {
        right(EIGHT, "many(0)", 8);
        for (String kind : KINDS) fault(EIGHT + kind + " 5;", 48);
        fault(EIGHT + "old", 48);
        fault(EIGHT + "  old 91;", 50);
        right(EIGHT + "owes 0 1 5;", "many(0)", 8);
        right(EIGHT + "asleep 7;", "night(1)", 127);
        fault(EIGHT + "asleep 7;child 2;", 57);
    }

    /** Terms: "NUMBERS rows of digits (1 to 3), .. as long as they go"; FAULT: "of more digits". */
    private static void textDigits() {
        right("old 7;", "personOf(0, 1)", 7);
        right("old 07;", "personOf(0, 1)", 7);
        right("old 007;", "personOf(0, 1)", 7);
        fault("old 0007;", 4);
        fault("old 00000000000000000000007;", 4);
        fault("old 4294967303;", 4);
        right("old 5 voice 000;", "personOf(0, 2)", 0);
        fault("old 5 voice 0000;", 12);
        right("old 5 purse 009;", "personOf(0, 7)", 100009);
        fault("old 5 purse 0009;", 12);
        right("old 5;old 6;owes 000 001 000;", "owed(0, 1)", 0);
        fault("old 5;old 6;owes 0000 001 000;", 17);
        fault("old 5;old 6;owes 000 0001 000;", 21);
        fault("old 5;old 6;owes 000 001 0000;", 25);
        right("old 5;old 6;asleep 001;", "night(1)", 1);
        fault("old 5;old 6;asleep 0001;", 19);
        // the bytes beside the digits
        fault("old /;", 4);
        fault("old :;", 4);
        fault("old 5/;", 5);
        fault("old 5:;", 5);
        right("old 10;", "personOf(0, 1)", 10);
        right("old 89;", "personOf(0, 1)", 89);
    }

    /** Terms: "NAMES are rows of letters a to z, .. as long as they go". */
    private static void textLetters() {
        fault("ol", 0);
        fault("ol 5;", 0);
        fault("olde 5;", 0);
        fault("olda 5;", 0);
        fault("oldz 5;", 0);
        fault("oldvoice 5;", 0);
        // the bytes beside the letters
        fault("old`5;", 3);
        fault("old{5;", 3);
        fault("`old 5;", 0);
        fault("{old 5;", 0);
        fault("Old 5;", 0);
        fault("olD 5;", 0);
        fault("OLD 5;", 0);
        fault("old 5 voices 3;", 6);
        fault("old 5 voic 3;", 6);
        fault("old 5 purses 3;", 6);
        fault("old 5 purs 3;", 6);
        fault("old 5 xoice 3;", 6);
        fault("old 5 voicx 3;", 6);
        fault("old 5 xurse 3;", 6);
        fault("old 5;old 6;xwes 0 1 2;", 12);
        fault("old 5;old 6;xsleep 0;", 12);
        fault("old 5;old 6;owe 0 1 2;", 12);
        fault("old 5;old 6;owess 0 1 2;", 12);
        fault("old 5;old 6;aslee 0;", 12);
        fault("old 5;old 6;asleeps 0;", 12);
        for (String kind : KINDS) {
            fault(kind.substring(1) + " 5;", 0);
            fault(kind.substring(0, kind.length() - 1) + " 5;", 0);
            fault(kind + "s 5;", 0);
            for (int i = 0; i < kind.length(); i++) fault(kind.substring(0, i) + "x" + kind.substring(i + 1) + " 5;", 0);
        }
    }

    /** Terms: "blanks (32) part them, and stand elsewhere as one likes". */
    private static void textBlanks() {
        right("   old   5   voice   7   purse   8   ;   ", "personOf(0, 7)", 100008);
        right("old 5 ;old 6 ;owes  0  1  7  ;asleep  0 ;", "owed(0, 1)", 7);
        right("old 5;old 6;owes 0 1 7;", "owed(0, 1)", 7);
        fault("old 5;old 6;owes 01 7;", 20);
        fault("o ld 5;", 0);
        fault("old 5 0;", 6);
        for (char c : new char[] {31, 33, 9, 10, 13, 0, 127, 128, 160, 255}) {
            fault("old" + c + "5;", 3);
            fault("old 5" + c + ";", 5);
            fault("old 5;" + c, 6);
            fault("" + c, 0);
        }
    }

    /** FAULT: "or the end (how many bytes there are), if more must come": a text cut behind each of its parts. */
    private static void textEnds() {
        fault("old", 3);
        fault("old ", 4);
        fault("old 5", 5);
        fault("old 5 ", 6);
        fault("old 5 voice", 11);
        fault("old 5 voice ", 12);
        fault("old 5 voice 7", 13);
        fault("old 5 voice 7 purse", 19);
        fault("old 5 voice 7 purse ", 20);
        fault("old 5 voice 7 purse 8", 21);
        fault("old 5;old 6;owes", 16);
        fault("old 5;old 6;owes ", 17);
        fault("old 5;old 6;owes 0", 18);
        fault("old 5;old 6;owes 0 ", 19);
        fault("old 5;old 6;owes 0 1", 20);
        fault("old 5;old 6;owes 0 1 ", 21);
        fault("old 5;old 6;owes 0 1 7", 22);
        fault("old 5;old 6;asleep", 18);
        fault("old 5;old 6;asleep ", 19);
        fault("old 5;old 6;asleep 1", 20);
        // a NAME cut short can't stand there; a place may be 0, and 200 at most
        fault("old 5 voic", 6);
        fault("old 5;ol", 6);
        fault("old 5" + " ".repeat(195), 200);
        fault("old 5;" + " ".repeat(191) + "old", 200);
        fault(" ".repeat(199) + ";", 199);
        Scene.NEW.answers("tell " + " ".repeat(194) + "old 5;", 1);
        Scene.NEW.answers("tell old 5;" + " ".repeat(194), 1);
    }

    /** FAULT: "of the first NAME, NUMBER or other byte that can't stand there": of several the first. */
    private static void textPlaces() {
        fault(";", 0);
        fault("5", 0);
        fault(";old 91;", 0);
        fault("old 5;;", 6);
        fault("old;", 3);
        fault("old old 5;", 4);
        fault("old voice 5;", 4);
        fault("old 5 6;", 6);
        fault("old 5 old 6;", 6);
        fault("old 5 owes 0 1 2;", 6);
        fault("old 5 voice;", 11);
        fault("old 5 voice voice 3;", 12);
        fault("old 5 voice 3 4;", 14);
        fault("old 5 voice 3 asleep 0;", 14);
        fault("old 5 purse;", 11);
        fault("old 5 purse 3 4;", 14);
        fault("old 5;old 6;owes;", 16);
        fault("old 5;old 6;owes 0;", 18);
        fault("old 5;old 6;owes old 1 2;", 17);
        fault("old 5;old 6;owes 0 1 2 voice 3;", 23);
        fault("old 5;old 6;asleep;", 18);
        fault("old 5;old 6;asleep old;", 19);
        fault("old 5;old 6;asleep 1 0;", 21);
        fault("old 91;old 92 x", 4);
        fault("old 5;child 0;olds", 12);
    }

    /** Promise 4: "A PERSON": KIND 0 to 5, AGE "(1 to 90)"; "BAD". */
    private static void personRanges() {
        Scene x = Scene.MIDST;
        x.answers("person(0, 1)", 6).answers("person(0, 90)", 6).answers("person(5, 1)", 6).answers("person(5, 90)", 6);
        String[] outside = {"-1, 5", "6, 5", "MIN, 5", "MAX, 5", "0, 0", "0, 91", "5, 0", "5, 91", "0, -1", "0, MIN", "0, MAX"};
        for (String both : outside) x.refuses("person(" + both + ")", BAD);
        for (int kind = 0; kind < 6; kind++) x.then("person(" + kind + ", 5)").answers("personOf(6, 0)", kind);
        x.then("person(0, 1)").answers("personOf(6, 1)", 1);
        x.then("person(0, 90)").answers("personOf(6, 1)", 90);
    }

    /** Promise 4: "FULL"; PEOPLE, "8 at most, numbered as they come". */
    private static void personFull() {
        Scene seven = Scene.MIDST.then("person(1, 5)");
        seven.answers("person(0, 5)", 7);
        Scene eight = seven.then("person(0, 5)");
        eight.answers("many(0)", 8).refuses("person(0, 5)", FULL).refuses("person(5, 90)", FULL);
        // of several the first named
        eight.refuses("person(6, 5)", BAD).refuses("person(0, 0)", BAD).refuses("person(0, 91)", BAD);
        Scene none = Scene.NEW;
        for (int i = 0; i < 8; i++) {
            none.answers("person(0, 5)", i);
            none = none.then("person(0, 5)");
        }
        none.refuses("person(0, 5)", FULL).answers("night(1)", 255);
    }

    /** Promise 4: "awake"; Terms: VOICE 100, PURSE 0, LASTS 0, SUNG 0, OWED 0 "at first". */
    private static void personAtFirst() {
        Scene x = Scene.MIDST.then("person(0, 5)");
        int[] want = {0, 5, 100, 5, 0, 0, 1, 100000};
        for (int what = 0; what < 8; what++) x.answers("personOf(6, " + what + ")", want[what]);
        for (int i = 0; i < 6; i++) x.answers("owed(6, " + i + ")", 0).answers("owed(" + i + ", 6)", 0);
        x.answers("night(0)", 25).answers("night(1)", 64 + 63 - 16).answers("many(1)", 6);
        Scene over = new Scene("tell old 5;old 6;owes 1 0 3;", "sing(0, 2)");
        over.answers("night(2)", 1).then("person(0, 5)").answers("night(2)", 0).answers("night(0)", 11);
        // numbers of those who went with the valley before bring nothing back
        Scene anew = new Scene("tell old 5;old 6;owes 1 0 3;owes 0 1 4;", "tell old 7;", "person(2, 9)");
        anew.answers("owed(1, 0)", 0).answers("owed(0, 1)", 0).answers("personOf(1, 1)", 9);
    }

    /** Promise 5: "what = 0 KIND, .. 7 PURSE and 100000 more. BAD." */
    private static void personOf() {
        Scene x = Scene.MIDST;
        int[][] want = {{0, 30, 60, 30, 25, 0, 1, 100070}, {4, 40, 90, 45, 0, 0, 1, 100000}, {5, 25, 100, 25, 0, 0, 0, 99957},
            {3, 11, 100, 12, 0, 2, 1, 100000}};
        int[] who = {0, 3, 4, 5};
        for (int i = 0; i < who.length; i++) {
            for (int what = 0; what < 8; what++) x.answers("personOf(" + who[i] + ", " + what + ")", want[i][what]);
        }
        String[] outside = {"-1, 0", "6, 0", "8, 0", "MIN, 0", "MAX, 0", "0, -1", "0, 8", "0, MIN", "0, MAX", "6, 8", "-1, -1"};
        for (String both : outside) x.refuses("personOf(" + both + ")", BAD);
        x.asks("personOf(0, 7)", 100070);
        Scene.NEW.refuses("personOf(0, 0)", BAD);
    }

    /** Promise 6: "VOICE becomes v: what it was. BAD."; VOICE "(0 to 200 ..; 100 at first)". */
    private static void voice() {
        Scene x = Scene.MIDST;
        x.answers("voice(0, 0)", 60).answers("voice(0, 200)", 60).answers("voice(5, 1)", 100).answers("voice(4, 199)", 100);
        x.then("voice(0, 0)").answers("personOf(0, 2)", 0).answers("voice(0, 7)", 0);
        x.then("voice(0, 200)").answers("personOf(0, 2)", 200);
        String[] outside = {"0, -1", "0, 201", "0, MIN", "0, MAX", "-1, 5", "6, 5", "MIN, 5", "MAX, 5"};
        for (String both : outside) x.refuses("voice(" + both + ")", BAD);
        x.isLeftBy("voice(0, 9)", "voice(0, 60)");
    }

    /** Promise 7: "PURSE becomes v (-9999 to 9999): what it was, and 100000 more. BAD." */
    private static void purse() {
        Scene x = Scene.MIDST;
        x.answers("purse(0, 9999)", 100070).answers("purse(0, -9999)", 100070).answers("purse(4, 0)", 99957);
        x.then("purse(0, 9999)").answers("personOf(0, 7)", 109999).answers("purse(0, 0)", 109999);
        x.then("purse(0, -9999)").answers("personOf(0, 7)", 90001).answers("purse(0, 0)", 90001);
        String[] outside = {"0, 10000", "0, -10000", "0, MIN", "0, MAX", "-1, 5", "6, 5", "MIN, 5", "MAX, 5"};
        for (String both : outside) x.refuses("purse(" + both + ")", BAD);
        x.isLeftBy("purse(0, -9)", "purse(0, 70)");
    }

    /** Promise 8: "A PERSON becomes one of another KIND: which it was. BAD." */
    private static void turn() {
        Scene x = Scene.MIDST;
        x.answers("turn(0, 5)", 0).answers("turn(5, 0)", 3).answers("turn(4, 1)", 5).answers("turn(3, 2)", 4);
        for (int kind = 0; kind < 6; kind++) {
            x.then("turn(1, " + kind + ")").answers("personOf(1, 0)", kind).answers("turn(1, 0)", kind);
            x.isLeftBy("turn(4, " + kind + ")", "turn(4, 5)");
        }
        String[] outside = {"0, -1", "0, 6", "0, MIN", "0, MAX", "-1, 5", "6, 5", "MIN, 5", "MAX, 5"};
        for (String both : outside) x.refuses("turn(" + both + ")", BAD);
    }

    /** Promise 9: "All are a year older (90 at most): the sum of AGES then." */
    private static void older() {
        Scene.NEW.answers("older()", 0);
        Scene x = new Scene("tell old 88;child 89;deaf 90;sleeper 1;asleep 3;");
        x.answers("older()", 89 + 90 + 90 + 2);
        x.then("older()").answers("personOf(0, 1)", 89).answers("personOf(1, 1)", 90).answers("personOf(2, 1)", 90);
        x.then("older()").answers("personOf(3, 1)", 2).answers("older()", 90 + 90 + 90 + 3);
        x.then("older()", "older()").answers("older()", 270 + 4);
        Scene all = new Scene("tell old 90;old 90;old 90;old 90;old 90;old 90;old 90;old 90;");
        all.answers("older()", 720).isLeftBy("older()");
    }

    /** Promise 10: "LASTS becomes v (0 to 999): what it was. BAD." */
    private static void lasts() {
        Scene x = Scene.MIDST;
        x.answers("lasts(2, 0)", 4).answers("lasts(2, 999)", 4).answers("lasts(0, 1)", 0).answers("lasts(5, 998)", 2);
        x.then("lasts(2, 999)").answers("personOf(2, 5)", 999).answers("lasts(2, 0)", 999);
        x.then("lasts(2, 0)").answers("personOf(2, 5)", 0);
        String[] outside = {"0, -1", "0, 1000", "0, MIN", "0, MAX", "-1, 5", "6, 5", "MIN, 5", "MAX, 5"};
        for (String both : outside) x.refuses("lasts(" + both + ")", BAD);
        x.isLeftBy("lasts(2, 9)", "lasts(2, 4)");
    }
}
