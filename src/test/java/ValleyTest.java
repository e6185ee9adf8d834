/** Promises 1 to 10: a new object, the tape and its text, people. */
public final class ValleyTest {
    private static final Check CHECK = new Check();

    public static void main(String[] args) {
        newObject();
        feed();
        texts();
        faults();
        faultChangesNothingElse();
        valleyIsAllByItself();
        person();
        personOf();
        voicePurseLasts();
        turn();
        older();
        CHECK.end();
    }

    private static void newObject() {
        SungAsleep x = new SungAsleep();
        for (int what = 0; what <= 4; what++) CHECK.due("new many " + what, x.many(what), 0);
        for (int what = 0; what <= 3; what++) CHECK.due("new night " + what, x.night(what), what == 2 ? 1 : 0);
        CHECK.due("new again", x.again(), SungAsleep.NONE);
        CHECK.due("new seed", x.seed(5), 1);
        CHECK.due("new taken", x.taken(0, 0), -11);
        CHECK.due("new item", x.item(0, 0, 0), -11);
        CHECK.due("new personOf", x.personOf(0, 0), SungAsleep.BAD);
        CHECK.due("new older", x.older(), 0);
        CHECK.due("new ring", x.ring(), SungAsleep.NONE);
        CHECK.due("new with", x.with(0), SungAsleep.BAD);
    }

    private static void feed() {
        SungAsleep x = new SungAsleep();
        CHECK.due("feed 0 bytes", x.feed(0, 0), SungAsleep.BAD);
        CHECK.due("feed 9 bytes", x.feed(0, 9), SungAsleep.BAD);
        CHECK.due("feed -1 bytes", x.feed(0, -1), SungAsleep.BAD);
        CHECK.due("feed least int", x.feed(0, Integer.MIN_VALUE), SungAsleep.BAD);
        for (int i = 1; i <= 24; i++) CHECK.due("feed eight", x.feed(-1L, 8), 8 * i);
        CHECK.due("feed 7", x.feed(-1L, 7), 199);
        CHECK.due("feed beyond", x.feed(-1L, 2), SungAsleep.FULL);
        CHECK.due("BAD ahead of FULL", x.feed(-1L, 9), SungAsleep.BAD);
        CHECK.due("full changed nothing", x.many(3), 199);
        CHECK.due("feed the last", x.feed(32, 1), 200);
        CHECK.due("feed one more", x.feed(32, 1), SungAsleep.FULL);
        CHECK.due("high bytes are faults", x.valley(), -100);
        CHECK.due("used up", x.many(3), 0);
        CHECK.due("lowest first, the rest of eight away", x.feed(0x39_3b_35_20_64_6c_6fL, 6), 6);
        CHECK.due("old 5;", x.valley(), 1);
        CHECK.due("old", x.personOf(0, 0), 2);
        CHECK.due("5", x.personOf(0, 1), 5);
    }

    private static void texts() {
        SungAsleep x = new SungAsleep();
        CHECK.due("all kinds", Check.tell(x,
            "sleeper 1;child 2;old 3;restless 4;deaf 5;traveller 90 voice 200 purse 999;owes 5 0 999;asleep 3;"), 6);
        int[] kinds = {0, 1, 2, 3, 4, 5};
        int[] ages = {1, 2, 3, 4, 5, 90};
        for (int i = 0; i < 6; i++) {
            CHECK.due("kind " + i, x.personOf(i, 0), kinds[i]);
            CHECK.due("age " + i, x.personOf(i, 1), ages[i]);
            CHECK.due("voice " + i, x.personOf(i, 2), i == 5 ? 200 : 100);
            CHECK.due("sung " + i, x.personOf(i, 4), 0);
            CHECK.due("lasts " + i, x.personOf(i, 5), 0);
            CHECK.due("awake " + i, x.personOf(i, 6), i == 3 ? 0 : 1);
            CHECK.due("purse " + i, x.personOf(i, 7), i == 5 ? 100999 : 100000);
        }
        CHECK.due("owes", x.owed(5, 0), 999);
        CHECK.due("owes one way", x.owed(0, 5), 0);
        CHECK.due("blanks", Check.tell(x, "  old   005 ;  child 7   voice 0   purse 0;old 9 purse 3 ; "), 3);
        CHECK.due("leading zeros", x.personOf(0, 1), 5);
        CHECK.due("voice 0", x.personOf(1, 2), 0);
        CHECK.due("purse alone", x.personOf(2, 7), 100003);
        CHECK.due("names and numbers as long as they go", Check.tell(x, "old5voice7purse8;old9;owes0 1 2;"), 2);
        CHECK.due("voice 7", x.personOf(0, 2), 7);
        CHECK.due("the later owes", Check.tell(x, "old 5;old 6;owes 0 1 7;owes 0 1 3;"), 2);
        CHECK.due("it is what was told latest", x.owed(0, 1), 3);
        CHECK.due("asleep, then another one", Check.tell(x, "old 5;old 6;asleep 0;old 7;asleep 1;"), 3);
        CHECK.due("only the third is awake", x.night(1), 4);
        CHECK.due("eight", Check.tell(x, "old 1;old 1;old 1;old 1;old 1;old 1;old 1;old 1;owes 7 6 1;"), 8);
        CHECK.due("nothing", x.valley(), 0);
        CHECK.due("nobody is there", x.many(0), 0);
        CHECK.due("blanks alone", Check.tell(x, "   "), 0);
    }

    private static void fault(String text, int place) {
        CHECK.due("fault of '" + text + "'", Check.tell(new SungAsleep(), text), -100 - place);
    }

    private static void faults() {
        fault("5", 0);
        fault("  ol", 2);
        fault("oldy 5;", 0);
        fault("oldz 5;", 0);
        fault("olda 5;", 0);
        fault("Old 5;", 0);
        fault("oLd 5;", 0);
        fault("\told 5;", 0);
        fault("old\t5;", 3);
        fault("voice 5;", 0);
        fault("purse 5;", 0);
        fault("old voice 5;", 4);
        fault("old ;", 4);
        fault("old 5", 5);
        fault("old 5  ", 7);
        fault("old ", 4);
        fault("old -5;", 4);
        fault("old 5,", 5);
        fault("old 5 6;", 6);
        fault("old 1000;", 4);
        fault("old 0005;", 4);
        fault("old 99999999999999999999;", 4);
        fault("old 4294967301;", 4);
        fault("old 5 voice", 11);
        fault("old 5 voice ;", 12);
        fault("old 5 voice 201 purse 5;", 12);
        fault("old 5 voice 1 voice 2;", 14);
        fault("old 5 purse 1 purse 2;", 14);
        fault("old 5 purse 1000;", 12);
        fault("old 5 purse 1;;", 14);
        fault("old 5 child 6;", 6);
        fault("old 5;asleep;", 12);
        fault("old 5;asleep 1;", 13);
        fault("old 5;old 6;asleep 1", 20);
        fault("old 5;old 6;asleep 1 0;", 21);
        fault("old 5;old 6;owes 2 0 1;", 17);
        fault("old 5;old 6;owes 1 1 1;", 19);
        fault("old 5;old 6;owes 1 0 1000;", 21);
        fault("old 5;old 6;owes 1 0 0001;", 21);
        fault("old 5;old 6;owes 1 0 1 1;", 23);
        fault("old 5;old 6;owes 1", 18);
        fault("old 5;old 6;owes 1 0;", 20);
        fault("old 1;old 1;old 1;old 1;old 1;old 1;old 1;old 1;  child", 50);
        fault("old 5;" + (char) 233, 6);
        fault("old 5;" + (char) 0, 6);
    }

    private static void faultChangesNothingElse() {
        SungAsleep x = Check.told("old 50;child 9;owes 0 1 7;");
        x.seed(77);
        x.sing(0, 2);
        x.prove();
        x.wake(1);
        CHECK.due("prove", x.prove(), 1);
        CHECK.due("fault", Check.tell(x, "child 5;child 6;owes 0 1 8;old"), -130);
        CHECK.due("tape is used up", x.many(3), 0);
        CHECK.due("people stay", x.many(0), 2);
        CHECK.due("kind stays", x.personOf(0, 0), 2);
        CHECK.due("minute stays", x.night(0), 5);
        CHECK.due("owed stays", x.owed(0, 1), 7);
        CHECK.due("rows stay", x.many(2), 1);
        CHECK.due("z stays", x.seed(77), 77);
    }

    private static void valleyIsAllByItself() {
        SungAsleep x = Check.told("old 50;child 9;old 4;owes 0 1 7;");
        x.seed(77);
        x.sing(0, 2);
        x.lasts(0, 4);
        x.voice(0, 9);
        x.purse(0, 9);
        x.keep();
        CHECK.due("prove", x.prove(), 1);
        CHECK.due("told anew", Check.tell(x, "child 5;child 6;"), 2);
        CHECK.due("no rows", x.many(2), 0);
        CHECK.due("no row", x.row(0, 0), -9);
        CHECK.due("minute", x.night(0), 0);
        CHECK.due("sung", x.night(3), 0);
        CHECK.due("awake", x.night(1), 3);
        CHECK.due("owed", x.owed(0, 1), 0);
        CHECK.due("owed to the singer", x.owed(1, 0), 0);
        CHECK.due("lasts", x.personOf(0, 5), 0);
        CHECK.due("voice", x.personOf(0, 2), 100);
        CHECK.due("purse", x.personOf(0, 7), 100000);
        CHECK.due("z stays", x.seed(77), 77);
        CHECK.due("one more", x.person(0, 5), 2);
        CHECK.due("what is kept stays", x.again(), 3);
    }

    private static void person() {
        SungAsleep x = new SungAsleep();
        CHECK.due("kind -1", x.person(-1, 5), SungAsleep.BAD);
        CHECK.due("kind 6", x.person(6, 5), SungAsleep.BAD);
        CHECK.due("age 0", x.person(0, 0), SungAsleep.BAD);
        CHECK.due("age 91", x.person(0, 91), SungAsleep.BAD);
        CHECK.due("nobody came", x.many(0), 0);
        for (int i = 0; i < 8; i++) CHECK.due("person " + i, x.person(i % 6, i == 0 ? 1 : 90), i);
        CHECK.due("a ninth", x.person(0, 5), SungAsleep.FULL);
        CHECK.due("BAD ahead of FULL", x.person(6, 5), SungAsleep.BAD);
        CHECK.due("eight", x.many(0), 8);
        CHECK.due("all awake", x.night(1), 255);
    }

    private static void personOf() {
        SungAsleep x = new SungAsleep();
        int[] needs = {9, 5, 14, 10, 14, 9};
        for (int kind = 0; kind < 6; kind++) {
            x.person(kind, 9);
            CHECK.due("needs of kind " + kind, x.personOf(kind, 3), needs[kind]);
        }
        CHECK.due("a restless one of 8", x.turn(0, 3), 0);
        x.older();
        CHECK.due("restless of 10", x.personOf(0, 3), 12);
        CHECK.due("child of 10", x.personOf(1, 3), 6);
        CHECK.due("what -1", x.personOf(0, -1), SungAsleep.BAD);
        CHECK.due("what 8", x.personOf(0, 8), SungAsleep.BAD);
        CHECK.due("person -1", x.personOf(-1, 0), SungAsleep.BAD);
        CHECK.due("person 6", x.personOf(6, 0), SungAsleep.BAD);
    }

    private static void voicePurseLasts() {
        SungAsleep x = Check.told("old 5;");
        CHECK.due("voice 200", x.voice(0, 200), 100);
        CHECK.due("voice 0", x.voice(0, 0), 200);
        CHECK.due("voice -1", x.voice(0, -1), SungAsleep.BAD);
        CHECK.due("voice 201", x.voice(0, 201), SungAsleep.BAD);
        CHECK.due("voice of nobody", x.voice(1, 5), SungAsleep.BAD);
        CHECK.due("voice stays", x.personOf(0, 2), 0);
        CHECK.due("purse 9999", x.purse(0, 9999), 100000);
        CHECK.due("purse -9999", x.purse(0, -9999), 109999);
        CHECK.due("purse -10000", x.purse(0, -10000), SungAsleep.BAD);
        CHECK.due("purse 10000", x.purse(0, 10000), SungAsleep.BAD);
        CHECK.due("purse of nobody", x.purse(-1, 0), SungAsleep.BAD);
        CHECK.due("purse stays", x.personOf(0, 7), 90001);
        CHECK.due("lasts 999", x.lasts(0, 999), 0);
        CHECK.due("lasts -1", x.lasts(0, -1), SungAsleep.BAD);
        CHECK.due("lasts 1000", x.lasts(0, 1000), SungAsleep.BAD);
        CHECK.due("lasts of nobody", x.lasts(8, 0), SungAsleep.BAD);
        CHECK.due("lasts 0", x.lasts(0, 0), 999);
    }

    private static void turn() {
        SungAsleep x = Check.told("old 50 voice 60 purse 7;child 9;");
        x.lasts(0, 3);
        x.sing(0, 2);
        CHECK.due("turn to a child", x.turn(0, 1), 2);
        CHECK.due("kind", x.personOf(0, 0), 1);
        CHECK.due("age stays", x.personOf(0, 1), 50);
        CHECK.due("voice stays", x.personOf(0, 2), 60);
        CHECK.due("needs as a child", x.personOf(0, 3), 26);
        CHECK.due("sung stays", x.personOf(0, 4), 5);
        CHECK.due("lasts stay", x.personOf(0, 5), 3);
        CHECK.due("awake stays", x.personOf(0, 6), 1);
        CHECK.due("purse stays", x.personOf(0, 7), 100007);
        CHECK.due("owed stays", x.owed(1, 0), 5);
        CHECK.due("the sleeping one turns", x.turn(1, 4), 1);
        CHECK.due("and sleeps on", x.personOf(1, 6), 0);
        CHECK.due("kind 6", x.turn(0, 6), SungAsleep.BAD);
        CHECK.due("kind -1", x.turn(0, -1), SungAsleep.BAD);
        CHECK.due("nobody", x.turn(2, 0), SungAsleep.BAD);
    }

    private static void older() {
        SungAsleep x = Check.told("old 89;child 1;asleep 1;");
        CHECK.due("older", x.older(), 92);
        CHECK.due("older still", x.older(), 93);
        CHECK.due("90 at most", x.personOf(0, 1), 90);
        CHECK.due("who sleeps, too", x.personOf(1, 1), 3);
    }
}
