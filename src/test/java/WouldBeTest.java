/** Promises 19 to 30: what would be, on valleys whose answers can be told by hand. */
public final class WouldBeTest {
    private static final Check CHECK = new Check();

    public static void main(String[] args) {
        nobodyAndOne();
        leastAndPlan();
        eight();
        planWants();
        fewestSongs();
        cantBeOver();
        withAndSilent();
        ways();
        inTurn();
        dearest();
        hoarse();
        tent();
        seedAndDraw();
        asksChangeNothing();
        CHECK.end();
    }

    private static void nobodyAndOne() {
        SungAsleep x = Check.told("deaf 9 voice 0;");
        CHECK.due("least", x.least(), 0);
        CHECK.due("plan", x.plan(0), 0);
        CHECK.due("last", x.plan(1), 0);
        CHECK.due("no song", x.plan(10), -3);
        CHECK.due("last", x.last(), 1);
        CHECK.due("with", x.with(0), 0);
        CHECK.due("silent", x.silent(0), 0);
        CHECK.due("ways", x.ways(), 1);
        CHECK.due("turn", x.inTurn(), 0);
        CHECK.due("dearest", x.dearest(), 0);
        CHECK.due("hoarse", x.hoarse(), 0);
        CHECK.due("tent", x.tent(), 0);
        CHECK.due("draw", x.draw(), 0);
        CHECK.due("with nobody", x.with(1), -1);
        CHECK.due("silent nobody", x.silent(-1), -1);
    }

    private static void leastAndPlan() {
        SungAsleep x = Check.told("sleeper 10;sleeper 20;sleeper 30;sleeper 40;sleeper 50;");
        CHECK.due("50 is last; 10, and 20 to 40 at once", x.least(), 50);
        CHECK.due("two songs", x.plan(0), 2);
        CHECK.due("who is last", x.plan(1), 4);
        CHECK.due("singer of the first", x.plan(10), 0);
        CHECK.due("to whom", x.plan(20), 14);
        CHECK.due("singer of the second", x.plan(11), 4);
        CHECK.due("to whom", x.plan(21), 1);
        CHECK.due("last", x.last(), 16);
        x.sing(0, 2);
        CHECK.due("from now on", x.least(), 40);
        CHECK.due("minute isn't told", x.night(0), 20);
    }

    private static void eight() {
        SungAsleep x = Check.told("sleeper 80;sleeper 70;sleeper 60;sleeper 50;sleeper 40;sleeper 30;sleeper 20;sleeper 10;");
        CHECK.due("70, 40 and 10", x.least(), 120);
        CHECK.due("tent", x.tent(), 120);
        CHECK.due("songs", x.plan(0), 3);
        int[] plan = {0, 14, 0, 112, 0, 128};
        for (int i = 0; i < 3; i++) {
            CHECK.due("singer " + i, x.plan(10 + i), plan[2 * i]);
            CHECK.due("whom " + i, x.plan(20 + i), plan[2 * i + 1]);
        }
        CHECK.due("last", x.last(), 1);
        CHECK.due("hoarse", x.hoarse(), 70);
        CHECK.due("without 0: 60, 30", x.dearest(), 0);
        SungAsleep deaf = Check.told("deaf 1;deaf 2;deaf 3;deaf 4;deaf 5;deaf 6;deaf 7;deaf 8;");
        CHECK.due("one by one", deaf.least(), 63);
        CHECK.due("seven songs", deaf.plan(0), 7);
        CHECK.due("0 sings as long as it can be awake", deaf.plan(15), 0);
        CHECK.due("the seventh is to it", deaf.plan(26), 1);
        CHECK.due("no eighth", deaf.plan(17), -3);
        CHECK.due("seven rows", deaf.prove(), 7);
        CHECK.due("the last minute", deaf.row(6, 2), 63);
        CHECK.due("all right", deaf.judge(), 0);
    }

    private static void planWants() {
        SungAsleep x = Check.told("sleeper 10;sleeper 20;");
        int[] bad = {-1, 2, 9, 18, 19, 28, 29, 30, 100, -10, -3, Integer.MIN_VALUE, Integer.MAX_VALUE};
        for (int what : bad) CHECK.due("plan " + what, x.plan(what), -1);
        for (int i = 1; i < 8; i++) {
            CHECK.due("plan " + (10 + i), x.plan(10 + i), -3);
            CHECK.due("plan " + (20 + i), x.plan(20 + i), -3);
        }
        CHECK.due("plan 10", x.plan(10), 1);
        CHECK.due("plan 20", x.plan(20), 1);
        CHECK.due("nobody: BAD first", new SungAsleep().plan(2), -1);
        CHECK.due("nobody: no song", new SungAsleep().plan(17), -3);
    }

    private static void fewestSongs() {
        // 0 could sing twice for 20 minutes; 2 sings to both at once for 40.
        SungAsleep y = Check.told("sleeper 40;sleeper 20;deaf 15;");
        CHECK.due("least", y.least(), 40);
        CHECK.due("one song", y.plan(0), 1);
        CHECK.due("by 2", y.plan(10), 2);
        CHECK.due("to both", y.plan(20), 3);
        CHECK.due("last of the plan", y.plan(1), 2);
        CHECK.due("who can be last", y.last(), 5);
        SungAsleep x = Check.told("deaf 5;deaf 5;sleeper 40;sleeper 10;");
        CHECK.due("least", x.least(), 30);
        CHECK.due("songs", x.plan(0), 3);
        CHECK.due("first singer", x.plan(10), 0);
        CHECK.due("to whom", x.plan(20), 2);
        CHECK.due("second singer", x.plan(11), 0);
        CHECK.due("to whom", x.plan(21), 8);
        CHECK.due("third singer", x.plan(12), 2);
        CHECK.due("to whom", x.plan(22), 1);
        CHECK.due("last", x.plan(1), 2);
    }

    private static void cantBeOver() {
        SungAsleep x = Check.told("old 50 voice 49;child 90 voice 54;");
        CHECK.due("46 by 49 is enough", x.least(), 46);
        x.voice(0, 45);
        CHECK.due("least", x.least(), -3);
        CHECK.due("plan", x.plan(0), -3);
        CHECK.due("plan 1", x.plan(1), -3);
        CHECK.due("plan 2: BAD first", x.plan(2), -1);
        CHECK.due("last", x.last(), 0);
        CHECK.due("with", x.with(0), -3);
        CHECK.due("silent", x.silent(0), -3);
        CHECK.due("ways", x.ways(), 0);
        CHECK.due("turn", x.inTurn(), -3);
        CHECK.due("dearest", x.dearest(), -3);
        CHECK.due("hoarse", x.hoarse(), 46);
        CHECK.due("tent", x.tent(), 46);
        CHECK.due("prove", x.prove(), -3);
    }

    private static void withAndSilent() {
        SungAsleep x = Check.told("sleeper 10;sleeper 20 voice 9;sleeper 30;");
        CHECK.due("least", x.least(), 20);
        CHECK.due("with 0", x.with(0), 30);
        CHECK.due("with 1: its voice is too low", x.with(1), -3);
        CHECK.due("with 2", x.with(2), 20);
        CHECK.due("without 2's songs: 0 is last", x.silent(2), 30);
        CHECK.due("without 0's songs", x.silent(0), 20);
        x.sing(2, 1);
        CHECK.due("who sleeps is not last", x.with(0), -3);
        CHECK.due("who sleeps doesn't sing", x.silent(0), 20);
        CHECK.due("nobody", x.with(3), -1);
        CHECK.due("nobody", x.silent(3), -1);
    }

    private static void ways() {
        CHECK.due("either", Check.told("sleeper 5;sleeper 5;").ways(), 2);
        CHECK.due("only one", Check.told("sleeper 5;sleeper 6;").ways(), 1);
        CHECK.due("three alike: at once", Check.told("sleeper 5;sleeper 5;sleeper 5;").ways(), 3);
        CHECK.due("three deaf: 3 * 2 singers, then 2", Check.told("deaf 5;deaf 5;deaf 5;").ways(), 12);
        String deaf = "deaf 1;deaf 1;deaf 1;deaf 1;deaf 1;";
        CHECK.due("five: 5! * 4!", Check.told(deaf).ways(), 2880);
        CHECK.due("seven: 7! * 6!, at most", Check.told(deaf + "deaf 1;deaf 1;").ways(), 1000000);
        CHECK.due("six: 6! * 5!", Check.told(deaf + "deaf 1;").ways(), 86400);
        CHECK.due("eight, too", Check.told(deaf + "deaf 1;deaf 1;deaf 1;").ways(), 1000000);
    }

    private static void inTurn() {
        SungAsleep x = Check.told("sleeper 10 voice 0;sleeper 20;sleeper 30;");
        CHECK.due("0 can't be last", x.inTurn(), 1);
        x.lasts(1, 2);
        CHECK.due("fewest lasts", x.inTurn(), 2);
        x.lasts(2, 2);
        CHECK.due("of several the least", x.inTurn(), 1);
        x.lasts(2, 1);
        x.sing(1, 4);
        CHECK.due("who sleeps is not last", x.inTurn(), 1);
    }

    private static void dearest() {
        SungAsleep x = Check.told("sleeper 10;sleeper 50;sleeper 60;");
        CHECK.due("without 1 or 2 it is 10; the least", x.dearest(), 1);
        SungAsleep y = Check.told("sleeper 10;sleeper 50 voice 0;sleeper 60;");
        CHECK.due("without 2: 1 by 0 in 50; without 1: 10", y.dearest(), 1);
        SungAsleep z = Check.told("sleeper 10 voice 5;sleeper 20 voice 5;sleeper 30;");
        CHECK.due("without 2 it can't be over", z.dearest(), 1);
        SungAsleep two = Check.told("sleeper 10;sleeper 20;");
        CHECK.due("of two the least", two.dearest(), 0);
        SungAsleep below = Check.told("sleeper 10 voice 0;sleeper 9 voice 0;sleeper 8 voice 10;sleeper 90;asleep 3;");
        CHECK.due("0 or 1 without whom it can be", below.dearest(), 0);
    }

    private static void hoarse() {
        CHECK.due("the second of the needs", Check.told("sleeper 10;deaf 90 voice 0;restless 90;").hoarse(), 92);
        CHECK.due("two alike", Check.told("sleeper 10;sleeper 10;").hoarse(), 10);
        CHECK.due("who sleeps counts not", Check.told("sleeper 10;sleeper 20;old 90;asleep 2;").hoarse(), 10);
        CHECK.due("nobody", new SungAsleep().hoarse(), 0);
    }

    private static void tent() {
        SungAsleep x = Check.told("sleeper 10 voice 0;sleeper 20 voice 0;sleeper 30 voice 0;"
            + "sleeper 40 voice 0;sleeper 50 voice 0;deaf 3 voice 0;");
        CHECK.due("8, then 10, then 20 to 40", x.tent(), 58);
        CHECK.due("never of themselves", x.least(), -3);
        CHECK.due("nobody", new SungAsleep().tent(), 0);
        CHECK.due("deaf alone", Check.told("deaf 5;deaf 6;deaf 7;").tent(), 21);
    }

    private static void seedAndDraw() {
        SungAsleep x = Check.told("sleeper 10;sleeper 20;sleeper 30;sleeper 4;asleep 1;");
        int z = 1;
        for (int i = 0; i < 30; i++) {
            z = z * 1103515245 + 12345;
            int[] awake = {0, 2, 3};
            CHECK.due("draw", x.draw(), awake[(z >>> 16) % 3]);
        }
        CHECK.due("seed", x.seed(-5), z);
        CHECK.due("seed", x.seed(Integer.MIN_VALUE), -5);
        CHECK.due("seed", x.seed(0), Integer.MIN_VALUE);
        SungAsleep nobody = new SungAsleep();
        CHECK.due("nobody", nobody.draw(), -3);
        CHECK.due("z stays", nobody.seed(0), 1);
    }

    private static void asksChangeNothing() {
        SungAsleep x = Check.told("sleeper 10;sleeper 20 voice 9;deaf 30;child 8;");
        int least = x.least();
        x.with(1);
        CHECK.due("least after with", x.least(), least);
        x.silent(2);
        CHECK.due("least after silent", x.least(), least);
        x.tent();
        CHECK.due("least after tent", x.least(), least);
        x.turn(3, 4);
        CHECK.due("a deaf one of the same needs changes it", x.personOf(3, 3), 13);
        SungAsleep y = Check.told("sleeper 10;old 5;old 30;");
        CHECK.due("both at once", y.least(), 10);
        y.turn(1, 4);
        CHECK.due("deaf, and the same needs", y.least(), 20);
        y.voice(2, 0);
        CHECK.due("who has no voice is not last; the deaf one sings to both", y.least(), 35);
    }
}
