/** Promises 11 to 18: songs, days, what is owed, rings. */
public final class NightsTest {
    private static final Check CHECK = new Check();

    public static void main(String[] args) {
        song();
        badSongs();
        songsThatCantBe();
        travellers();
        owedHasItsMost();
        wake();
        night();
        day();
        dayWithSeveral();
        owe();
        ring();
        firstRing();
        CHECK.end();
    }

    private static void song() {
        SungAsleep x = Check.told("old 50;child 9;sleeper 20;restless 7;");
        CHECK.due("to three", x.sing(0, 14), 20);
        CHECK.due("minute", x.night(0), 20);
        CHECK.due("sung", x.personOf(0, 4), 20);
        CHECK.due("nobody else sang", x.night(3), 20);
        CHECK.due("awake", x.night(1), 1);
        CHECK.due("the child owes what it needs", x.owed(1, 0), 5);
        CHECK.due("the sleeper, too", x.owed(2, 0), 20);
        CHECK.due("the restless, too", x.owed(3, 0), 8);
        CHECK.due("the singer owes nothing", x.owed(0, 1), 0);
        CHECK.due("no purse", x.personOf(0, 7), 100000);
        x.wake(1);
        CHECK.due("again", x.sing(0, 2), 5);
        CHECK.due("owes more", x.owed(1, 0), 10);
        CHECK.due("minutes more", x.night(0), 25);
        CHECK.due("sung more", x.personOf(0, 4), 25);
    }

    private static void bothAnswer(SungAsleep x, int singer, int whom, int sing, int may) {
        CHECK.due("may " + singer + " " + whom, x.may(singer, whom), may);
        int minute = x.night(0);
        int awake = x.night(1);
        CHECK.due("sing " + singer + " " + whom, x.sing(singer, whom), sing);
        if (sing < 0) {
            CHECK.due("a refusal changes nothing", x.night(0), minute);
            CHECK.due("nobody sleeps", x.night(1), awake);
        }
    }

    private static void badSongs() {
        SungAsleep x = Check.told("old 50;child 9;sleeper 20;restless 7;old 6;");
        bothAnswer(x, -1, 2, -1, -1);
        bothAnswer(x, 5, 2, -1, -1);
        bothAnswer(x, Integer.MIN_VALUE, 2, -1, -1);
        bothAnswer(x, Integer.MAX_VALUE, 2, -1, -1);
        bothAnswer(x, 0, 0, -1, -1);
        bothAnswer(x, 0, 32, -1, -1);
        bothAnswer(x, 0, 30, -1, -1);
        bothAnswer(x, 0, -1, -1, -1);
        bothAnswer(x, 0, Integer.MIN_VALUE, -1, -1);
        bothAnswer(x, 0, Integer.MIN_VALUE + 2, -1, -1);
        CHECK.due("BAD ahead of STATE", x.sing(0, 33), -1);
    }

    private static void songsThatCantBe() {
        SungAsleep x = Check.told("old 50 voice 20;child 9;sleeper 20;deaf 7;deaf 6;sleeper 21;");
        bothAnswer(x, 0, 1, -4, 0);
        bothAnswer(x, 0, 3, -4, 0);
        bothAnswer(x, 0, 10, -4, 0);
        bothAnswer(x, 0, 24, -4, 0);
        bothAnswer(x, 0, 32, -4, 0);
        bothAnswer(x, 0, 8, 12, 1);
        bothAnswer(x, 3, 2, -4, 0);
        bothAnswer(x, 0, 8, -4, 0);
        bothAnswer(x, 0, 6, 20, 1);
        CHECK.due("may changes nothing", x.may(5, 1), 1);
        CHECK.due("as before", x.night(1), 49);
    }

    private static void travellers() {
        SungAsleep x = Check.told("traveller 40 purse 50;traveller 30;child 9;old 2 purse 1;");
        CHECK.due("song", x.sing(3, 7), 40);
        CHECK.due("pays below 0", x.personOf(0, 7), 100050 - 80);
        CHECK.due("pays what that one needs", x.personOf(1, 7), 100000 - 60);
        CHECK.due("the child pays nothing", x.personOf(2, 7), 100000);
        CHECK.due("the singer has it", x.personOf(3, 7), 100001 + 140);
        CHECK.due("a traveller owes nothing", x.owed(0, 3), 0);
        CHECK.due("the child owes", x.owed(2, 3), 5);
        x.day();
        CHECK.due("a traveller sings", x.sing(0, 12), 7);
        CHECK.due("and is owed", x.owed(3, 0), 7);
        CHECK.due("not paid", x.personOf(0, 7), 99970);
    }

    private static void owedHasItsMost() {
        SungAsleep x = Check.told("old 50;child 9;");
        x.owe(1, 0, 9997);
        CHECK.due("song", x.sing(0, 2), 5);
        CHECK.due("held to 9999", x.owed(1, 0), 9999);
    }

    private static void wake() {
        SungAsleep x = Check.told("old 50;child 9;asleep 1;");
        CHECK.due("wakes", x.wake(1), 1);
        CHECK.due("is awake", x.wake(1), 0);
        CHECK.due("awake", x.night(1), 3);
        CHECK.due("nobody", x.wake(2), -1);
        CHECK.due("nobody", x.wake(-1), -1);
    }

    private static void night() {
        SungAsleep x = Check.told("old 50;child 9;sleeper 3;");
        CHECK.due("not over", x.night(2), 0);
        x.sing(1, 4);
        x.sing(0, 2);
        CHECK.due("over", x.night(2), 1);
        CHECK.due("minute", x.night(0), 8);
        CHECK.due("all sung", x.night(3), 8);
        CHECK.due("one sang", x.personOf(1, 4), 3);
        CHECK.due("what 4", x.night(4), -1);
        CHECK.due("what -1", x.night(-1), -1);
    }

    private static void day() {
        SungAsleep x = Check.told("old 50;child 9;sleeper 3;owes 0 1 7;owes 1 0 4;owes 2 0 2;owes 1 2 6;owes 2 1 6;");
        x.lasts(1, 999);
        x.sing(1, 5);
        CHECK.due("owes", x.owed(0, 1), 62);
        CHECK.due("who was last", x.day(), 1);
        CHECK.due("lasts", x.personOf(1, 5), 1000);
        CHECK.due("of others not", x.personOf(0, 5), 0);
        CHECK.due("all awake", x.night(1), 7);
        CHECK.due("minute", x.night(0), 0);
        CHECK.due("sung", x.night(3), 0);
        CHECK.due("less by the lesser", x.owed(0, 1), 58);
        CHECK.due("nothing", x.owed(1, 0), 0);
        CHECK.due("one way stays", x.owed(2, 0), 2);
        CHECK.due("2 to 1", x.owed(2, 1), 3);
        CHECK.due("1 to 2", x.owed(1, 2), 0);
    }

    private static void dayWithSeveral() {
        SungAsleep x = Check.told("old 50;child 9;sleeper 3;owes 0 1 7;owes 1 0 4;");
        x.sing(1, 4);
        CHECK.due("two were awake", x.day(), -9);
        CHECK.due("all awake", x.night(1), 7);
        CHECK.due("minute", x.night(0), 0);
        CHECK.due("sung", x.personOf(1, 4), 0);
        CHECK.due("less", x.owed(0, 1), 3);
        for (int i = 0; i < 3; i++) CHECK.due("lasts", x.personOf(i, 5), 0);
        CHECK.due("nobody at all", new SungAsleep().day(), -9);
        CHECK.due("one alone", Check.told("deaf 3;").day(), 0);
    }

    private static void owe() {
        SungAsleep x = Check.told("old 50;child 9;");
        CHECK.due("owe", x.owe(0, 1, 9999), 0);
        CHECK.due("owe 0", x.owe(0, 1, 0), 9999);
        CHECK.due("owe -1", x.owe(0, 1, -1), -1);
        CHECK.due("owe 10000", x.owe(0, 1, 10000), -1);
        CHECK.due("the same", x.owe(1, 1, 5), -1);
        CHECK.due("nobody", x.owe(0, 2, 5), -1);
        CHECK.due("nobody", x.owe(-1, 0, 5), -1);
        CHECK.due("owed the same", x.owed(0, 0), -1);
        CHECK.due("owed nobody", x.owed(0, 2), -1);
        CHECK.due("owed by nobody", x.owed(2, 0), -1);
        CHECK.due("owed by nobody", x.owed(-1, 0), -1);
        CHECK.due("it is 0", x.owed(0, 1), 0);
    }

    private static void ring() {
        SungAsleep x = Check.told("old 5;old 5;old 5;old 5;owes 3 1 5;owes 1 2 9;owes 2 3 7;");
        CHECK.due("ring", x.ring(), 123);
        CHECK.due("1 to 2", x.owed(1, 2), 4);
        CHECK.due("2 to 3", x.owed(2, 3), 2);
        CHECK.due("3 to 1", x.owed(3, 1), 0);
        CHECK.due("no more", x.ring(), -3);
        int[][] owing = {{1, 2, 3}, {2, 1, 3}, {3, 2, 1}};
        for (int[] o : owing) {
            SungAsleep y = Check.told("old 5;old 5;old 5;");
            for (int i = 0; i < 3; i++) y.owe(i, (i + 1) % 3, o[i]);
            CHECK.due("ring", y.ring(), 12);
            for (int i = 0; i < 3; i++) CHECK.due("less by the least", y.owed(i, (i + 1) % 3), o[i] - 1);
        }
        SungAsleep back = Check.told("old 5;old 5;old 5;owes 0 2 1;owes 2 1 1;owes 1 0 1;");
        CHECK.due("the other way round", back.ring(), 21);
        SungAsleep two = Check.told("old 5;old 5;owes 0 1 5;owes 1 0 5;");
        CHECK.due("two are no ring", two.ring(), -3);
        CHECK.due("unchanged", two.owed(0, 1), 5);
        SungAsleep four = Check.told("old 5;old 5;old 5;old 5;owes 0 1 5;owes 1 2 5;owes 2 3 5;owes 3 0 5;");
        CHECK.due("four are none", four.ring(), -3);
    }

    private static void firstRing() {
        SungAsleep x = Check.told("old 5;old 5;old 5;old 5;owes 0 2 1;owes 2 1 1;owes 1 0 3;"
            + "owes 0 3 2;owes 3 1 2;owes 2 3 4;owes 3 0 1;");
        CHECK.due("the least third of 0, 2", x.ring(), 21);
        CHECK.due("then by the second", x.ring(), 31);
        CHECK.due("no more", x.ring(), -3);
    }
}
