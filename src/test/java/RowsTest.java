/** Promises 31 to 35: rows of a plan, their reader, ages from a sheet. */
public final class RowsTest {
    private static final Check CHECK = new Check();

    public static void main(String[] args) {
        prove();
        rowsOutside();
        alterRow();
        judgeWrongRows();
        judgeNotOver();
        proveThatCant();
        ages();
        agesRefused();
        CHECK.end();
    }

    private static void prove() {
        SungAsleep x = Check.told("sleeper 10;sleeper 20;sleeper 30;sleeper 40;sleeper 50;sleeper 4;");
        CHECK.due("a song ahead", x.sing(0, 32), 4);
        CHECK.due("rows", x.prove(), 2);
        CHECK.due("many", x.many(2), 2);
        int[][] want = {{0, 14, 44}, {4, 1, 54}};
        for (int i = 0; i < 2; i++) {
            for (int what = 0; what < 3; what++) {
                CHECK.due("row " + i + " " + what, x.row(i, what), want[i][what]);
            }
        }
        CHECK.due("judge", x.judge(), 0);
        CHECK.due("judge changes nothing", x.night(0), 4);
        x.sing(0, 14);
        CHECK.due("the first was sung", x.judge(), 1);
        CHECK.due("rows stay", x.many(2), 2);
    }

    private static void rowsOutside() {
        SungAsleep x = Check.told("sleeper 10;sleeper 20;");
        CHECK.due("none", x.row(0, 0), -9);
        CHECK.due("none", x.alterRow(0, 0, 1), -9);
        CHECK.due("prove", x.prove(), 1);
        int[][] outside = {{-1, 0}, {1, 0}, {0, -1}, {0, 3}, {Integer.MAX_VALUE, 0}, {0, Integer.MIN_VALUE}};
        for (int[] at : outside) {
            CHECK.due("row " + at[0] + " " + at[1], x.row(at[0], at[1]), -9);
            CHECK.due("alter " + at[0] + " " + at[1], x.alterRow(at[0], at[1], 5), -9);
        }
        CHECK.due("judge", x.judge(), 0);
    }

    private static void alterRow() {
        SungAsleep x = Check.told("sleeper 10;sleeper 20;sleeper 30;");
        x.prove();
        CHECK.due("singer", x.alterRow(0, 0, 7), 2);
        CHECK.due("is 7", x.row(0, 0), 7);
        CHECK.due("whom", x.alterRow(0, 1, -7), 3);
        CHECK.due("is -7", x.row(0, 1), -7);
        CHECK.due("minute", x.alterRow(0, 2, Integer.MIN_VALUE), 20);
        CHECK.due("is least", x.row(0, 2), Integer.MIN_VALUE);
        CHECK.due("proved anew", x.prove(), 1);
        CHECK.due("singer", x.row(0, 0), 2);
    }

    private static void judgeWrongRows() {
        SungAsleep x = Check.told("sleeper 10;sleeper 20;sleeper 30;sleeper 40;sleeper 50;");
        x.prove();
        int[][] wrong = {{0, 0, -1, 1}, {0, 0, 5, 1}, {0, 0, 1, 1}, {0, 1, 0, 1}, {0, 1, 32, 1}, {0, 2, 39, 1},
            {1, 0, 0, 2}, {1, 0, 1, 2}, {1, 1, 15, 2}, {1, 1, 2, 2}, {1, 2, 51, 2}, {1, 2, 10, 2}};
        for (int[] w : wrong) {
            int was = x.alterRow(w[0], w[1], w[2]);
            CHECK.due("judge with " + w[0] + " " + w[1] + " " + w[2], x.judge(), w[3]);
            x.alterRow(w[0], w[1], was);
            CHECK.due("judge as it was", x.judge(), 0);
        }
        x.alterRow(0, 0, 4);
        CHECK.due("another singer is right, too", x.judge(), 0);
        x.voice(4, 39);
        CHECK.due("by voices", x.judge(), 1);
        x.alterRow(0, 0, 0);
        x.voice(4, 9);
        CHECK.due("of the second, too", x.judge(), 2);
    }

    private static void judgeNotOver() {
        SungAsleep x = Check.told("sleeper 10;sleeper 20;sleeper 30;");
        CHECK.due("no rows", x.judge(), 222);
        x.prove();
        x.alterRow(0, 1, 2);
        CHECK.due("one less", x.judge(), 222);
        x.person(0, 5);
        x.alterRow(0, 1, 3);
        CHECK.due("one more came", x.judge(), 222);
        SungAsleep over = Check.told("deaf 5;deaf 6;deaf 7;");
        CHECK.due("rows", over.prove(), 2);
        over.sing(2, 1);
        over.sing(2, 2);
        CHECK.due("over ahead of a row", over.judge(), 1);
        CHECK.due("nobody", new SungAsleep().judge(), 0);
    }

    private static void proveThatCant() {
        SungAsleep x = Check.told("sleeper 10;sleeper 20;");
        x.prove();
        x.voice(0, 0);
        x.voice(1, 0);
        CHECK.due("none", x.prove(), -3);
        CHECK.due("rows stay", x.many(2), 1);
        CHECK.due("and are wrong", x.judge(), 1);
        x.voice(1, 10);
        x.sing(1, 1);
        CHECK.due("over", x.prove(), 0);
        CHECK.due("no rows", x.many(2), 0);
    }

    private static void ages() {
        SungAsleep x = Check.told("sleeper 9;sleeper 9;sleeper 9;sleeper 9;");
        x.sheet(2, 0, 40);
        int[] values = {0, 1, 90, 91, -128, 127, 45};
        for (int i = 0; i < values.length; i++) x.put(2, 33 + i, values[i]);
        CHECK.due("three", x.ages(2, 33, 1, 3), 3);
        int[] want = {9, 1, 1, 90};
        for (int i = 0; i < 4; i++) CHECK.due("age " + i, x.personOf(i, 1), want[i]);
        CHECK.due("four", x.ages(2, 36, 0, 4), 4);
        int[] then = {90, 1, 90, 45};
        for (int i = 0; i < 4; i++) CHECK.due("age " + i, x.personOf(i, 1), then[i]);
        x.put(2, 0, 33);
        CHECK.due("from the first", x.ages(2, 0, 0, 1), 1);
        CHECK.due("33", x.personOf(0, 1), 33);
        SungAsleep eight = Check.told("old 1;old 1;old 1;old 1;old 1;old 1;old 1;old 1;");
        eight.sheet(0, 0, 8);
        for (int i = 0; i < 8; i++) eight.put(0, i, 10 + i);
        CHECK.due("all eight", eight.ages(0, 0, 0, 8), 8);
        for (int i = 0; i < 8; i++) CHECK.due("age " + i, eight.personOf(i, 1), 10 + i);
        CHECK.due("none", x.ages(2, 40, 3, 0), 0);
        CHECK.due("as it was", x.personOf(3, 1), 45);
    }

    private static void agesRefused() {
        SungAsleep x = Check.told("sleeper 9;sleeper 9;");
        x.sheet(0, 0, 3);
        x.sheet(1, 1, 3);
        int[][] refused = {{-1, 0, 0, 1, -1}, {4, 0, 0, 1, -1}, {0, 0, 2, 0, -1}, {0, 0, -1, 1, -1}, {0, 0, 0, -1, -1},
            {0, 0, 0, 9, -1}, {0, 0, 1, 2, -1}, {3, 9, 1, 2, -1}, {3, 9, 0, 2, -11}, {1, 9, 0, 2, -13}, {0, 2, 0, 2, -12},
            {0, -1, 0, 0, -12}, {0, 4, 0, 0, -12}, {0, Integer.MAX_VALUE, 0, 2, -12}, {0, Integer.MIN_VALUE, 0, 2, -12},
            {0, 0, 0, Integer.MIN_VALUE, -1}, {0, 0, Integer.MAX_VALUE, 1, -1}, {0, 0, 1, Integer.MAX_VALUE, -1}};
        for (int[] r : refused) {
            CHECK.due("ages " + r[0] + " " + r[1] + " " + r[2] + " " + r[3], x.ages(r[0], r[1], r[2], r[3]), r[4]);
        }
        CHECK.due("unchanged", x.personOf(0, 1), 9);
        CHECK.due("nobody", new SungAsleep().ages(0, 0, 0, 0), -1);
    }
}
