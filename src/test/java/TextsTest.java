import java.util.Random;

/** Promise 3 on texts by lot, against a reader of another make. */
public final class TextsTest {
    private static final Check CHECK = new Check();
    private static final String[] BITS = {"sleeper", "child", "old", "restless", "deaf", "traveller", "voice", "purse",
        "owes", "asleep", "oldest", "vo", ";", ";", ";", ";", " ", " ", "  ", "0", "1", "2", "7", "8", "90", "91", "200",
        "201", "999", "0000", "1000", "x", "A", ".", "\n", "" + (char) 200};

    public static void main(String[] args) {
        Random lot = new Random(45);
        for (int round = 0; round < 60000; round++) compare(byLot(lot));
        CHECK.end();
    }

    /** A text of 200 bytes at most. */
    static String byLot(Random lot) {
        return lot.nextInt(4) == 0 ? wild(lot) : mild(lot);
    }

    private static String wild(Random lot) {
        StringBuilder text = new StringBuilder();
        int bits = lot.nextInt(14);
        for (int i = 0; i < bits; i++) text.append(BITS[lot.nextInt(BITS.length)]);
        return text.toString();
    }

    /** A text that is mostly right, with now and then a bit changed or cut. */
    private static String mild(Random lot) {
        StringBuilder text = new StringBuilder();
        int items = 1 + lot.nextInt(11);
        int told = 0;
        for (int i = 0; i < items; i++) {
            int sort = lot.nextInt(told < 2 ? 6 : 9);
            if (sort < 6) {
                text.append(PlainReader.KINDS.get(sort)).append(' ').append(1 + lot.nextInt(90));
                if (lot.nextInt(6) == 0) text.append(" voice ").append(lot.nextInt(202));
                if (lot.nextInt(6) == 0) text.append(" purse ").append(lot.nextInt(1001));
                told++;
            } else if (sort < 8) {
                text.append("owes ").append(lot.nextInt(told)).append(' ').append(lot.nextInt(told)).append(' ')
                    .append(lot.nextInt(1002));
            } else {
                text.append("asleep ").append(lot.nextInt(told));
            }
            text.append(lot.nextInt(30) == 0 ? " " : ";");
        }
        if (lot.nextInt(3) == 0) text.setLength(lot.nextInt(text.length() + 1));
        if (lot.nextInt(4) == 0) text.insert(lot.nextInt(text.length() + 1), BITS[lot.nextInt(BITS.length)]);
        if (text.length() > 200) text.setLength(200);
        return text.toString();
    }

    private static void compare(String text) {
        PlainReader reader = new PlainReader(text);
        SungAsleep x = new SungAsleep();
        int fault = reader.fault();
        int answer = Check.tell(x, text);
        String name = "valley of '" + text + "'";
        CHECK.due(name, answer, fault < 0 ? reader.people.size() : -100 - fault);
        if (fault >= 0 || answer != reader.people.size()) return;
        for (int i = 0; i < answer; i++) {
            int[] p = reader.people.get(i);
            CHECK.due(name, x.personOf(i, 0), p[0]);
            CHECK.due(name, x.personOf(i, 1), p[1]);
            CHECK.due(name, x.personOf(i, 2), p[2]);
            CHECK.due(name, x.personOf(i, 7), p[3] + 100000);
            CHECK.due(name, x.personOf(i, 6), p[4]);
            for (int k = 0; k < answer; k++) {
                if (k != i) CHECK.due(name, x.owed(i, k), reader.owed[i][k]);
            }
        }
    }
}
