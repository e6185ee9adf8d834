import java.util.ArrayList;
import java.util.List;
import java.util.Random;
import java.util.regex.Matcher;
import java.util.regex.Pattern;

/** Promise 3 on texts by lot, against a reader of another make: tokens first, then a row of what may come next. */
public final class TextsTest {
    private static final Check CHECK = new Check();
    private static final Pattern TOKEN = Pattern.compile("[a-z]+|[0-9]+|[^ ]", Pattern.DOTALL);
    private static final List<String> KINDS = List.of("sleeper", "child", "old", "restless", "deaf", "traveller");
    private static final String[] BITS = {"sleeper", "child", "old", "restless", "deaf", "traveller", "voice", "purse",
        "owes", "asleep", "oldest", "vo", ";", ";", ";", ";", " ", " ", "  ", "0", "1", "2", "7", "8", "90", "91", "200",
        "201", "999", "0000", "1000", "x", "A", ".", "\n", "" + (char) 200};

    private final List<String> tokens = new ArrayList<>();
    private final List<Integer> places = new ArrayList<>();
    private final List<int[]> people = new ArrayList<>();
    private final int[][] owed = new int[8][8];
    private int at;

    private TextsTest(String text) {
        Matcher m = TOKEN.matcher(text);
        while (m.find()) {
            tokens.add(m.group());
            places.add(m.start());
        }
        tokens.add("");
        places.add(text.length());
    }

    private boolean is(String word) {
        return tokens.get(at).equals(word);
    }

    private int number(int high) {
        String t = tokens.get(at);
        if (!t.matches("[0-9]{1,3}") || Integer.parseInt(t) > high) return -1;
        return Integer.parseInt(t);
    }

    /** The place of the fault, or -1. */
    private int fault() {
        while (!is("")) {
            if (!item()) return places.get(at);
        }
        return -1;
    }

    private boolean item() {
        int kind = KINDS.indexOf(tokens.get(at));
        if (kind >= 0 && people.size() < 8) {
            int[] p = {kind, 0, 100, 0, 1};
            at++;
            p[1] = number(90);
            if (p[1] < 1) return false;
            at++;
            if (is("voice")) {
                at++;
                p[2] = number(200);
                if (p[2] < 0) return false;
                at++;
            }
            if (is("purse")) {
                at++;
                p[3] = number(999);
                if (p[3] < 0) return false;
                at++;
            }
            people.add(p);
        } else if (is("owes")) {
            at++;
            int who = number(people.size() - 1);
            if (who < 0) return false;
            at++;
            int whom = number(people.size() - 1);
            if (whom < 0 || whom == who) return false;
            at++;
            int minutes = number(999);
            if (minutes < 0) return false;
            at++;
            owed[who][whom] = minutes;
        } else if (is("asleep")) {
            at++;
            int who = number(people.size() - 1);
            if (who < 0 || people.get(who)[4] == 0) return false;
            if (people.stream().mapToInt(p -> p[4]).sum() < 2) return false;
            at++;
            people.get(who)[4] = 0;
        } else {
            return false;
        }
        if (!is(";")) return false;
        at++;
        return true;
    }

    public static void main(String[] args) {
        Random lot = new Random(45);
        for (int round = 0; round < 60000; round++) compare(lot.nextInt(4) == 0 ? wild(lot) : mild(lot));
        CHECK.end();
    }

    private static String wild(Random lot) {
        StringBuilder text = new StringBuilder();
        int bits = lot.nextInt(14);
        for (int i = 0; i < bits; i++) text.append(BITS[lot.nextInt(BITS.length)]);
        return text.toString();
    }

    /** A text that is mostly right, with now and then a bit changed or cut. */
    private static String mild(Random lot) {
        StringBuilder text = new StringBuilder();
        int items = 1 + lot.nextInt(11);
        int told = 0;
        for (int i = 0; i < items; i++) {
            int sort = lot.nextInt(told < 2 ? 6 : 9);
            if (sort < 6) {
                text.append(KINDS.get(sort)).append(' ').append(1 + lot.nextInt(90));
                if (lot.nextInt(6) == 0) text.append(" voice ").append(lot.nextInt(202));
                if (lot.nextInt(6) == 0) text.append(" purse ").append(lot.nextInt(1001));
                told++;
            } else if (sort < 8) {
                text.append("owes ").append(lot.nextInt(told)).append(' ').append(lot.nextInt(told)).append(' ')
                    .append(lot.nextInt(1002));
            } else {
                text.append("asleep ").append(lot.nextInt(told));
            }
            text.append(lot.nextInt(30) == 0 ? " " : ";");
        }
        if (lot.nextInt(3) == 0) text.setLength(lot.nextInt(text.length() + 1));
        if (lot.nextInt(4) == 0) text.insert(lot.nextInt(text.length() + 1), BITS[lot.nextInt(BITS.length)]);
        if (text.length() > 200) text.setLength(200);
        return text.toString();
    }

    private static void compare(String text) {
        TextsTest model = new TextsTest(text);
        SungAsleep x = new SungAsleep();
        int fault = model.fault();
        int answer = Check.tell(x, text);
        String name = "valley of '" + text + "'";
        CHECK.due(name, answer, fault < 0 ? model.people.size() : -100 - fault);
        if (fault >= 0 || answer != model.people.size()) return;
        for (int i = 0; i < answer; i++) {
            int[] p = model.people.get(i);
            CHECK.due(name, x.personOf(i, 0), p[0]);
            CHECK.due(name, x.personOf(i, 1), p[1]);
            CHECK.due(name, x.personOf(i, 2), p[2]);
            CHECK.due(name, x.personOf(i, 7), p[3] + 100000);
            CHECK.due(name, x.personOf(i, 6), p[4]);
            for (int k = 0; k < answer; k++) {
                if (k != i) CHECK.due(name, x.owed(i, k), model.owed[i][k]);
            }
        }
    }
}
