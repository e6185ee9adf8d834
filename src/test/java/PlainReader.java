import java.util.ArrayList;
import java.util.List;
import java.util.regex.Matcher;
import java.util.regex.Pattern;

/** A reader of TEXTS of another make than the class's: tokens first, then a row of what may come next. */
final class PlainReader {
    static final List<String> KINDS = List.of("sleeper", "child", "old", "restless", "deaf", "traveller");
    private static final Pattern TOKEN = Pattern.compile("[a-z]+|[0-9]+|[^ ]", Pattern.DOTALL);

    /** Of each the KIND, AGE, VOICE, PURSE, and 1 who is awake. */
    final List<int[]> people = new ArrayList<>();
    final int[][] owed = new int[8][8];

    private final List<String> tokens = new ArrayList<>();
    private final List<Integer> places = new ArrayList<>();
    private int at;

    PlainReader(String text) {
        Matcher m = TOKEN.matcher(text);
        while (m.find()) {
            tokens.add(m.group());
            places.add(m.start());
        }
        tokens.add("");
        places.add(text.length());
    }

    /** The place of the fault, or -1. */
    int fault() {
        while (!is("")) {
            if (!item()) return places.get(at);
        }
        return -1;
    }

    private boolean is(String word) {
        return tokens.get(at).equals(word);
    }

    private int number(int high) {
        String t = tokens.get(at);
        if (!t.matches("[0-9]{1,3}") || Integer.parseInt(t) > high) return -1;
        return Integer.parseInt(t);
    }

    private boolean item() {
        boolean right;
        if (KINDS.contains(tokens.get(at))) right = people.size() < 8 && person();
        else if (is("owes")) right = owes();
        else right = is("asleep") && asleep();
        if (!right || !is(";")) return false;
        at++;
        return true;
    }

    private boolean person() {
        int[] p = {KINDS.indexOf(tokens.get(at)), 0, 100, 0, 1};
        at++;
        p[1] = number(90);
        if (p[1] < 1) return false;
        at++;
        people.add(p);
        return extra("voice", p, 2, 200) && extra("purse", p, 3, 999);
    }

    private boolean extra(String name, int[] p, int what, int high) {
        if (!is(name)) return true;
        at++;
        p[what] = number(high);
        if (p[what] < 0) return false;
        at++;
        return true;
    }

    private boolean owes() {
        at++;
        int who = number(people.size() - 1);
        if (who < 0) return false;
        at++;
        int whom = number(people.size() - 1);
        if (whom < 0 || whom == who) return false;
        at++;
        int minutes = number(999);
        if (minutes < 0) return false;
        at++;
        owed[who][whom] = minutes;
        return true;
    }

    private boolean asleep() {
        at++;
        int who = number(people.size() - 1);
        if (who < 0 || people.get(who)[4] == 0) return false;
        if (people.stream().mapToInt(p -> p[4]).sum() < 2) return false;
        at++;
        people.get(who)[4] = 0;
        return true;
    }
}
