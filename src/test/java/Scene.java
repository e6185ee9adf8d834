import java.lang.reflect.Method;
import java.util.Arrays;
import java.util.LinkedHashMap;
import java.util.Map;

/**
 * What the tests of boundary cases share: an object on which some calls were made. Each question goes to a new
 * object of that scene, so that no object comes near its 512 calls and no answer depends on the question before.
 * A call is told as in Java, "voice(0, 200)"; "tell ..." feeds a text and takes it for the valley, "tape ..." feeds it.
 */
final class Scene {
    private static final Check CHECK = new Check();

    /** Something of everything that a refused call could spoil. */
    static final Scene MIDST = new Scene(
        "tell sleeper 30 voice 60 purse 20;child 9;old 50;deaf 40 voice 90;traveller 25 purse 7;restless 11;"
            + "owes 0 1 12;owes 1 2 5;owes 2 0 7;",
        "lasts(2, 4)", "seed(77)", "keep()", "sing(0, 16)", "prove()", "lasts(5, 2)", "draw()",
        "sheet(0, 0, 5)", "put(0, 4, 33)", "sheet(1, 3, 40)", "put(1, 39, -7)", "sheet(3, 1, 0)",
        "shelf(0, 0, 3)", "shelf(1, 1, 1)", "shelf(2, 0, 5)", "act(0, 3, 5)", "tape child 7;old");

    /** Nobody is there, and nothing was ever done. */
    static final Scene NEW = new Scene();

    private final String[] calls;

    Scene(String... calls) {
        this.calls = calls;
    }

    Scene then(String... more) {
        String[] all = Arrays.copyOf(calls, calls.length + more.length);
        System.arraycopy(more, 0, all, calls.length, more.length);
        return new Scene(all);
    }

    SungAsleep made() {
        SungAsleep x = new SungAsleep();
        for (String call : calls) answer(x, call);
        return x;
    }

    /** The call answers so. */
    Scene answers(String call, int want) {
        CHECK.due(this + ": " + call, answer(made(), call), want);
        return this;
    }

    /** The call answers so, and all is behind it as it would be without it. */
    Scene refuses(String call, int want) {
        SungAsleep x = made();
        CHECK.due(this + ": " + call, answer(x, call), want);
        compare(this + ": behind the refused " + call, all(x), all(made()));
        return this;
    }

    /** The call answers so, which is no refusal, and yet changes nothing. */
    Scene asks(String call, int want) {
        return refuses(call, want);
    }

    /** These calls together leave all as the scene has it. */
    Scene isLeftBy(String... undone) {
        compare(this + ": behind " + Arrays.toString(undone), all(then(undone).made()), all(made()));
        return this;
    }

    private static void compare(String name, Map<String, Integer> is, Map<String, Integer> was) {
        CHECK.holds(name + " the same is asked", is.keySet().equals(was.keySet()));
        was.forEach((question, due) -> CHECK.due(name + ", " + question, is.getOrDefault(question, -999999), due));
    }

    static void end() {
        CHECK.end();
    }

    @Override
    public String toString() {
        String all = this == MIDST ? "midst" : Arrays.toString(calls);
        return all.length() <= 160 ? all : all.substring(0, 60) + " .. " + all.substring(all.length() - 90);
    }

    static int answer(SungAsleep x, String call) {
        if (call.startsWith("tell ")) return Check.tell(x, call.substring(5));
        if (call.startsWith("tape ")) {
            Check.feed(x, call.substring(5));
            return x.many(3);
        }
        String[] words = call.split("[(), ]+");
        for (Method m : SungAsleep.class.getMethods()) {
            if (m.getName().equals(words[0]) && m.getParameterCount() == words.length - 1) return invoked(x, m, words);
        }
        throw new IllegalStateException("a test's own call is wrong: " + call);
    }

    private static int invoked(SungAsleep x, Method m, String[] words) {
        Object[] numbers = new Object[words.length - 1];
        for (int i = 0; i < numbers.length; i++) {
            long v = number(words[i + 1]);
            if (m.getParameterTypes()[i] == long.class) numbers[i] = v;
            else numbers[i] = Math.toIntExact(v);
        }
        try {
            return (Integer) m.invoke(x, numbers);
        } catch (ReflectiveOperationException e) {
            throw new IllegalStateException("no call may throw: " + String.join(" ", words), e);
        }
    }

    private static long number(String word) {
        if (word.equals("MIN")) return Integer.MIN_VALUE;
        if (word.equals("MAX")) return Integer.MAX_VALUE;
        return Long.parseLong(word);
    }

    /** All that can be asked of an object, which is used up by it: at the end its tape is read and the kept valley is taken. */
    static Map<String, Integer> all(SungAsleep x) {
        Map<String, Integer> all = new LinkedHashMap<>();
        for (int what = 0; what <= 4; what++) ask(all, x, "many(" + what + ")", "");
        int rows = x.many(2);
        int bodies = x.many(4);
        for (int i = 0; i < rows; i++) {
            for (int what = 0; what < 3; what++) ask(all, x, "row(" + i + ", " + what + ")", "");
        }
        for (int i = 0; i < bodies; i++) ask(all, x, "trace(" + i + ")", "");
        for (int place = 0; place < 4; place++) {
            for (int sort = 0; sort < 4; sort++) {
                int[] some = {0, 1, 4, 39};
                for (int i : some) ask(all, x, "item(" + place + ", " + sort + ", " + i + ")", "");
                ask(all, x, "taken(" + place + ", " + (10 + sort) + ")", "");
            }
            for (int kind = 0; kind < 6; kind++) ask(all, x, "taken(" + place + ", " + kind + ")", "");
        }
        valley(all, x, " now");
        ask(all, x, "feed(" + 0x3b3820L + ", 3)", "");
        ask(all, x, "valley()", "");
        valley(all, x, " by the tape");
        ask(all, x, "again()", "");
        valley(all, x, " kept");
        return all;
    }

    private static void valley(Map<String, Integer> all, SungAsleep x, String when) {
        int people = x.many(0);
        for (int what = 0; what < 4; what++) ask(all, x, "night(" + what + ")", when);
        for (int i = 0; i < people; i++) {
            int[] told = {0, 1, 2, 4, 5, 7};
            for (int what : told) ask(all, x, "personOf(" + i + ", " + what + ")", when);
            for (int k = 0; k < people; k++) {
                if (k != i) ask(all, x, "owed(" + i + ", " + k + ")", when);
            }
        }
        ask(all, x, "least()", when);
        ask(all, x, "seed(5)", when);
        answer(x, "seed(" + all.get("seed(5)" + when) + ")");
    }

    private static void ask(Map<String, Integer> all, SungAsleep x, String question, String when) {
        all.put(question + when, answer(x, question));
    }
}
