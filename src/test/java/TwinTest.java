import java.lang.reflect.Method;
import java.nio.charset.StandardCharsets;
import java.util.ArrayDeque;
import java.util.Arrays;
import java.util.Deque;
import java.util.HashMap;
import java.util.Map;
import java.util.Random;

/** All promises: runs of 512 calls by lot, each answer as that of PlainValley, which tells the document a second time. */
public final class TwinTest {
    private static final Check CHECK = new Check();
    private static final int RUNS = 250, CALLS = 512;
    private static final int[] ODD = {Integer.MIN_VALUE, Integer.MAX_VALUE, -1, -2, 0, 1, 2, 3, 4, 5, 6, 7, 8, 9, 16, 17,
        18, 20, 27, 28, 32, 39, 40, 41, 64, 89, 90, 91, 128, 199, 200, 201, 255, 256, 998, 999, 1000, 9998, 9999, 10000,
        -9999, -10000, 32768, 65536, Integer.MIN_VALUE + 1, Integer.MAX_VALUE - 1, 1 << 30};
    /** A name stands here as often as it is to come. */
    private static final String[] NAMES = ("tell person person person personOf personOf personOf personOf "
        + "voice voice purse turn turn older lasts lasts sing sing sing sing sing sing may may wake wake night night day "
        + "owed owed owed owe owe owe ring ring least plan plan plan plan last with silent ways inTurn inTurn dearest "
        + "hoarse tent seed draw draw prove row row alterRow judge judge ages sheet sheet put put put item item shelf "
        + "shelf taken taken act act act act trace trace trace many many keep again tape").split(" ");

    private final Random lot;
    private final String name;
    private final SungAsleep x = new SungAsleep();
    private final PlainValley twin = new PlainValley();
    private final Deque<Object[]> ahead = new ArrayDeque<>();
    /** Of this run: below it voices stay mostly, so that in some runs few songs can be sung. */
    private final int loud;

    private TwinTest(int run) {
        lot = new Random(run);
        name = "run " + run + ", call ";
        loud = lot.nextInt(2) == 0 ? 201 : 4 + lot.nextInt(20);
    }

    public static void main(String[] args) throws ReflectiveOperationException {
        Map<String, Method> calls = methods(SungAsleep.class);
        Map<String, Method> twins = methods(PlainValley.class);
        CHECK.holds("the twin has the same calls", calls.keySet().equals(twins.keySet()));
        for (int run = 0; run < RUNS; run++) new TwinTest(run).run(calls, twins);
        CHECK.end();
    }

    private static Map<String, Method> methods(Class<?> of) {
        Map<String, Method> methods = new HashMap<>();
        for (Method m : of.getDeclaredMethods()) {
            if (java.lang.reflect.Modifier.isPublic(m.getModifiers())) methods.put(m.getName(), m);
        }
        return methods;
    }

    private void run(Map<String, Method> calls, Map<String, Method> twins) throws ReflectiveOperationException {
        for (int i = lot.nextInt(9); i > 0; i--) comeNext("person");
        for (int i = 0; i < CALLS; i++) {
            while (ahead.isEmpty()) comeNext(NAMES[lot.nextInt(NAMES.length)]);
            Object[] call = ahead.remove();
            Object[] numbers = Arrays.copyOfRange(call, 1, call.length);
            int got = (Integer) calls.get(call[0]).invoke(x, numbers);
            int want = (Integer) twins.get(call[0]).invoke(twin, numbers);
            CHECK.due(name + i + ", " + Arrays.toString(call), got, want);
        }
    }

    private void call(Object... nameAndNumbers) {
        ahead.add(nameAndNumbers);
    }

    /** Mostly a number below this one, now and then an odd one. */
    private int below(int high) {
        if (lot.nextInt(25) == 0) return ODD[lot.nextInt(ODD.length)];
        return lot.nextInt(Math.max(1, high));
    }

    private int who() {
        return below(lot.nextInt(10) == 0 ? 8 : twin.many(0));
    }

    private int set() {
        int set = 0;
        for (int i = lot.nextInt(4); i >= 0; i--) set |= 1 << who();
        return set;
    }

    private int wide() {
        return lot.nextInt(4) == 0 ? lot.nextInt() : lot.nextInt(2000) - 1000;
    }

    /** A sheet or a shelf. */
    private int place() {
        return below(lot.nextInt(3) == 0 ? 4 : 2);
    }

    private void comeNext(String call) {
        switch (call) {
            case "tell": tell(TextsTest.byLot(lot)); break;
            case "tape": feedOrRead(); break;
            case "person": person(); break;
            case "personOf": call(call, who(), below(8)); break;
            case "voice": call(call, who(), below(loud)); break;
            case "purse": call(call, who(), below(19999) - 9999); break;
            case "turn": call(call, who(), below(6)); break;
            case "lasts": call(call, who(), below(lot.nextInt(8) == 0 ? 1000 : 3)); break;
            case "sing": case "may": call(call, who(), set()); break;
            case "wake": case "with": case "silent": call(call, who()); break;
            case "night": call(call, below(4)); break;
            case "owed": call(call, who(), who()); break;
            case "owe": call(call, who(), who(), lot.nextInt(3) == 0 ? 9900 + below(100) : below(12)); break;
            case "plan": call(call, lot.nextInt(6) == 0 ? below(30) : 10 * below(3) + below(4)); break;
            case "seed": call(call, lot.nextInt()); break;
            case "row": call(call, below(4), below(3)); break;
            case "alterRow": alterRow(); break;
            case "ages": call(call, place(), below(4), who(), below(4)); break;
            case "sheet": sheet(); break;
            case "put": call(call, place(), below(8), wide()); break;
            case "item": item(); break;
            case "shelf": call(call, place(), lot.nextInt(3) == 0 ? below(3) : 0, who()); break;
            case "taken": call(call, place(), below(lot.nextInt(3) == 0 ? 15 : 6)); break;
            case "act": act(); break;
            case "trace": call(call, below(12)); break;
            case "many": call(call, below(5)); break;
            default: call(call); break;
        }
    }

    private void person() {
        call("person", below(6), 1 + below(lot.nextInt(3) == 0 ? 90 : 9));
        if (loud < 201) call("voice", twin.many(0), below(loud));
    }

    private void sheet() {
        int sort = lot.nextInt(2) == 0 ? 0 : below(5) - 1;
        call("sheet", place(), sort, lot.nextInt(8) == 0 ? below(60) - 10 : below(8));
    }

    /** Mostly taken for the sort that it is of. */
    private void item() {
        int sheet = place();
        int sort = below(4);
        for (int s = 0; s < 4 && lot.nextInt(10) > 0; s++) {
            if (twin.item(sheet, s, 0) != -13) sort = s;
        }
        call("item", sheet, sort, below(6));
    }

    private void feedOrRead() {
        if (lot.nextInt(6) == 0) call("feed", lot.nextLong(), below(10));
        else if (lot.nextInt(6) == 0) call("valley");
    }

    private void act() {
        call("act", place(), below(4), wide());
        call("many", 4);
        call("trace", below(6));
    }

    /** A row is altered, judged, and mostly set right again. */
    private void alterRow() {
        int i = below(3);
        int what = below(3);
        int was = twin.row(i, what);
        call("alterRow", i, what, lot.nextInt(2) == 0 ? was + lot.nextInt(3) - 1 : below(64));
        call("judge");
        if (lot.nextInt(3) > 0) call("alterRow", i, what, was);
    }

    private void tell(String text) {
        byte[] bytes = text.getBytes(StandardCharsets.ISO_8859_1);
        int at = 0;
        while (at < bytes.length) {
            int n = Math.min(bytes.length - at, lot.nextInt(8) == 0 ? 1 + lot.nextInt(8) : 8);
            // What stands in eight above its n bytes counts nothing.
            long eight = lot.nextLong();
            for (int i = 0; i < n; i++) {
                eight &= ~(255L << 8 * i);
                eight |= (bytes[at + i] & 255L) << 8 * i;
            }
            call("feed", eight, n);
            at += n;
        }
        // Left unread, it makes the next text come to a tape that becomes full.
        if (lot.nextInt(8) > 0) call("valley");
    }
}
