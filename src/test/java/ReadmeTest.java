import java.nio.file.Files;
import java.nio.file.Path;
import java.util.regex.Matcher;
import java.util.regex.Pattern;

/** The calls that README.md shows, in their order on one object, answer what stands behind them. */
public final class ReadmeTest {
    private static final Pattern LINE = Pattern.compile("(?m)^x\\.(\\w+\\([^)]*\\));\\s*// (-?\\d+):");
    private static final Pattern HEX = Pattern.compile("0x([0-9a-f]+)L?");

    public static void main(String[] args) throws Exception {
        Check check = new Check();
        String page = Files.readString(Path.of("README.md"));
        SungAsleep x = new SungAsleep();
        int shown = 0;
        Matcher m = LINE.matcher(page);
        while (m.find()) {
            String call = HEX.matcher(m.group(1)).replaceAll(h -> "" + Long.parseLong(h.group(1), 16));
            check.due("README: " + m.group(1), Scene.answer(x, call), Long.parseLong(m.group(2)));
            shown++;
        }
        check.due("README: every line that shows a call has its answer", shown, page.split("(?m)^x\\.", -1).length - 1);
        check.end();
    }
}
