import java.lang.reflect.Constructor;
import java.lang.reflect.Field;
import java.lang.reflect.Method;
import java.lang.reflect.Modifier;
import java.nio.file.Files;
import java.nio.file.Path;
import java.util.Arrays;
import java.util.Set;
import java.util.TreeSet;
import java.util.regex.Matcher;
import java.util.regex.Pattern;

/** The public face, and those rules of the language that can be read off the class and its source. */
public final class FaceTest {
    private static final Check CHECK = new Check();
    private static final String FACE = "act(int,int,int) again() ages(int,int,int,int) alterRow(int,int,int) day() "
        + "dearest() draw() feed(long,int) hoarse() inTurn() item(int,int,int) judge() keep() last() lasts(int,int) "
        + "least() many(int) may(int,int) night(int) older() owe(int,int,int) owed(int,int) person(int,int) "
        + "personOf(int,int) plan(int) prove() purse(int,int) put(int,int,int) ring() row(int,int) seed(int) "
        + "sheet(int,int,int) shelf(int,int,int) silent(int) sing(int,int) taken(int,int) tent() trace(int) "
        + "turn(int,int) valley() voice(int,int) wake(int) ways() with(int)";

    public static void main(String[] args) throws Exception {
        methods();
        fieldsAndConstructors();
        classes();
        source();
        CHECK.end();
    }

    private static String told(Method m) {
        StringBuilder text = new StringBuilder(m.getName()).append('(');
        for (Class<?> type : m.getParameterTypes()) text.append(text.charAt(text.length() - 1) == '(' ? "" : ",").append(type);
        return text.append(')').toString();
    }

    private static void methods() {
        Set<String> face = new TreeSet<>();
        Set<String> names = new TreeSet<>();
        for (Method m : SungAsleep.class.getDeclaredMethods()) {
            if (Modifier.isPublic(m.getModifiers())) {
                face.add(told(m));
                names.add(m.getName());
                CHECK.holds(m.getName() + " answers an int", m.getReturnType() == int.class);
                CHECK.holds(m.getName() + " is not static", !Modifier.isStatic(m.getModifiers()));
            }
        }
        CHECK.holds("the face is as told: " + face, face.equals(new TreeSet<>(Arrays.asList(FACE.split(" ")))));
        for (Method m : SungAsleep.class.getDeclaredMethods()) {
            if (Modifier.isPublic(m.getModifiers())) continue;
            CHECK.holds(m.getName() + " is private", Modifier.isPrivate(m.getModifiers()));
            CHECK.holds(m.getName() + " bears no public name", !names.contains(m.getName()));
        }
        for (Class<?> inner : SungAsleep.class.getDeclaredClasses()) {
            for (Method m : inner.getDeclaredMethods()) {
                CHECK.holds(inner + " " + m.getName() + " bears no public name", !names.contains(m.getName()));
                CHECK.holds(m.getName() + " takes at most seven", m.getParameterCount() <= 7);
            }
        }
    }

    private static void fieldsAndConstructors() throws Exception {
        Set<String> constants = new TreeSet<>();
        for (Field f : SungAsleep.class.getDeclaredFields()) {
            if (Modifier.isPublic(f.getModifiers())) constants.add(f.getName() + "=" + f.get(null));
            else CHECK.holds(f.getName() + " is private", Modifier.isPrivate(f.getModifiers()));
            if (Modifier.isStatic(f.getModifiers())) CHECK.holds(f.getName(), Modifier.isFinal(f.getModifiers()));
        }
        CHECK.holds("constants: " + constants, constants.equals(Set.of("BAD=-1", "FULL=-2", "NONE=-3", "STATE=-4")));
        Constructor<?>[] made = SungAsleep.class.getDeclaredConstructors();
        CHECK.holds("one public constructor without arguments",
            made.length == 1 && Modifier.isPublic(made[0].getModifiers()) && made[0].getParameterCount() == 0);
        CHECK.holds("final", Modifier.isFinal(SungAsleep.class.getModifiers()));
    }

    private static void classes() {
        Class<?>[] inner = SungAsleep.class.getDeclaredClasses();
        CHECK.holds("at most twelve classes", inner.length + 1 <= 12);
        for (Class<?> c : inner) {
            CHECK.holds(c + " is static", Modifier.isStatic(c.getModifiers()));
            CHECK.holds(c + " is private", Modifier.isPrivate(c.getModifiers()));
            int fields = 0;
            for (Field f : c.getDeclaredFields()) {
                if (!Modifier.isStatic(f.getModifiers())) fields++;
            }
            CHECK.holds(c + " has at most twenty fields", fields <= 20);
        }
    }

    private static void source() throws Exception {
        String text = Files.readString(Path.of("src/main/java/SungAsleep.java"));
        String code = text.replaceAll("/\\*(?s:.*?)\\*/", "").replaceAll("//.*", "").replaceAll("\"[^\"]*\"", "\"\"");
        String[] none = {"throw", "throws", "try", "catch", "finally", "synchronized", "assert", "import", "package",
            "->", "::", "Object", "System\\.(?!arraycopy)", "double", "float"};
        for (String word : none) {
            String form = Character.isLetter(word.charAt(0)) ? "\\b" + word : word;
            CHECK.holds("no '" + word + "' in the source", !Pattern.compile(form).matcher(code).find());
        }
        CHECK.holds("signs 1 to 127", text.chars().allMatch(c -> c > 0 && c < 128));
        library(code);
        methodsAreShort(code);
    }

    /** Of the library's classes only these are named, and of them only these. */
    private static void library(String code) {
        Set<String> free = Set.of("Integer.bitCount", "Integer.numberOfTrailingZeros", "Math.min", "Math.max",
            "System.arraycopy");
        Matcher m = Pattern.compile("\\b(Integer|Long|Math|System|Arrays|String|Character|Byte|Short)\\.\\w+").matcher(code);
        while (m.find()) CHECK.holds(m.group() + " may be used", free.contains(m.group()));
    }

    private static void methodsAreShort(String code) {
        Pattern header = Pattern.compile("( {4}| {8})(?!for|if|while|switch|else|do)\\w.*\\) \\{");
        String end = "";
        int length = 0;
        int methods = 0;
        for (String line : code.split("\n")) {
            Matcher m = header.matcher(line);
            if (end.isEmpty() && m.matches()) {
                end = m.group(1) + "}";
                length = 0;
                methods++;
            }
            length++;
            if (line.equals(end)) {
                CHECK.holds("a method of " + length + " lines", length <= 60);
                end = "";
            }
            CHECK.holds("a line of at most 120 signs", line.length() <= 120);
        }
        CHECK.holds("methods were found: " + methods, methods > 100);
    }
}
