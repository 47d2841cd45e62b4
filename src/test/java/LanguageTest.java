import java.lang.management.ManagementFactory;
import java.lang.reflect.Constructor;
import java.lang.reflect.Field;
import java.lang.reflect.Method;
import java.lang.reflect.Modifier;
import java.nio.file.Files;
import java.nio.file.Path;
import java.util.ArrayList;
import java.util.List;
import java.util.Set;
import java.util.TreeSet;

/** The document's face, the rules of LANGUAGE.md that can be seen from outside, and the room that a run needs. */
public final class LanguageTest {
    private static final String FACE = "int place(int) int alley(int,int,int) int way(int,int) int by(int,int,int)"
        + " int lot(int,int,int,int,int) int sort(int,int,int,int) int look(int,int) int drive(int,int) int water(int)"
        + " int hold(int,int) int plan(int,int) int planned(int,int) int feed(int,int) int wipe() int rule(int,int)"
        + " int holds(int,int,int) int said(int,int) int see(int,int) int bid(int,int,int) int sell(int) int weigh(int)"
        + " int off(int,int) int test(int) long account(int) int write(int,int) int whose(int) int near(int)"
        + " int judge(int,int) int run(int) int count(int) int lay() int tear() int row(int) int copy(int,int,int)"
        + " int status(int)";
    private static final String CONSTANTS = "NONE=-1 MISSING=-2 BEYOND=-3 BELOW=-4 KIND=-5 COPY=-6 NO=-7 FULL=-8";
    private static final String[] WORDS_OUT = {"throw", "try", "catch", "synchronized", "assert", "import static", "->", "::",
        "hashCode", "toString", "Exact(", "System.out", "Random", "Thread", "package", "finally", "native", "protected"};
    private static final List<String> wrong = new ArrayList<>();

    public static void main(String[] args) throws Exception {
        checkFace();
        checkConstants();
        for (Class<?> inner : StockYard.class.getDeclaredClasses()) {
            checkInner(inner);
        }
        checkText(Files.readAllLines(Path.of(args[0])));
        checkRoomOfPlans();
        checkRoomOfRules();
        wrong.forEach(System.out::println);
        System.out.println(wrong.isEmpty() ? "the language is kept to" : wrong.size() + " things are not as told");
        if (!wrong.isEmpty()) {
            System.exit(1);
        }
    }

    private static String told(Method method) {
        StringBuilder text = new StringBuilder(method.getReturnType() + " " + method.getName() + "(");
        for (Class<?> type : method.getParameterTypes()) {
            text.append(text.charAt(text.length() - 1) == '(' ? "" : ",").append(type);
        }
        return text.append(")").toString();
    }

    private static void checkFace() {
        Set<String> due = new TreeSet<>(List.of(FACE.split("(?<=\\)) ")));
        Set<String> open = new TreeSet<>();
        Set<String> names = new TreeSet<>();
        for (Method method : StockYard.class.getDeclaredMethods()) {
            if (!Modifier.isPrivate(method.getModifiers())) {
                open.add(told(method));
                names.add(method.getName());
            }
        }
        if (!open.equals(due)) {
            wrong.add("the face is " + open);
        }
        for (Method method : StockYard.class.getDeclaredMethods()) {
            if (Modifier.isPrivate(method.getModifiers()) && names.contains(method.getName())) {
                wrong.add("a private method bears the name " + method.getName());
            }
        }
        Constructor<?>[] made = StockYard.class.getDeclaredConstructors();
        boolean plain = made.length == 1 && Modifier.isPublic(made[0].getModifiers()) && made[0].getParameterCount() == 0;
        if (!plain || !Modifier.isFinal(StockYard.class.getModifiers())) {
            wrong.add("the constructor or the class is not as told");
        }
    }

    private static void checkConstants() throws Exception {
        Set<String> open = new TreeSet<>();
        int own = 0;
        for (Field field : StockYard.class.getDeclaredFields()) {
            int is = field.getModifiers();
            if (Modifier.isStatic(is) && !Modifier.isFinal(is)) {
                wrong.add("static and not final: " + field);
            }
            if (!Modifier.isPrivate(is)) {
                open.add(field.getName() + "=" + field.getInt(null));
            }
            own += Modifier.isStatic(is) ? 0 : 1;
        }
        if (!open.equals(new TreeSet<>(List.of(CONSTANTS.split(" "))))) {
            wrong.add("the constants are " + open);
        }
        if (own > 20 || StockYard.class.getDeclaredClasses().length > 11) {
            wrong.add("too many fields or classes");
        }
    }

    private static void checkInner(Class<?> inner) {
        if (!Modifier.isStatic(inner.getModifiers()) || inner.getDeclaredFields().length > 20) {
            wrong.add(inner + " is not static, or has too many fields");
        }
        Set<String> names = new TreeSet<>();
        for (Method method : StockYard.class.getMethods()) {
            names.add(method.getName());
        }
        for (Method method : inner.getDeclaredMethods()) {
            if (names.contains(method.getName()) || method.getParameterCount() > 7) {
                wrong.add("name or parameters of " + method);
            }
        }
    }

    private static void checkText(List<String> lines) {
        int begin = 0;
        for (int i = 0; i < lines.size(); i++) {
            String line = lines.get(i);
            for (String word : WORDS_OUT) {
                if (line.matches(".*(^|\\W)" + java.util.regex.Pattern.quote(word) + "(\\W.*|$)")) {
                    wrong.add("line " + (i + 1) + " has " + word);
                }
            }
            if (line.matches(".*[^\\x00-\\x7f].*") || line.startsWith("import ") && !line.equals("import java.util.ArrayList;")) {
                wrong.add("line " + (i + 1) + ": " + line);
            }
            begin = line.matches(" {4}( {4})?[^ }/].*\\) \\{") ? i : begin;
            if (line.matches(" {4}( {4})?}") && i - begin > 60) {
                wrong.add("a method of over sixty lines ends at " + (i + 1));
            }
        }
    }

    private static long roomTaken() {
        return ((com.sun.management.ThreadMXBean) ManagementFactory.getThreadMXBean()).getCurrentThreadAllocatedBytes();
    }

    private static void checkRoomOfPlans() {
        long before = roomTaken();
        StockYard x = new StockYard();
        for (int i = 0; i < 14; i++) {
            x.place(i < 6 ? 0 : 1);
        }
        for (int i = 0; i < 20; i++) {
            x.alley(i % 6, 6 + i % 8, 1 + i);
        }
        for (int i = 0; i < 6; i++) {
            x.lot(i, 0, 10100, 0, 0);
        }
        x.rule(0, 1);
        for (int i = 0; i < 450; i++) {
            x.plan(15, 15 << 6);
        }
        checkTaken("plans", roomTaken() - before);
    }

    private static void checkRoomOfRules() {
        long before = roomTaken();
        StockYard x = new StockYard();
        for (int i = 0; i < 20; i++) {
            x.feed(0x66656520, 4);
        }
        for (int i = 0; i < 490; i++) {
            x.rule(0, 1);
        }
        checkTaken("rules", roomTaken() - before);
    }

    private static void checkTaken(String run, long bytes) {
        if (bytes > 200000) {
            wrong.add("a run of " + run + " took " + bytes + " bytes of room");
        }
    }
}
