import java.lang.reflect.Field;
import java.nio.file.Files;
import java.nio.file.Path;
import java.util.List;
import java.util.Map;
import java.util.TreeMap;
import java.util.regex.Matcher;
import java.util.regex.Pattern;

/** The example in README.md: each call answers the number behind it. */
public final class ReadmeTest {
    private static final String MADE = "StockYard yard = new StockYard();";
    private static final Pattern CALL = Pattern.compile("(?:int (\\w+) = )?yard\\.(\\w+)\\((.*)\\); +// (-?\\d+)(: .*)?");

    private final Map<String, Integer> named = new TreeMap<>();
    private final Script.Player player = new Script.Player();

    public static void main(String[] args) throws Exception {
        String text = Files.readString(Path.of("README.md"));
        int begin = text.indexOf("```java\n") + 8;
        new ReadmeTest().play(List.of(text.substring(begin, text.indexOf("```", begin)).split("\n")));
        Due.end();
    }

    private ReadmeTest() throws IllegalAccessException {
        for (Field field : StockYard.class.getFields()) {
            named.put("StockYard." + field.getName(), field.getInt(null));
        }
    }

    private void play(List<String> lines) {
        Due.is("README.md", "whether it begins with a new object", lines.indexOf(MADE), 0);
        for (String line : lines.subList(1, lines.size())) {
            Matcher call = CALL.matcher(line);
            if (!call.matches()) {
                throw new IllegalStateException("not a call with its answer: " + line);
            }
            int[] args = List.of(call.group(3).split(", ")).stream().mapToInt(this::number).toArray();
            long got = player.ask(call.group(2), args);
            Due.is("README.md", line, got, Long.parseLong(call.group(4)));
            if (call.group(1) != null) {
                named.put(call.group(1), (int) got);
            }
        }
    }

    private int number(String word) {
        if (word.startsWith("'")) {
            return word.charAt(1);
        }
        return named.containsKey(word) ? named.get(word) : Integer.decode(word);
    }
}
