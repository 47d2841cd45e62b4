import java.lang.reflect.InvocationTargetException;
import java.lang.reflect.Method;
import java.util.ArrayList;
import java.util.Arrays;
import java.util.List;
import java.util.Map;
import java.util.TreeMap;

/**
 * Runs of calls on a new object, told as text, a line a call: {@code lot 0 0 10100 0 0 = 0}. Behind the " = " stands
 * what is due: a number; {@code 0..13} (the call is made 14 times); the name of a constant; {@code 0 by BEYOND}
 * (refused, with the answer 0); {@code FAULT 4}. Without it the call must answer 0 or more. {@code tape 'fee 1'}
 * feeds a text, and # begins a comment.
 *
 * Each refused call of a run is also made alone, behind the calls that were taken: status() tells of it once and of
 * nothing else, and all that can be asked of the object then is as if the call had not been made (see Portrait).
 */
final class Script {
    private static final Map<String, Integer> NAMES = Map.of("NONE", -1, "MISSING", -2, "BEYOND", -3, "BELOW", -4,
        "KIND", -5, "COPY", -6, "NO", -7, "FULL", -8, "MIN", Integer.MIN_VALUE, "MAX", Integer.MAX_VALUE);
    private static final Map<String, Method> CALLS = new TreeMap<>();
    private static final int MOST_CALLS = 512;
    private static final int FAULT = -10;
    private static final int NOT_REFUSED = 0;
    private static final long FREE = Long.MIN_VALUE;

    static {
        for (Method method : StockYard.class.getDeclaredMethods()) {
            CALLS.put(method.getName(), method);
        }
    }

    /** refusedBy: NOT_REFUSED, FAULT, or the number that status() is asked for. */
    private record Step(String name, int[] args, long due, int refusedBy) {
        String text() {
            return name + Arrays.toString(args).replace('[', '(').replace(']', ')');
        }
    }

    /** One object and its calls, of which there are 512 at most: later answers are free. */
    static final class Player {
        private final StockYard yard = new StockYard();
        private int calls = 0;

        long ask(String name, int... args) {
            calls++;
            if (calls > MOST_CALLS) {
                throw new IllegalStateException("more than 512 calls");
            }
            try {
                return ((Number) CALLS.get(name).invoke(yard, Arrays.stream(args).boxed().toArray())).longValue();
            } catch (InvocationTargetException e) {
                throw new IllegalStateException(name + Arrays.toString(args) + " threw", e.getCause());
            } catch (IllegalAccessException e) {
                throw new IllegalStateException(e);
            }
        }

        long[] statuses() {
            long[] all = new long[7];
            for (int i = 0; i < all.length; i++) {
                all[i] = ask("status", -8 + i);
            }
            return all;
        }
    }

    private Script() {
    }

    /** Lines with the numbers from .. to in the places of $. */
    static String each(int from, int to, String lines) {
        StringBuilder all = new StringBuilder();
        for (int i = from; i <= to; i++) {
            all.append(lines.replace("$", String.valueOf(i))).append('\n');
        }
        return all.toString();
    }

    static void is(String sentence, String... parts) {
        List<Step> steps = new ArrayList<>();
        for (String line : String.join("\n", parts).split("\n")) {
            if (!line.isBlank() && !line.strip().startsWith("#")) {
                read(line.strip(), steps);
            }
        }
        playAll(sentence, steps);
        List<Step> taken = new ArrayList<>();
        for (Step step : steps) {
            if (step.refusedBy == NOT_REFUSED) {
                taken.add(step);
            } else {
                playRefused(sentence, taken, step);
            }
        }
    }

    private static void playAll(String sentence, List<Step> steps) {
        Player player = new Player();
        long[] refused = new long[7];
        for (Step step : steps) {
            long got = player.ask(step.name, step.args);
            if (step.due != FREE) {
                Due.is(sentence, step.text(), got, step.due);
            } else if (got < 0) {
                Due.is(sentence, step.text(), got, 0);
            }
            if (step.refusedBy > FAULT && step.refusedBy < NOT_REFUSED) {
                refused[step.refusedBy + 8]++;
            }
        }
        Due.alike(sentence, "status at the end", player.statuses(), refused);
    }

    private static Player played(List<Step> taken) {
        Player player = new Player();
        for (Step step : taken) {
            player.ask(step.name, step.args);
        }
        return player;
    }

    private static void playRefused(String sentence, List<Step> taken, Step step) {
        Player told = played(taken);
        long[] due = told.statuses();
        if (step.refusedBy != FAULT) {
            due[step.refusedBy + 8]++;
        }
        Due.is(sentence, step.text() + " alone", told.ask(step.name, step.args), step.due);
        Due.alike(sentence, "status behind " + step.text(), told.statuses(), due);
        for (Portrait.Part part : Portrait.PARTS) {
            Player with = played(taken);
            Player without = played(taken);
            with.ask(step.name, step.args);
            Due.alike(sentence, part.name() + " behind " + step.text(), part.asked().of(with), part.asked().of(without));
        }
    }

    private static void read(String line, List<Step> steps) {
        int at = line.lastIndexOf(" = ");
        String call = at < 0 ? line : line.substring(0, at).strip();
        String due = at < 0 ? "" : line.substring(at + 3).strip();
        if (call.startsWith("tape '")) {
            readTape(call.substring(6, call.lastIndexOf('\'')), steps);
            return;
        }
        String[] words = call.split(" +");
        int[] args = new int[words.length - 1];
        for (int i = 0; i < args.length; i++) {
            args[i] = number(words[i + 1]);
        }
        if (!CALLS.containsKey(words[0])) {
            throw new IllegalStateException("no call: " + line);
        }
        readDue(words[0], args, due, steps);
    }

    private static void readDue(String name, int[] args, String due, List<Step> steps) {
        if (due.isEmpty()) {
            steps.add(new Step(name, args, FREE, NOT_REFUSED));
        } else if (due.contains("..")) {
            String[] ends = due.split("\\.\\.");
            for (int i = number(ends[0]); i <= number(ends[1]); i++) {
                steps.add(new Step(name, args, i, NOT_REFUSED));
            }
        } else if (due.contains(" by ")) {
            String[] words = due.split(" by ");
            steps.add(new Step(name, args, number(words[0]), number(words[1])));
        } else if (due.startsWith("FAULT ")) {
            steps.add(new Step(name, args, -10 - number(due.substring(6)), FAULT));
        } else {
            boolean refusal = NAMES.containsKey(due) && !due.equals("NONE");
            steps.add(new Step(name, args, number(due), refusal ? number(due) : NOT_REFUSED));
        }
    }

    private static void readTape(String text, List<Step> steps) {
        for (int i = 0; i < text.length(); i += 4) {
            int n = Math.min(4, text.length() - i);
            int bytes = 0;
            for (int k = 0; k < n; k++) {
                bytes = bytes << 8 | text.charAt(i + k);
            }
            steps.add(new Step("feed", new int[] {bytes, n}, FREE, NOT_REFUSED));
        }
    }

    private static int number(String word) {
        return NAMES.containsKey(word) ? NAMES.get(word) : Integer.parseInt(word);
    }
}
