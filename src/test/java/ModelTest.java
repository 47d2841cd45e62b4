import java.lang.reflect.Method;
import java.util.ArrayList;
import java.util.List;
import java.util.Map;
import java.util.Random;
import java.util.TreeMap;

/** Random runs of 512 calls, each answer held against the model's. */
public final class ModelTest {
    private static final int RUNS = 8000;
    private static final int[] EDGES = {0, 1, -1, 2, 3, 4, 5, 6, 9, 10, 13, 14, 20, 23, 24, 30, 31, 40, 59, 60, 99, 100, -99,
        -100, 1000, 1001, 5000, 5001, 9999, 10000, 10100, 2002000, 100000, 100001, -2, -3, -7, -8, -9, 1 << 30,
        Integer.MAX_VALUE, Integer.MIN_VALUE, Integer.MAX_VALUE - 1, Integer.MIN_VALUE + 1};
    private static final String[] CALLS = {"place", "alley", "way", "by", "lot", "sort", "look", "drive", "water", "hold",
        "plan", "planned", "feed", "wipe", "rule", "holds", "said", "see", "bid", "sell", "weigh", "off", "test", "account",
        "write", "whose", "near", "judge", "run", "count", "lay", "tear", "row", "copy", "status"};
    private static final Map<String, Method> yardCalls = new TreeMap<>();
    private static final Map<String, Method> modelCalls = new TreeMap<>();
    // How often each call answered each refusal, or (under 1) something else.
    private static final Map<String, Map<Integer, Integer>> answers = new TreeMap<>();

    private final Random random;
    private final StockYard yard = new StockYard();
    private final Model model = new Model();
    private final List<String> log = new ArrayList<>();
    private final boolean wild;
    private final boolean planning;
    private int calls = 0;

    private ModelTest(long seed) {
        random = new Random(seed);
        wild = seed % 10 == 0;
        planning = seed % 3 == 1;
    }

    public static void main(String[] args) throws Exception {
        for (String name : CALLS) {
            yardCalls.put(name, named(StockYard.class, name));
            modelCalls.put(name, named(Model.class, name));
        }
        for (int seed = 0; seed < RUNS; seed++) {
            new ModelTest(seed).run();
        }
        if (args.length > 1) {
            answers.forEach((name, seen) -> System.out.println(name + " " + seen));
        }
        checkReached();
        System.out.println(RUNS + " runs are as the model's");
    }

    private static Method named(Class<?> type, String name) {
        for (Method method : type.getDeclaredMethods()) {
            if (method.getName().equals(name)) {
                method.setAccessible(true);
                return method;
            }
        }
        throw new IllegalStateException("no " + name);
    }

    private int call(String name, int... args) throws Exception {
        Object[] boxed = new Object[args.length];
        StringBuilder text = new StringBuilder(name);
        for (int i = 0; i < args.length; i++) {
            boxed[i] = args[i];
            text.append(' ').append(args[i]);
        }
        long before = refusals();
        long got = ((Number) yardCalls.get(name).invoke(yard, boxed)).longValue();
        long want = ((Number) modelCalls.get(name).invoke(model, boxed)).longValue();
        calls++;
        log.add(text + " -> " + got);
        boolean refused = refusals() != before && got < 0;
        answers.computeIfAbsent(name, k -> new TreeMap<>()).merge(refused || name.equals("rule") && got < 0 ? (int) Math.max(got, -10) : 1, 1, Integer::sum);
        if (got != want) {
            log.forEach(System.out::println);
            System.out.println("the model answers " + want);
            System.exit(1);
        }
        return (int) got;
    }

    private long refusals() {
        long sum = 0;
        for (int n : model.refused) {
            sum += n;
        }
        return sum;
    }

    private void run() throws Exception {
        build();
        if (random.nextInt(12) == 0) {
            herd();
        }
        while (calls < (planning ? 250 : 500)) {
            step();
        }
        for (int by = -8; by <= -2; by++) {
            call("status", by);
        }
    }

    private boolean chance(int percent) {
        return random.nextInt(100) < percent;
    }

    private int upTo(int n) {
        return random.nextInt(n + 1);
    }

    private int edge() {
        return EDGES[random.nextInt(EDGES.length)];
    }

    /** Mostly the number that is given, now and then one that may be beyond. */
    private int or(int sound) {
        return chance(wild ? 30 : 3) ? edge() : sound;
    }

    private int aPlace() {
        return or(upTo(Math.max(0, model.places.size() - 1)));
    }

    private int aPlace(int kind) {
        List<Integer> all = new ArrayList<>();
        for (int i = 0; i < model.places.size(); i++) {
            if (model.places.get(i) == kind) {
                all.add(i);
            }
        }
        return all.isEmpty() || chance(8) ? aPlace() : or(all.get(random.nextInt(all.size())));
    }

    private int aFree(int kind) {
        for (int tries = 0; tries < 20; tries++) {
            int place = upTo(Math.max(0, model.places.size() - 1));
            boolean free = model.lots.stream().noneMatch(l -> l.place == place || l.to == place);
            if (place < model.places.size() && model.places.get(place) == kind && free) {
                return place;
            }
        }
        return aPlace(kind);
    }

    private int aMixedLot() {
        for (int tries = 0; tries < 20; tries++) {
            int lot = aLotIn(1);
            if (lot >= 0 && lot < model.lots.size() && model.lots.get(lot).kind == 3) {
                return lot;
            }
        }
        return aLot();
    }

    private int aLot() {
        return or(upTo(Math.max(0, model.lots.size() - 1)));
    }

    private int aLotIn(int kind) {
        List<Integer> all = new ArrayList<>();
        for (int i = 0; i < model.lots.size(); i++) {
            int at = model.lots.get(i).place;
            if (at >= 0 && model.places.get(at) == kind) {
                all.add(i);
            }
        }
        return all.isEmpty() || chance(15) ? aLot() : or(all.get(random.nextInt(all.size())));
    }

    private int aMark() {
        return or(chance(80) ? 1000 * upTo(1) + 100 * upTo(1) + upTo(1) : upTo(9999));
    }

    private void build() throws Exception {
        int places = 2 + upTo(12);
        for (int i = 0; i < places; i++) {
            call("place", or(i == 0 ? 0 : chance(planning ? 85 : 50) ? upTo(1) : upTo(3)));
        }
        int longest = chance(50) ? 3 : 30;
        // Mostly every place has an alley to an earlier one, and some more make ways of like minutes.
        for (int i = 1; i < places; i++) {
            call("alley", chance(99) ? i : aPlace(), upTo(chance(50) ? i - 1 : Math.min(2, i - 1)), or(1 + upTo(longest - 1)));
        }
        int alleys = upTo(8);
        for (int i = 0; i < alleys; i++) {
            call("alley", aPlace(), aPlace(), or(1 + upTo(longest - 1)));
        }
    }

    // Many lots at hooks, so that there is no room for more.
    private void herd() throws Exception {
        int hook = call("place", 3);
        call("alley", 0, hook, 1);
        for (int i = 0; i < 25; i++) {
            int lot = call("lot", 0, i < 2 ? 30 : upTo(5), 20500, aMark(), 0);
            call("drive", lot, i < 2 ? aFree(1) : hook);
        }
        for (int i = 0; i < 8; i++) {
            call("run", 40);
            call("sort", aMixedLot(), 1, 10 * aFree(1), aMark());
        }
    }

    private void planAndDrive() throws Exception {
        for (int i = 0; i < 3; i++) {
            newLot();
        }
        for (int i = 0; i < 4; i++) {
            call("drive", aLotIn(1), aFree(chance(70) ? 0 : 2));
        }
        int soonest = plan();
        int last = 0;
        for (int i = 0; soonest > 0 && i < 4 && call("planned", i, 0) >= 0; i++) {
            last = Math.max(last, call("drive", call("planned", i, 0), call("planned", i, 1)));
        }
        if (soonest > 0 && last != soonest) {
            throw new IllegalStateException("planned for " + soonest + ", there in " + last);
        }
        call("run", 1 + upTo(chance(70) ? 6 : 90));
        drive();
    }

    private void step() throws Exception {
        int kind = random.nextInt(100);
        if (planning && chance(30)) {
            planAndDrive();
            return;
        }
        if (kind < 14) {
            newLot();
        } else if (kind < 34) {
            drive();
        } else if (kind < 44) {
            call("run", or(chance(80) ? 1 + upTo(20) : 1 + upTo(999)));
        } else if (kind < 62) {
            buy();
        } else if (kind < 69) {
            rule();
        } else if (kind < 73) {
            plan();
        } else if (kind < 90) {
            ask();
        } else {
            other();
        }
    }

    private void newLot() throws Exception {
        if (model.lots.size() > 18 && !chance(10)) {
            return;
        }
        int kind = chance(50) ? 0 : chance(30) ? 3 : upTo(3);
        int heads = 10000 * or(1 + upTo(chance(70) ? 9 : 199)) + (chance(5) ? edge() : 100 + upTo(1900));
        call("lot", chance(70) ? aFree(0) : aPlace(0), or(10 * kind + upTo(5)), heads, aMark(), or(upTo(5000)));
    }

    private void drive() throws Exception {
        int lot = chance(20) ? aLot() : aLotIn(chance(40) ? 0 : upTo(2));
        int kind = chance(60) ? 1 : chance(75) ? 2 : upTo(3);
        call("drive", lot, chance(20) ? aPlace(kind) : aFree(kind));
    }

    private void buy() throws Exception {
        int buyer = or(upTo(4));
        switch (random.nextInt(9)) {
            case 0: call("sell", aLot()); break;
            case 1: call("sell", aLotIn(2)); break;
            case 2: call("weigh", aLotIn(2)); call("weigh", aLotIn(2)); break;
            case 3: call("off", aPlace(2), or(upTo(198) - 99)); break;
            case 4: call("test", aPlace(2)); break;
            default:
                int lot = aLotIn(1);
                call("see", buyer, lot);
                call("bid", chance(90) ? buyer : upTo(4), lot, or(chance(50) ? 1 + upTo(3) : 1 + upTo(9998)));
        }
    }

    private String aTest() {
        String field = new String[] {"kind", "owner", "heads", "thirst", "buyer"}[upTo(4)];
        int number = field.equals("thirst") ? upTo(9999) : field.equals("heads") ? upTo(20) : upTo(5);
        return (chance(30) ? "!" : "") + field + "=<>".charAt(upTo(2)) + number;
    }

    private String aRule() {
        String key = new String[] {"dock", "fee", "bar", "water"}[upTo(3)];
        StringBuilder text = new StringBuilder(key).append(' ').append(key.equals("bar") ? upTo(5) : upTo(chance(50) ? 50 : 9999));
        int tests = upTo(3) + (chance(5) ? 1 : 0);
        for (int i = 0; i < tests; i++) {
            text.append(i == 0 ? " if " : " or ").append(aTest());
        }
        if (chance(40)) {
            spoil(text);
        }
        return text.toString();
    }

    private void spoil(StringBuilder text) {
        int at = random.nextInt(text.length());
        switch (upTo(4)) {
            case 0: text.setLength(at); break;
            case 1: text.deleteCharAt(at); break;
            case 2: text.insert(at, " !=<>09idfork".charAt(random.nextInt(13))); break;
            case 3: text.setCharAt(at, (char) upTo(255)); break;
            default: text.append(" if or 0123".charAt(random.nextInt(11)));
        }
    }

    private void rule() throws Exception {
        if (chance(90)) {
            call("wipe");
        }
        String text = aRule();
        for (int i = 0; i < text.length();) {
            int n = Math.min(text.length() - i, 1 + upTo(3));
            int bytes = random.nextInt();
            for (int k = 0; k < n; k++) {
                bytes = bytes << 8 | text.charAt(i + k);
            }
            call("feed", bytes, n);
            i += n;
        }
        if (chance(5)) {
            call("feed", random.nextInt(), or(upTo(4)));
        }
        int from = chance(70) ? 0 : upTo(2 * model.minute + 2);
        call("rule", or(from), or(chance(70) ? 100000 : from + upTo(500)));
    }

    private int some(List<Integer> all, int most) {
        int set = 0;
        for (int i = 0; i < most && !all.isEmpty(); i++) {
            set |= 1 << all.remove(random.nextInt(all.size()));
        }
        return set;
    }

    private int plan() throws Exception {
        List<Integer> lots = new ArrayList<>();
        List<Integer> pens = new ArrayList<>();
        for (int i = 0; i < model.lots.size(); i++) {
            int at = model.lots.get(i).place;
            if (at >= 0 && model.places.get(at) != 3 || chance(2)) {
                lots.add(i);
            }
        }
        for (int i = 0; i < model.places.size(); i++) {
            int place = i;
            boolean free = model.lots.stream().noneMatch(l -> l.place == place || l.to == place);
            if (model.places.get(i) == 1 && free || chance(2)) {
                pens.add(i);
            }
        }
        int size = Math.min(chance(10) ? 5 : 1 + upTo(3), Math.min(lots.size(), pens.size()));
        int soonest = call("plan", or(some(lots, size)), or(some(pens, size)));
        for (int i = 0; i < 4; i++) {
            call("planned", i, 0);
            call("planned", i, 1);
        }
        call("planned", or(upTo(4)), or(upTo(2)));
        return soonest;
    }

    private void ask() throws Exception {
        switch (random.nextInt(10)) {
            case 0: call("way", aPlace(), aPlace()); break;
            case 1: call("by", aPlace(), aPlace(), or(upTo(3))); break;
            case 2: call("holds", or(upTo(9)), aLot(), or(upTo(5) - 1)); break;
            case 3: call("said", aLot(), or(upTo(3))); break;
            case 4: call("account", or(upTo(5))); break;
            case 5: call("count", or(upTo(11))); break;
            case 6: call("status", or(-upTo(9))); break;
            case 7: call("near", aMark()); break;
            case 8: call("whose", aMark()); break;
            default:
                int lot = aLot();
                for (int what = 0; what <= 13; what++) {
                    call("look", lot, what);
                }
        }
    }

    private void other() throws Exception {
        switch (random.nextInt(12)) {
            case 0: call("place", or(upTo(3))); break;
            case 1: call("alley", aPlace(), aPlace(), or(1 + upTo(29))); break;
            case 2: call("sort", aLotIn(1), or(1 + upTo(9)), or(10 * aPlace(1) + upTo(5)), aMark()); break;
            case 3: call("sort", aMixedLot(), or(1 + upTo(5)), or(10 * aFree(1) + upTo(5)), aMark()); break;
            case 4: call("water", aLotIn(1)); break;
            case 5: call("hold", aLot(), or(upTo(1))); break;
            case 6: call("write", aMark(), or(upTo(5))); break;
            case 7: call("judge", aLot(), or(upTo(5))); break;
            case 8: call("lay"); break;
            case 9: call("tear"); break;
            case 10: call("row", or(upTo(13))); break;
            default: call("copy", or(upTo(6)), or(upTo(6)), or(upTo(6)));
        }
    }

    // A run that never meets a refusal shows nothing of it.
    private static void checkReached() {
        String due = "place 1 -7 -8, alley 1 -3 -7 -8, way 1 -3, by 1 -3, lot 1 -3 -5 -7 -8, sort 1 -3 -5 -7 -8, look 1 -3 -7,"
            + " drive 1 -3 -7 -2, water 1 -3 -7, hold 1 -3 -5 -7, plan 1 -3 -5 -7 -2, planned 1 -2 -3 -7, feed 1 -4 -7 -8,"
            + " wipe 1, rule 1 -7 -8 -10, holds 1 -3, said 1 -3 -7, see 1 -3 -7, bid 1 -3 -5 -7, sell 1 -3 -5 -7 -2,"
            + " weigh 1 -3 -7, test 1 -3 -5, write 1 -3 -7, whose 1 -7, near 1 -7, judge 1 -3, run 1 -4 -7, count 1 -7,"
            + " lay 1, tear 1, row 1 -2 -3, copy 1 -2 -4 -6, status 1 -7";
        for (String part : due.split(", *")) {
            String[] words = part.trim().split(" ");
            for (int i = 1; i < words.length; i++) {
                if (!answers.get(words[0]).containsKey(Integer.parseInt(words[i]))) {
                    System.out.println("no run came to " + words[0] + " answering " + words[i]);
                    System.exit(1);
                }
            }
        }
    }
}
