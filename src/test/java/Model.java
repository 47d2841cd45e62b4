import java.util.ArrayList;
import java.util.Arrays;
import java.util.HashSet;
import java.util.List;
import java.util.Set;
import java.util.TreeMap;
import java.util.regex.Matcher;
import java.util.regex.Pattern;

/** A second, slow reading of the document: every way is walked, every minute of an alley is an entry of a set. */
final class Model {
    private static final int MISSING = -2, BEYOND = -3, BELOW = -4, KIND = -5, COPY = -6, NO = -7, FULL = -8;
    private static final String TEST = "(!?)(kind|owner|heads|thirst|buyer)([=<>])([0-9]{1,4})";
    private static final Pattern RULE =
        Pattern.compile("(dock|fee|bar|water) ([0-9]{1,4})(?: if " + TEST + "(?: or " + TEST + "(?: or " + TEST + ")?)?)?",
            Pattern.DOTALL);

    static final class Beasts {
        int kind, owner, heads, pounds, mark, watered, place, to = -1, due = -1;
        int soldTo = -1, price, fee, weight, byScale = -1;
        Integer money = null;
        boolean judged;
        Set<Integer> seen = new HashSet<>();
        List<int[]> bids = new ArrayList<>();
    }

    static final class Read {
        int from, to, number;
        String key;
        List<String[]> tests = new ArrayList<>();
    }

    int minute = 0;
    final List<Integer> places = new ArrayList<>();
    final List<int[]> alleys = new ArrayList<>();
    final List<Beasts> lots = new ArrayList<>();
    final List<Read> rules = new ArrayList<>();
    final TreeMap<Integer, Integer> marks = new TreeMap<>();
    final TreeMap<Integer, Integer> offs = new TreeMap<>();
    final Set<List<Integer>> taken = new HashSet<>();
    final int[] refused = new int[9];
    String tape = "";
    int[] row = null;
    List<Integer> latest = null;

    private int no(int by) {
        refused[-by]++;
        return by;
    }

    private boolean isPlace(int p) {
        return p >= 0 && p < places.size();
    }

    private boolean isLot(int l) {
        return l >= 0 && l < lots.size();
    }

    private boolean stands(Beasts l, int kind) {
        return l.place >= 0 && places.get(l.place) == kind;
    }

    private boolean occupied(int p) {
        return places.get(p) != 3 && lots.stream().anyMatch(l -> l.place == p || l.to == p);
    }

    int place(int kind) {
        if (kind < 0 || kind > 3) return no(NO);
        if (places.size() == 14) return no(FULL);
        places.add(kind);
        return places.size() - 1;
    }

    int alley(int a, int b, int minutes) {
        if (!isPlace(a) || !isPlace(b)) return no(BEYOND);
        if (a == b || minutes < 1 || minutes > 30) return no(NO);
        if (alleys.size() == 20) return no(FULL);
        alleys.add(new int[] {a, b, minutes});
        return alleys.size() - 1;
    }

    private int length(List<Integer> way) {
        return way.stream().mapToInt(e -> alleys.get(e)[2]).sum();
    }

    // All simple ways, in the order of their alleys' numbers: the first of the shortest stays.
    private List<Integer> walk(int at, int goal, Set<Integer> been, List<Integer> so, List<Integer> best) {
        if (best != null && length(so) >= length(best)) return best;
        if (at == goal) return new ArrayList<>(so);
        for (int e = 0; e < alleys.size(); e++) {
            int[] alley = alleys.get(e);
            if (alley[0] != at && alley[1] != at) continue;
            int other = alley[0] + alley[1] - at;
            if (!been.add(other)) continue;
            so.add(e);
            best = walk(other, goal, been, so, best);
            so.remove(so.size() - 1);
            been.remove(other);
        }
        return best;
    }

    private List<Integer> wayOf(int a, int b) {
        return walk(a, b, new HashSet<>(Set.of(a)), new ArrayList<>(), null);
    }

    int way(int a, int b) {
        if (!isPlace(a) || !isPlace(b)) return no(BEYOND);
        List<Integer> way = wayOf(a, b);
        return way == null ? -1 : length(way);
    }

    int by(int a, int b, int i) {
        if (!isPlace(a) || !isPlace(b)) return no(BEYOND);
        List<Integer> way = wayOf(a, b);
        return way == null || i < 0 || i >= way.size() ? no(BEYOND) : way.get(i);
    }

    int lot(int chute, int told, int heads, int mark, int dry) {
        if (!isPlace(chute) || told < 0 || told % 10 > 5) return no(BEYOND);
        if (places.get(chute) != 0) return no(KIND);
        int h = Math.floorDiv(heads, 10000), p = Math.floorMod(heads, 10000);
        if (told / 10 > 3 || h < 1 || h > 200 || p < 100 || p > 2000 || mark < 0 || mark > 9999) return no(NO);
        if (dry < 0 || dry > 5000 || occupied(chute)) return no(NO);
        if (lots.size() == 24) return no(FULL);
        return come(told / 10, told % 10, h, p, mark, minute - dry, chute);
    }

    private int come(int kind, int owner, int heads, int pounds, int mark, int watered, int place) {
        Beasts l = new Beasts();
        l.kind = kind;
        l.owner = owner;
        l.heads = heads;
        l.pounds = pounds;
        l.mark = mark;
        l.watered = watered;
        l.place = place;
        lots.add(l);
        return lots.size() - 1;
    }

    int sort(int lot, int heads, int told, int mark) {
        if (!isLot(lot) || told < 0 || !isPlace(told / 10) || told % 10 > 5) return no(BEYOND);
        Beasts l = lots.get(lot);
        if (l.kind != 3 || places.get(told / 10) != 1) return no(KIND);
        if (!stands(l, 1) || heads < 1 || heads >= l.heads || mark < 0 || mark > 9999 || occupied(told / 10)) return no(NO);
        if (lots.size() == 24) return no(FULL);
        l.heads -= heads;
        return come(0, told % 10, heads, l.pounds, mark, l.watered, told / 10);
    }

    int look(int lot, int what) {
        if (!isLot(lot)) return no(BEYOND);
        if (what < 0 || what > 12) return no(NO);
        Beasts l = lots.get(lot);
        int money = l.money == null ? -1 : l.money;
        int[] all = {l.kind, l.owner, l.heads, l.pounds, l.mark, l.place, l.to, l.due, minute - l.watered,
            dry(l) ? 1 : 0, doubt(l) ? 1 : 0, l.soldTo, money};
        return all[what];
    }

    private Set<List<Integer>> stretch(List<Integer> way, int begin) {
        Set<List<Integer>> all = new HashSet<>();
        int at = begin;
        for (int e : way) {
            for (int m = 0; m < alleys.get(e)[2]; m++) all.add(List.of(e, at++));
        }
        return all;
    }

    private int begin(List<Integer> way) {
        int begin = minute;
        while (stretch(way, begin).stream().anyMatch(taken::contains)) begin++;
        return begin;
    }

    int drive(int lot, int place) {
        if (!isLot(lot) || !isPlace(place)) return no(BEYOND);
        Beasts l = lots.get(lot);
        if (l.place < 0 || l.place == place || occupied(place) || stands(l, 3)) return no(NO);
        List<Integer> way = wayOf(l.place, place);
        if (way == null) return no(MISSING);
        int begin = begin(way);
        taken.addAll(stretch(way, begin));
        l.place = -1;
        l.to = place;
        l.due = begin + length(way);
        return l.due;
    }

    int water(int lot) {
        if (!isLot(lot)) return no(BEYOND);
        Beasts l = lots.get(lot);
        if (!stands(l, 1)) return no(NO);
        int before = minute - l.watered;
        l.watered = minute;
        return before;
    }

    int hold(int lot, int kind) {
        if (!isLot(lot)) return no(BEYOND);
        Beasts l = lots.get(lot);
        if (l.kind > 1) return no(KIND);
        if (kind < 0 || kind > 1 || l.soldTo >= 0) return no(NO);
        int before = l.kind;
        l.kind = kind;
        return before;
    }

    private static List<Integer> bits(int set) {
        List<Integer> all = new ArrayList<>();
        for (int i = 0; i < 32; i++) if ((set >>> i & 1) == 1) all.add(i);
        return all;
    }

    int plan(int lotSet, int penSet) {
        List<Integer> ls = bits(lotSet), ps = bits(penSet);
        if (ls.stream().anyMatch(l -> !isLot(l)) || ps.stream().anyMatch(p -> !isPlace(p))) return no(BEYOND);
        if (ps.stream().anyMatch(p -> places.get(p) != 1)) return no(KIND);
        if (ls.isEmpty() || ls.size() > 4 || ls.size() != ps.size()) return no(NO);
        if (ls.stream().anyMatch(l -> lots.get(l).place < 0 || stands(lots.get(l), 3))) return no(NO);
        if (ps.stream().anyMatch(this::occupied)) return no(NO);
        List<List<Integer>> found = new ArrayList<>();
        tryAll(ls, ps, new ArrayList<>(), minute, found);
        if (found.isEmpty()) return no(MISSING);
        List<Integer> best = found.get(0);
        for (List<Integer> one : found) if (firstOf(one, best)) best = one;
        latest = best.subList(1, best.size());
        return best.get(0);
    }

    private static boolean firstOf(List<Integer> one, List<Integer> other) {
        return Arrays.compare(one.stream().mapToInt(i -> i).toArray(), other.stream().mapToInt(i -> i).toArray()) < 0;
    }

    private void tryAll(List<Integer> ls, List<Integer> ps, List<Integer> told, int last, List<List<Integer>> found) {
        if (ls.isEmpty()) {
            List<Integer> one = new ArrayList<>(List.of(last));
            one.addAll(told);
            found.add(one);
        }
        for (int l : ls) {
            for (int p : ps) {
                List<Integer> way = wayOf(lots.get(l).place, p);
                if (way == null) continue;
                int begin = begin(way);
                Set<List<Integer>> stretch = stretch(way, begin);
                taken.addAll(stretch);
                List<Integer> lsLeft = new ArrayList<>(ls), psLeft = new ArrayList<>(ps), next = new ArrayList<>(told);
                lsLeft.remove((Integer) l);
                psLeft.remove((Integer) p);
                next.addAll(List.of(l, p));
                tryAll(lsLeft, psLeft, next, Math.max(last, begin + length(way)), found);
                taken.removeAll(stretch);
            }
        }
    }

    int planned(int i, int what) {
        if (latest == null) return no(MISSING);
        if (i < 0 || i >= latest.size() / 2) return no(BEYOND);
        if (what < 0 || what > 1) return no(NO);
        return latest.get(2 * i + what);
    }

    int feed(int bytes, int n) {
        if (n < 0) return no(BELOW);
        if (n > 4) return no(NO);
        if (tape.length() + n > 80) return no(FULL);
        byte[] all = java.nio.ByteBuffer.allocate(4).putInt(bytes).array();
        for (int i = 4 - n; i < 4; i++) tape += (char) (all[i] & 255);
        return tape.length();
    }

    int wipe() {
        int n = tape.length();
        tape = "";
        return n;
    }

    int rule(int from, int to) {
        if (from < 0 || to > 100000 || from >= to) return no(NO);
        if (rules.size() == 10) return no(FULL);
        Matcher m = RULE.matcher(tape);
        if (!m.matches()) {
            for (int end = 1; end <= tape.length(); end++) {
                Matcher begun = RULE.matcher(tape.substring(0, end));
                if (!begun.matches() && !begun.hitEnd()) return -10 - (end - 1);
            }
            return -10 - tape.length();
        }
        Read r = new Read();
        r.from = from;
        r.to = to;
        r.key = m.group(1);
        r.number = Integer.parseInt(m.group(2));
        for (int g = 3; g < 15 && m.group(g) != null; g += 4) {
            r.tests.add(new String[] {m.group(g), m.group(g + 1), m.group(g + 2), m.group(g + 3)});
        }
        rules.add(r);
        tape = "";
        return rules.size() - 1;
    }

    private boolean so(String[] test, Beasts l, int buyer) {
        if (test[1].equals("buyer") && buyer < 0) return false;
        int v = switch (test[1]) {
            case "kind" -> l.kind;
            case "owner" -> l.owner;
            case "heads" -> l.heads;
            case "thirst" -> minute - l.watered;
            default -> buyer;
        };
        int sign = Integer.signum(v - Integer.parseInt(test[3]));
        return (sign == "<=>".indexOf(test[2]) - 1) == test[0].isEmpty();
    }

    private boolean applies(Read r, Beasts l, int buyer) {
        return r.from <= minute && minute < r.to
            && (r.tests.isEmpty() || r.tests.stream().anyMatch(t -> so(t, l, buyer)));
    }

    int holds(int rule, int lot, int buyer) {
        if (rule < 0 || rule >= rules.size() || !isLot(lot) || buyer < -1 || buyer > 4) return no(BEYOND);
        return applies(rules.get(rule), lots.get(lot), buyer) ? 1 : 0;
    }

    private int says(String key, Beasts l, int buyer) {
        int said = key.equals("water") ? 1440 : 0;
        for (Read r : rules) if (r.key.equals(key) && applies(r, l, buyer)) said = r.number;
        return said;
    }

    private boolean dry(Beasts l) {
        return minute - l.watered > says("water", l, -1);
    }

    int said(int lot, int key) {
        if (!isLot(lot)) return no(BEYOND);
        if (key < 0 || key > 2) return no(NO);
        return says(List.of("dock", "fee", "water").get(key), lots.get(lot), -1);
    }

    int see(int buyer, int lot) {
        if (buyer < 0 || buyer > 4 || !isLot(lot)) return no(BEYOND);
        if (!stands(lots.get(lot), 1)) return no(NO);
        return lots.get(lot).seen.add(buyer) ? 1 : 0;
    }

    int bid(int buyer, int lot, int price) {
        if (buyer < 0 || buyer > 4 || !isLot(lot)) return no(BEYOND);
        Beasts l = lots.get(lot);
        if (l.kind != 0) return no(KIND);
        if (price < 1 || price > 9999 || !l.seen.contains(buyer) || !stands(l, 1) || l.soldTo >= 0) return no(NO);
        if (rules.stream().anyMatch(r -> r.key.equals("bar") && r.number == buyer && applies(r, l, buyer))) return no(NO);
        l.bids.removeIf(b -> b[0] == buyer);
        l.bids.add(new int[] {buyer, price});
        return l.bids.size();
    }

    int sell(int lot) {
        if (!isLot(lot)) return no(BEYOND);
        Beasts l = lots.get(lot);
        if (l.kind != 0) return no(KIND);
        if (l.soldTo >= 0) return no(NO);
        if (l.bids.isEmpty()) return no(MISSING);
        for (int[] b : l.bids) {
            if (b[1] > l.price) {
                l.price = b[1];
                l.soldTo = b[0];
            }
        }
        return l.soldTo;
    }

    private static int fetch(Beasts l, int weight) {
        return Math.toIntExact((long) l.price * weight / 100) - l.heads * l.fee;
    }

    int weigh(int lot) {
        if (!isLot(lot)) return no(BEYOND);
        Beasts l = lots.get(lot);
        if (!stands(l, 2)) return no(NO);
        int each = Math.max(1, l.pounds - (minute - l.watered) / 60 - says("dock", l, -1));
        int weight = Math.max(1, l.heads * each + offs.getOrDefault(l.place, 0));
        if (l.soldTo >= 0 && l.money == null) {
            l.fee = says("fee", l, l.soldTo);
            l.weight = weight;
            l.byScale = l.place;
            l.money = fetch(l, weight);
        }
        return weight;
    }

    int off(int scale, int v) {
        int by = !isPlace(scale) ? BEYOND : places.get(scale) != 2 ? KIND : v < -99 || v > 99 ? NO : 0;
        if (by != 0) {
            no(by);
            return 0;
        }
        Integer before = offs.put(scale, v);
        return before == null ? 0 : before;
    }

    int test(int scale) {
        if (!isPlace(scale)) return no(BEYOND);
        if (places.get(scale) != 2) return no(KIND);
        int off = offs.getOrDefault(scale, 0), n = 0;
        for (Beasts l : lots) {
            if (l.byScale != scale) continue;
            l.byScale = -1;
            if (off == 0) continue;
            l.money = fetch(l, Math.max(1, l.weight - off));
            n++;
        }
        offs.remove(scale);
        return n;
    }

    private static boolean isNear(int a, int b) {
        String one = String.format("%04d", a), other = String.format("%04d", b);
        return java.util.stream.IntStream.range(0, 4).filter(i -> one.charAt(i) != other.charAt(i)).count() == 1;
    }

    private boolean doubt(Beasts l) {
        if (l.judged) return false;
        boolean own = marks.getOrDefault(l.mark, -1) == l.owner;
        return !own || marks.entrySet().stream()
            .anyMatch(e -> e.getValue() != l.owner && (e.getKey() == l.mark || isNear(e.getKey(), l.mark)));
    }

    long account(int owner) {
        if (owner < 0 || owner > 5) {
            no(BEYOND);
            return 0;
        }
        return lots.stream().filter(l -> l.owner == owner && l.money != null && !doubt(l)).mapToLong(l -> l.money).sum();
    }

    int write(int mark, int owner) {
        if (owner < 0 || owner > 5) return no(BEYOND);
        if (mark < 0 || mark > 9999 || marks.containsKey(mark)) return no(NO);
        if (marks.size() == 20) return no(FULL);
        marks.put(mark, owner);
        return marks.size();
    }

    int whose(int mark) {
        return mark < 0 || mark > 9999 ? no(NO) : marks.getOrDefault(mark, -1);
    }

    int near(int mark) {
        return mark < 0 || mark > 9999 ? no(NO) : (int) marks.keySet().stream().filter(m -> isNear(m, mark)).count();
    }

    int judge(int lot, int owner) {
        if (!isLot(lot) || owner < 0 || owner > 5) return no(BEYOND);
        Beasts l = lots.get(lot);
        int was = doubt(l) ? 1 : 0;
        l.owner = owner;
        l.judged = true;
        return was;
    }

    int run(int n) {
        if (n < 0) return no(BELOW);
        if (n == 0 || n > 1000) return no(NO);
        int came = 0;
        for (int i = 0; i < n; i++) {
            minute++;
            for (Beasts l : lots) {
                if (l.to >= 0 && l.due == minute) {
                    l.place = l.to;
                    l.to = -1;
                    l.due = -1;
                    came++;
                }
            }
        }
        return came;
    }

    int count(int what) {
        if (what < 0 || what > 10) return no(NO);
        int hooked = lots.stream().filter(l -> stands(l, 3)).mapToInt(l -> l.heads).sum();
        long[] all = {minute, places.size(), alleys.size(), lots.size(), rules.size(),
            lots.stream().filter(l -> l.to >= 0).count(), lots.stream().filter(this::dry).count(),
            lots.stream().filter(l -> l.soldTo >= 0).count(), hooked, tape.length(), marks.size()};
        return (int) all[what];
    }

    int lay() {
        row = new int[places.size()];
        for (Beasts l : lots) if (l.place >= 0) row[l.place] += l.heads;
        return row.length;
    }

    int tear() {
        int was = row == null ? 0 : 1;
        row = null;
        return was;
    }

    int row(int i) {
        if (row == null) return no(MISSING);
        return i < 0 || i >= row.length ? no(BEYOND) : row[i];
    }

    int copy(int i, int j, int n) {
        if (row == null) return no(MISSING);
        if (n < 0) return no(BELOW);
        if (i < 0 || j < 0 || (long) i + n > row.length || (long) j + n > row.length) return no(COPY);
        int[] was = row.clone();
        for (int k = 0; k < n; k++) row[j + k] = was[i + k];
        return n;
    }

    int status(int by) {
        return by < -8 || by > -2 ? no(NO) : refused[-by];
    }
}
