import java.util.ArrayList;
import java.util.Arrays;
import java.util.List;

/** What the tests share: answers that are due, and runs that several tests begin with. */
final class Due {
    private static final List<String> wrong = new ArrayList<>();
    private static int asked = 0;

    private Due() {
    }

    static void is(int promise, String call, long got, long want) {
        is("promise " + promise, call, got, want);
    }

    static void is(String where, String call, long got, long want) {
        asked++;
        if (got != want) {
            wrong.add(where + ": " + call + " answered " + got + ", due is " + want);
        }
    }

    static void alike(String where, String what, long[] got, long[] want) {
        asked++;
        int at = Arrays.mismatch(got, want);
        if (at >= 0) {
            wrong.add(where + ": " + what + ", from number " + at + " on, is " + rest(got, at) + ", due is " + rest(want, at));
        }
    }

    private static String rest(long[] row, int from) {
        return Arrays.toString(Arrays.copyOfRange(row, from, Math.max(from, Math.min(row.length, from + 6))));
    }

    static void end() {
        for (int i = 0; i < wrong.size() && i < 20; i++) {
            System.out.println(wrong.get(i));
        }
        System.out.println(asked + " answers, " + wrong.size() + " not as due");
        if (!wrong.isEmpty() || asked == 0) {
            System.exit(1);
        }
    }

    static void write(StockYard x, String text) {
        for (int i = 0; i < text.length(); i++) {
            x.feed(text.charAt(i), 1);
        }
    }

    /** Wipes, writes and reads a rule. */
    static int rule(StockYard x, String text, int from, int to) {
        x.wipe();
        write(x, text);
        return x.rule(from, to);
    }

    static int rule(StockYard x, String text) {
        return rule(x, text, 0, 100000);
    }

    static StockYard yard(int... kinds) {
        StockYard x = new StockYard();
        for (int kind : kinds) {
            x.place(kind);
        }
        return x;
    }

    /** A chute 0, pens 1 and 2, scales 3 and 4, a hook 5, a chute 6; all a minute from the chute 0. */
    static StockYard star() {
        StockYard x = yard(0, 1, 1, 2, 2, 3, 0);
        for (int i = 1; i < 7; i++) {
            x.alley(0, i, 1);
        }
        return x;
    }

    /** A lot that has been driven from the star's chute to a place; a minute or more has gone by. */
    static int lotAt(StockYard x, int place, int told, int heads, int mark) {
        int lot = x.lot(0, told, heads, mark, 0);
        int there = x.drive(lot, place);
        x.run(there - x.count(0));
        return lot;
    }
}
