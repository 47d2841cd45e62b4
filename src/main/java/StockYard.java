import java.util.ArrayList;

/** A stock yard: lots, drives by alleys, rules, sales, marks and plans. Every refusal is an answer. */
public final class StockYard {
    public static final int NONE = -1;
    public static final int MISSING = -2;
    public static final int BEYOND = -3;
    public static final int BELOW = -4;
    public static final int KIND = -5;
    public static final int COPY = -6;
    public static final int NO = -7;
    public static final int FULL = -8;

    private static final int CHUTE = 0;
    private static final int PEN = 1;
    private static final int SCALE = 2;
    private static final int HOOK = 3;

    private static final int PLAIN = 0;
    private static final int HELD = 1;
    private static final int MIXED = 3;

    private static final int DOCK = 0;
    private static final int FEE = 1;
    private static final int WATER = 2;
    private static final int BAR = 3;
    private static final int KEYS = 4;

    private static final int FIELD_KIND = 0;
    private static final int FIELD_OWNER = 1;
    private static final int FIELD_HEADS = 2;
    private static final int FIELD_THIRST = 3;
    private static final int FIELD_BUYER = 4;
    private static final int FIELDS = 5;

    private static final int MOST_PLACES = 14;
    private static final int MOST_ALLEYS = 20;
    private static final int MOST_LOTS = 24;
    private static final int MOST_RULES = 10;
    private static final int MOST_MARKS = 20;
    private static final int MOST_PLANNED = 4;
    private static final int MOST_BYTES = 80;
    private static final int MOST_TESTS = 3;
    private static final int MOST_DIGITS = 4;
    private static final int OWNERS = 6;
    private static final int BUYERS = 5;
    private static final int LAST_MARK = 9999;
    private static final int LAST_PRICE = 9999;
    private static final int LAST_RULE_MINUTE = 100000;
    private static final int LONGEST_ALLEY = 30;
    private static final int LONGEST_DRY = 5000;
    private static final int LONGEST_RUN = 1000;
    private static final int GREATEST_OFF = 99;
    private static final int WATER_UNSAID = 1440;

    // No place is passed twice by a way with the fewest minutes.
    private static final int LONGEST_WAY = MOST_PLACES - 1;
    // Above every sum of minutes, and small enough that three of them don't wrap around.
    private static final int FAR = 1000000;
    // A minute behind all that a run can come to.
    private static final int NEVER = 2000000000;
    // Each round of a search for a free minute passes one taken stretch; there are 20 * 24 at most.
    private static final int MOST_ROUNDS = 10000;

    private final Yard yard = new Yard();
    private final ArrayList<Lot> lots = new ArrayList<>();
    private final Tape tape = new Tape();
    private final RuleBook book = new RuleBook();
    private final MarkBook marks = new MarkBook();
    private final Planner planner = new Planner(yard);
    private final Row headRow = new Row();
    private final Way route = new Way();
    private final int[] refused = new int[1 - FULL];
    private int now = 0;

    public StockYard() {
    }

    // ---- the yard

    public int place(int kind) {
        if (!within(kind, CHUTE, HOOK)) {
            return refuse(NO);
        }
        if (yard.places >= MOST_PLACES) {
            return refuse(FULL);
        }
        return yard.addPlace(kind);
    }

    public int alley(int a, int b, int minutes) {
        if (!yard.hasPlace(a) || !yard.hasPlace(b)) {
            return refuse(BEYOND);
        }
        if (a == b || !within(minutes, 1, LONGEST_ALLEY)) {
            return refuse(NO);
        }
        if (yard.alleys.size() >= MOST_ALLEYS) {
            return refuse(FULL);
        }
        return yard.addAlley(a, b, minutes);
    }

    public int way(int a, int b) {
        if (!yard.hasPlace(a) || !yard.hasPlace(b)) {
            return refuse(BEYOND);
        }
        return yard.find(a, b, route) ? route.minutes : NONE;
    }

    public int by(int a, int b, int i) {
        if (!yard.hasPlace(a) || !yard.hasPlace(b)) {
            return refuse(BEYOND);
        }
        if (!yard.find(a, b, route) || i < 0 || i >= route.length) {
            return refuse(BEYOND);
        }
        return route.alleyAt(i);
    }

    // ---- lots

    public int lot(int chute, int told, int heads, int mark, int dry) {
        if (!yard.hasPlace(chute) || !tellsOwner(told)) {
            return refuse(BEYOND);
        }
        if (yard.kindOf(chute) != CHUTE) {
            return refuse(KIND);
        }
        int kind = told / 10;
        if (!within(kind, PLAIN, MIXED) || !tellsHeads(heads) || !isMark(mark)) {
            return refuse(NO);
        }
        if (!within(dry, 0, LONGEST_DRY) || hasLot(chute)) {
            return refuse(NO);
        }
        if (lots.size() >= MOST_LOTS) {
            return refuse(FULL);
        }
        return admit(new Lot(kind, told % 10, heads / 10000, heads % 10000, mark, now - dry, chute));
    }

    public int sort(int lot, int heads, int told, int mark) {
        Lot mixed = lotAt(lot);
        if (mixed == null || !tellsOwner(told) || !yard.hasPlace(told / 10)) {
            return refuse(BEYOND);
        }
        int pen = told / 10;
        if (mixed.kind != MIXED || yard.kindOf(pen) != PEN) {
            return refuse(KIND);
        }
        if (!isIn(mixed, PEN) || !within(heads, 1, mixed.heads - 1) || !isMark(mark) || hasLot(pen)) {
            return refuse(NO);
        }
        if (lots.size() >= MOST_LOTS) {
            return refuse(FULL);
        }
        mixed.heads -= heads;
        return admit(new Lot(PLAIN, told % 10, heads, mixed.pounds, mark, mixed.watered, pen));
    }

    public int look(int lot, int what) {
        Lot seen = lotAt(lot);
        if (seen == null) {
            return refuse(BEYOND);
        }
        switch (what) {
            case 0: return seen.kind;
            case 1: return seen.owner;
            case 2: return seen.heads;
            case 3: return seen.pounds;
            case 4: return seen.mark;
            case 5: return seen.place;
            case 6: return seen.goal;
            case 7: return seen.due;
            case 8: return seen.thirst(now);
            case 9: return book.isDry(seen, now) ? 1 : 0;
            case 10: return isInDoubt(seen) ? 1 : 0;
            case 11: return seen.sale.buyer;
            case 12: return seen.sale.paid ? seen.sale.money : NONE;
            default: return refuse(NO);
        }
    }

    public int drive(int lot, int place) {
        Lot driven = lotAt(lot);
        if (driven == null || !yard.hasPlace(place)) {
            return refuse(BEYOND);
        }
        if (!mayBeDriven(driven) || driven.place == place || hasLot(place)) {
            return refuse(NO);
        }
        if (!yard.find(driven.place, place, route)) {
            return refuse(MISSING);
        }
        int begin = yard.firstFree(route, now);
        yard.take(route, begin);
        driven.leave(place, begin + route.minutes);
        return driven.due;
    }

    public int water(int lot) {
        Lot watered = lotAt(lot);
        if (watered == null) {
            return refuse(BEYOND);
        }
        if (!isIn(watered, PEN)) {
            return refuse(NO);
        }
        int before = watered.thirst(now);
        watered.watered = now;
        return before;
    }

    public int hold(int lot, int kind) {
        Lot held = lotAt(lot);
        if (held == null) {
            return refuse(BEYOND);
        }
        if (held.kind != PLAIN && held.kind != HELD) {
            return refuse(KIND);
        }
        if ((kind != PLAIN && kind != HELD) || held.sale.isSold()) {
            return refuse(NO);
        }
        int before = held.kind;
        held.kind = kind;
        return before;
    }

    public int plan(int lots, int pens) {
        if (lots >>> this.lots.size() != 0 || pens >>> yard.places != 0) {
            return refuse(BEYOND);
        }
        if (!arePens(pens)) {
            return refuse(KIND);
        }
        int size = Integer.bitCount(lots);
        if (!within(size, 1, MOST_PLANNED) || Integer.bitCount(pens) != size) {
            return refuse(NO);
        }
        if (!mayAllBeDriven(lots) || hasLotInOne(pens)) {
            return refuse(NO);
        }
        readyPlanner(lots, pens);
        return planner.search(now) ? planner.soonest : refuse(MISSING);
    }

    public int planned(int i, int what) {
        if (planner.plannedSize == 0) {
            return refuse(MISSING);
        }
        if (i < 0 || i >= planner.plannedSize) {
            return refuse(BEYOND);
        }
        switch (what) {
            case 0: return planner.plannedLot(i);
            case 1: return planner.plannedPen(i);
            default: return refuse(NO);
        }
    }

    // ---- rules

    public int feed(int bytes, int n) {
        if (n < 0) {
            return refuse(BELOW);
        }
        if (n > 4) {
            return refuse(NO);
        }
        if (tape.size + n > MOST_BYTES) {
            return refuse(FULL);
        }
        for (int left = n - 1; left >= 0; left--) {
            tape.add(bytes >>> (8 * left) & 255);
        }
        return tape.size;
    }

    public int wipe() {
        int before = tape.size;
        tape.size = 0;
        return before;
    }

    public int rule(int from, int to) {
        if (!within(from, 0, LAST_RULE_MINUTE) || !within(to, 0, LAST_RULE_MINUTE) || from >= to) {
            return refuse(NO);
        }
        if (book.rules.size() >= MOST_RULES) {
            return refuse(FULL);
        }
        Rule read = new Rule(from, to);
        if (!tape.readRule(read)) {
            return -10 - tape.at;
        }
        tape.size = 0;
        book.rules.add(read);
        return book.rules.size() - 1;
    }

    public int holds(int rule, int lot, int buyer) {
        Lot asked = lotAt(lot);
        if (rule < 0 || rule >= book.rules.size() || asked == null || !within(buyer, NONE, BUYERS - 1)) {
            return refuse(BEYOND);
        }
        return book.rules.get(rule).appliesTo(asked, buyer, now) ? 1 : 0;
    }

    public int said(int lot, int key) {
        Lot asked = lotAt(lot);
        if (asked == null) {
            return refuse(BEYOND);
        }
        if (!within(key, DOCK, WATER)) {
            return refuse(NO);
        }
        return book.saying(key, asked, NONE, now);
    }

    // ---- buying, weighing

    public int see(int buyer, int lot) {
        Lot shown = lotAt(lot);
        if (!isBuyer(buyer) || shown == null) {
            return refuse(BEYOND);
        }
        if (!isIn(shown, PEN)) {
            return refuse(NO);
        }
        if (shown.sale.wasSeenBy(buyer)) {
            return 0;
        }
        shown.sale.show(buyer);
        return 1;
    }

    public int bid(int buyer, int lot, int price) {
        Lot wanted = lotAt(lot);
        if (!isBuyer(buyer) || wanted == null) {
            return refuse(BEYOND);
        }
        if (wanted.kind != PLAIN) {
            return refuse(KIND);
        }
        if (!within(price, 1, LAST_PRICE) || !wanted.sale.wasSeenBy(buyer) || !isIn(wanted, PEN)) {
            return refuse(NO);
        }
        if (wanted.sale.isSold() || book.bars(buyer, wanted, now)) {
            return refuse(NO);
        }
        wanted.sale.offer(buyer, price);
        return wanted.sale.offers();
    }

    public int sell(int lot) {
        Lot sold = lotAt(lot);
        if (sold == null) {
            return refuse(BEYOND);
        }
        if (sold.kind != PLAIN) {
            return refuse(KIND);
        }
        if (sold.sale.isSold()) {
            return refuse(NO);
        }
        if (sold.sale.offers() == 0) {
            return refuse(MISSING);
        }
        sold.sale.close();
        return sold.sale.buyer;
    }

    public int weigh(int lot) {
        Lot weighed = lotAt(lot);
        if (weighed == null) {
            return refuse(BEYOND);
        }
        if (!isIn(weighed, SCALE)) {
            return refuse(NO);
        }
        int weight = weightOf(weighed);
        if (weighed.sale.isSold() && !weighed.sale.paid) {
            int fee = book.saying(FEE, weighed, weighed.sale.buyer, now);
            weighed.sale.pay(weight, weighed.heads * fee, weighed.place);
        }
        return weight;
    }

    public int off(int scale, int v) {
        if (!yard.hasPlace(scale)) {
            refuse(BEYOND);
            return 0;
        }
        if (yard.kindOf(scale) != SCALE) {
            refuse(KIND);
            return 0;
        }
        if (!within(v, -GREATEST_OFF, GREATEST_OFF)) {
            refuse(NO);
            return 0;
        }
        int before = yard.offOf(scale);
        yard.setOff(scale, v);
        return before;
    }

    public int test(int scale) {
        if (!yard.hasPlace(scale)) {
            return refuse(BEYOND);
        }
        if (yard.kindOf(scale) != SCALE) {
            return refuse(KIND);
        }
        int anew = settle(scale, yard.offOf(scale));
        yard.setOff(scale, 0);
        return anew;
    }

    public long account(int owner) {
        if (!isOwner(owner)) {
            refuse(BEYOND);
            return 0;
        }
        long sum = 0;
        for (int i = 0; i < lots.size(); i++) {
            Lot lot = lots.get(i);
            if (lot.owner == owner && lot.sale.paid && !isInDoubt(lot)) {
                sum += lot.sale.money;
            }
        }
        return sum;
    }

    // ---- marks

    public int write(int mark, int owner) {
        if (!isOwner(owner)) {
            return refuse(BEYOND);
        }
        if (!isMark(mark) || marks.ownerOf(mark) != NONE) {
            return refuse(NO);
        }
        if (marks.size >= MOST_MARKS) {
            return refuse(FULL);
        }
        marks.add(mark, owner);
        return marks.size;
    }

    public int whose(int mark) {
        return isMark(mark) ? marks.ownerOf(mark) : refuse(NO);
    }

    public int near(int mark) {
        return isMark(mark) ? marks.countNear(mark) : refuse(NO);
    }

    public int judge(int lot, int owner) {
        Lot judged = lotAt(lot);
        if (judged == null || !isOwner(owner)) {
            return refuse(BEYOND);
        }
        int doubt = isInDoubt(judged) ? 1 : 0;
        judged.owner = owner;
        judged.judged = true;
        return doubt;
    }

    // ---- time and counts

    public int run(int n) {
        if (n < 0) {
            return refuse(BELOW);
        }
        if (!within(n, 1, LONGEST_RUN)) {
            return refuse(NO);
        }
        now += n;
        yard.forgetBefore(now);
        int came = 0;
        for (int i = 0; i < lots.size(); i++) {
            if (lots.get(i).arrive(now)) {
                came++;
            }
        }
        return came;
    }

    public int count(int what) {
        switch (what) {
            case 0: return now;
            case 1: return yard.places;
            case 2: return yard.alleys.size();
            case 3: return lots.size();
            case 4: return book.rules.size();
            case 5: return lotsOnWay();
            case 6: return dryLots();
            case 7: return soldLots();
            case 8: return headsAtHooks();
            case 9: return tape.size;
            case 10: return marks.size;
            default: return refuse(NO);
        }
    }

    // ---- rows

    public int lay() {
        headRow.begin(yard.places);
        for (int i = 0; i < lots.size(); i++) {
            headRow.addAt(lots.get(i).place, lots.get(i).heads);
        }
        return yard.places;
    }

    public int tear() {
        int before = headRow.there ? 1 : 0;
        headRow.there = false;
        return before;
    }

    public int row(int i) {
        if (!headRow.there) {
            return refuse(MISSING);
        }
        return i >= 0 && i < headRow.size ? headRow.at(i) : refuse(BEYOND);
    }

    public int copy(int i, int j, int n) {
        if (!headRow.there) {
            return refuse(MISSING);
        }
        if (n < 0) {
            return refuse(BELOW);
        }
        if (!headRow.spans(i, n) || !headRow.spans(j, n)) {
            return refuse(COPY);
        }
        headRow.move(i, j, n);
        return n;
    }

    public int status(int by) {
        return within(by, FULL, MISSING) ? refused[-by] : refuse(NO);
    }

    // ---- what the calls share

    private int refuse(int by) {
        if (within(by, FULL, MISSING)) {
            refused[-by]++;
        }
        return by;
    }

    private static boolean within(int v, int least, int greatest) {
        return v >= least && v <= greatest;
    }

    private static boolean inSet(int set, int i) {
        return (set >>> i & 1) == 1;
    }

    private static boolean isOwner(int owner) {
        return within(owner, 0, OWNERS - 1);
    }

    private static boolean isBuyer(int buyer) {
        return within(buyer, 0, BUYERS - 1);
    }

    private static boolean isMark(int mark) {
        return within(mark, 0, LAST_MARK);
    }

    private static boolean tellsOwner(int told) {
        return told >= 0 && isOwner(told % 10);
    }

    private static boolean tellsHeads(int told) {
        return within(told / 10000, 1, 200) && within(told % 10000, 100, 2000);
    }

    private Lot lotAt(int number) {
        return number >= 0 && number < lots.size() ? lots.get(number) : null;
    }

    private int admit(Lot lot) {
        lots.add(lot);
        return lots.size() - 1;
    }

    private boolean isIn(Lot lot, int kind) {
        return yard.kindOf(lot.place) == kind;
    }

    private boolean hasLot(int place) {
        if (yard.kindOf(place) == HOOK) {
            return false;
        }
        for (int i = 0; i < lots.size(); i++) {
            if (lots.get(i).place == place || lots.get(i).goal == place) {
                return true;
            }
        }
        return false;
    }

    private boolean mayBeDriven(Lot lot) {
        return !lot.isOnWay() && !isIn(lot, HOOK);
    }

    private boolean isInDoubt(Lot lot) {
        return !lot.judged && marks.doubt(lot.mark, lot.owner);
    }

    private int weightOf(Lot lot) {
        int dock = book.saying(DOCK, lot, NONE, now);
        int pounds = Math.max(1, lot.pounds - lot.thirst(now) / 60 - dock);
        return Math.max(1, lot.heads * pounds + yard.offOf(lot.place));
    }

    private int settle(int scale, int off) {
        int anew = 0;
        for (int i = 0; i < lots.size(); i++) {
            Sale sale = lots.get(i).sale;
            if (sale.scale == scale) {
                sale.correct(off);
                anew++;
            }
        }
        return off == 0 ? 0 : anew;
    }

    private int lotsOnWay() {
        int sum = 0;
        for (int i = 0; i < lots.size(); i++) {
            sum += lots.get(i).isOnWay() ? 1 : 0;
        }
        return sum;
    }

    private int dryLots() {
        int sum = 0;
        for (int i = 0; i < lots.size(); i++) {
            sum += book.isDry(lots.get(i), now) ? 1 : 0;
        }
        return sum;
    }

    private int soldLots() {
        int sum = 0;
        for (int i = 0; i < lots.size(); i++) {
            sum += lots.get(i).sale.isSold() ? 1 : 0;
        }
        return sum;
    }

    private int headsAtHooks() {
        int sum = 0;
        for (int i = 0; i < lots.size(); i++) {
            sum += isIn(lots.get(i), HOOK) ? lots.get(i).heads : 0;
        }
        return sum;
    }

    private boolean arePens(int places) {
        for (int i = 0; i < yard.places; i++) {
            if (inSet(places, i) && yard.kindOf(i) != PEN) {
                return false;
            }
        }
        return true;
    }

    private boolean mayAllBeDriven(int set) {
        for (int i = 0; i < lots.size(); i++) {
            if (inSet(set, i) && !mayBeDriven(lots.get(i))) {
                return false;
            }
        }
        return true;
    }

    private boolean hasLotInOne(int pens) {
        for (int i = 0; i < yard.places; i++) {
            if (inSet(pens, i) && hasLot(i)) {
                return true;
            }
        }
        return false;
    }

    private void readyPlanner(int set, int pens) {
        planner.clear();
        for (int i = 0; i < yard.places; i++) {
            if (inSet(pens, i)) {
                planner.addPen(i);
            }
        }
        for (int i = 0; i < lots.size(); i++) {
            if (inSet(set, i)) {
                planner.addLot(i, lots.get(i).place);
            }
        }
    }

    /** Places, alleys and the minutes between all places. */
    private static final class Yard {
        final ArrayList<Alley> alleys = new ArrayList<>();
        private final int[] kinds = new int[MOST_PLACES];
        private final int[] offs = new int[MOST_PLACES];
        private final int[][] minutes = new int[MOST_PLACES][MOST_PLACES];
        int places = 0;

        boolean hasPlace(int place) {
            return place >= 0 && place < places;
        }

        int kindOf(int place) {
            return hasPlace(place) ? kinds[place] : NONE;
        }

        int offOf(int place) {
            return hasPlace(place) ? offs[place] : 0;
        }

        void setOff(int place, int off) {
            if (hasPlace(place)) {
                offs[place] = off;
            }
        }

        int addPlace(int kind) {
            if (places >= MOST_PLACES) {
                return FULL;
            }
            int added = places;
            kinds[added] = kind;
            for (int i = 0; i < added; i++) {
                minutes[added][i] = FAR;
                minutes[i][added] = FAR;
            }
            places++;
            return added;
        }

        int addAlley(int a, int b, int length) {
            alleys.add(new Alley(a, b, length));
            for (int i = 0; i < places; i++) {
                for (int j = 0; j < places; j++) {
                    int there = minutesBetween(i, a) + length + minutesBetween(b, j);
                    int back = minutesBetween(i, b) + length + minutesBetween(a, j);
                    minutes[i][j] = Math.min(minutes[i][j], Math.min(there, back));
                }
            }
            return alleys.size() - 1;
        }

        private int minutesBetween(int a, int b) {
            return hasPlace(a) && hasPlace(b) ? minutes[a][b] : FAR;
        }

        /** Puts the way from a to b into one that is given; false: there is none. */
        boolean find(int a, int b, Way way) {
            way.clear();
            if (minutesBetween(a, b) >= FAR) {
                return false;
            }
            int at = a;
            for (int step = 0; step < LONGEST_WAY && at != b; step++) {
                int next = leastAlleyToward(at, b);
                if (next == NONE) {
                    return false;
                }
                way.add(next, alleys.get(next).minutes);
                at = alleys.get(next).otherEnd(at);
            }
            return at == b;
        }

        // Ways of like minutes part at an alley, so the least one that stays soonest at each place is the first way.
        private int leastAlleyToward(int at, int goal) {
            int left = minutesBetween(at, goal);
            for (int i = 0; i < alleys.size(); i++) {
                Alley alley = alleys.get(i);
                if (alley.touches(at) && alley.minutes + minutesBetween(alley.otherEnd(at), goal) == left) {
                    return i;
                }
            }
            return NONE;
        }

        /** The least minute from one on in which a drive by a way may begin. */
        int firstFree(Way way, int from) {
            int begin = from;
            for (int round = 0; round < MOST_ROUNDS; round++) {
                int later = putOff(way, begin);
                if (later == begin) {
                    return begin;
                }
                begin = later;
            }
            return begin;
        }

        // No free beginning is passed: each alley alone asks for the minute to which it is put off.
        private int putOff(Way way, int begin) {
            int later = begin;
            for (int i = 0; i < way.length; i++) {
                int number = way.alleyAt(i);
                if (number >= 0 && number < alleys.size()) {
                    later = alleys.get(number).freeFrom(later + way.aheadOf(i)) - way.aheadOf(i);
                }
            }
            return later;
        }

        void take(Way way, int begin) {
            for (int i = 0; i < way.length; i++) {
                int number = way.alleyAt(i);
                if (number >= 0 && number < alleys.size()) {
                    alleys.get(number).take(begin + way.aheadOf(i));
                }
            }
        }

        /** Takes back the latest take() of a way. */
        void giveBack(Way way) {
            for (int i = 0; i < way.length; i++) {
                int number = way.alleyAt(i);
                if (number >= 0 && number < alleys.size()) {
                    alleys.get(number).giveBack();
                }
            }
        }

        void forgetBefore(int minute) {
            for (int i = 0; i < alleys.size(); i++) {
                alleys.get(i).forgetBefore(minute);
            }
        }
    }

    /** An alley, and the minutes from which drives have taken it. */
    private static final class Alley {
        private final int a;
        private final int b;
        final int minutes;
        // A lot is in an alley once a drive at most, so one number a lot is room enough.
        private final int[] taken = new int[MOST_LOTS];
        private int size = 0;

        Alley(int a, int b, int minutes) {
            this.a = a;
            this.b = b;
            this.minutes = minutes;
        }

        boolean touches(int place) {
            return a == place || b == place;
        }

        int otherEnd(int place) {
            return a == place ? b : a;
        }

        int freeFrom(int minute) {
            int free = minute;
            for (int round = 0; round <= size; round++) {
                int met = meets(free);
                if (met == NONE) {
                    return free;
                }
                free = met + minutes;
            }
            return free;
        }

        private int meets(int minute) {
            for (int i = 0; i < size && i < taken.length; i++) {
                if (minute < taken[i] + minutes && taken[i] < minute + minutes) {
                    return taken[i];
                }
            }
            return NONE;
        }

        void take(int minute) {
            if (size < taken.length) {
                taken[size] = minute;
                size++;
            }
        }

        void giveBack() {
            if (size > 0) {
                size--;
            }
        }

        void forgetBefore(int minute) {
            int kept = 0;
            for (int i = 0; i < size && i < taken.length; i++) {
                if (taken[i] + minutes > minute) {
                    taken[kept] = taken[i];
                    kept++;
                }
            }
            size = kept;
        }
    }

    /** Alleys one behind the other, each with the minutes that lie ahead of it. */
    private static final class Way {
        private final int[] alleys = new int[LONGEST_WAY];
        private final int[] ahead = new int[LONGEST_WAY];
        int length = 0;
        int minutes = 0;

        void clear() {
            length = 0;
            minutes = 0;
        }

        void add(int alley, int takes) {
            if (length < LONGEST_WAY) {
                alleys[length] = alley;
                ahead[length] = minutes;
                length++;
                minutes += takes;
            }
        }

        int alleyAt(int i) {
            return i >= 0 && i < length ? alleys[i] : NONE;
        }

        int aheadOf(int i) {
            return i >= 0 && i < length ? ahead[i] : 0;
        }
    }

    /** A lot of beasts, at a place or on its way to one. */
    private static final class Lot {
        final int pounds;
        final int mark;
        final Sale sale = new Sale();
        int kind;
        int owner;
        int heads;
        int watered;
        int place;
        int goal = NONE;
        int due = NONE;
        boolean judged = false;

        Lot(int kind, int owner, int heads, int pounds, int mark, int watered, int place) {
            this.kind = kind;
            this.owner = owner;
            this.heads = heads;
            this.pounds = pounds;
            this.mark = mark;
            this.watered = watered;
            this.place = place;
        }

        int thirst(int now) {
            return now - watered;
        }

        boolean isOnWay() {
            return goal != NONE;
        }

        void leave(int toward, int minute) {
            place = NONE;
            goal = toward;
            due = minute;
        }

        boolean arrive(int now) {
            if (!isOnWay() || due > now) {
                return false;
            }
            place = goal;
            goal = NONE;
            due = NONE;
            return true;
        }
    }

    /** Who has seen a lot, the bids for it, and what it fetched. */
    private static final class Sale {
        private final int[] prices = new int[BUYERS];
        private final int[] turns = new int[BUYERS];
        private int turn = 0;
        private int seen = 0;
        private int price = 0;
        private int weight = 0;
        private int fees = 0;
        int buyer = NONE;
        int money = 0;
        boolean paid = false;
        // The scale whose next test gives the money anew.
        int scale = NONE;

        boolean isSold() {
            return buyer != NONE;
        }

        boolean wasSeenBy(int one) {
            return isBuyer(one) && inSet(seen, one);
        }

        void show(int one) {
            if (isBuyer(one)) {
                seen |= 1 << one;
            }
        }

        void offer(int one, int told) {
            if (isBuyer(one)) {
                turn++;
                prices[one] = told;
                turns[one] = turn;
            }
        }

        int offers() {
            int sum = 0;
            for (int i = 0; i < BUYERS; i++) {
                sum += prices[i] > 0 ? 1 : 0;
            }
            return sum;
        }

        void close() {
            int best = 0;
            for (int i = 1; i < BUYERS; i++) {
                boolean earlier = prices[i] == prices[best] && turns[i] < turns[best];
                if (prices[i] > prices[best] || earlier) {
                    best = i;
                }
            }
            buyer = best;
            price = prices[best];
        }

        void pay(int told, int heldBack, int by) {
            weight = told;
            fees = heldBack;
            scale = by;
            paid = true;
            money = moneyFor(weight);
        }

        void correct(int off) {
            money = moneyFor(Math.max(1, weight - off));
            scale = NONE;
        }

        // Price times weight goes beyond an int.
        private int moneyFor(int pounds) {
            return (int) ((long) price * pounds / 100) - fees;
        }
    }

    /** The tape, and the reading of a rule from it. */
    private static final class Tape {
        private final int[] bytes = new int[MOST_BYTES];
        int size = 0;
        // Where the reader is; where it stays if a rule can't go on so: the fault.
        int at = 0;

        void add(int value) {
            if (size < MOST_BYTES) {
                bytes[size] = value;
                size++;
            }
        }

        boolean readRule(Rule rule) {
            at = 0;
            rule.key = readWord(true);
            if (rule.key == NONE || !readSign(' ')) {
                return false;
            }
            rule.number = readNumber();
            if (rule.number == NONE) {
                return false;
            }
            return at == size || (readText(" if ") && readTests(rule));
        }

        private boolean readTests(Rule rule) {
            for (int i = 0; i < MOST_TESTS; i++) {
                if (!readTest(rule)) {
                    return false;
                }
                if (at == size) {
                    return true;
                }
                if (i + 1 < MOST_TESTS && !readText(" or ")) {
                    return false;
                }
            }
            return false;
        }

        private boolean readTest(Rule rule) {
            boolean not = readSign('!');
            int field = readWord(false);
            if (field == NONE) {
                return false;
            }
            int sign = at < size ? bytes[at] : NONE;
            if (!readSign('=') && !readSign('<') && !readSign('>')) {
                return false;
            }
            int number = readNumber();
            if (number == NONE) {
                return false;
            }
            rule.addTest(not, field, sign, number);
            return true;
        }

        private boolean readSign(char sign) {
            if (at >= size || at >= MOST_BYTES || bytes[at] != sign) {
                return false;
            }
            at++;
            return true;
        }

        private boolean readText(String text) {
            for (int i = 0; i < text.length(); i++) {
                if (!readSign(text.charAt(i))) {
                    return false;
                }
            }
            return true;
        }

        // No two keys, and no two fields, begin alike: the first sign tells which one it must be.
        private int readWord(boolean key) {
            int words = key ? KEYS : FIELDS;
            for (int i = 0; i < words; i++) {
                String word = key ? keyName(i) : fieldName(i);
                if (at < size && bytes[at] == word.charAt(0)) {
                    return readText(word) ? i : NONE;
                }
            }
            return NONE;
        }

        private int readNumber() {
            int value = NONE;
            for (int i = 0; i < MOST_DIGITS; i++) {
                if (at >= size || bytes[at] < '0' || bytes[at] > '9') {
                    return value;
                }
                value = Math.max(0, value) * 10 + bytes[at] - '0';
                at++;
            }
            return value;
        }

        private static String keyName(int key) {
            switch (key) {
                case DOCK: return "dock";
                case FEE: return "fee";
                case WATER: return "water";
                default: return "bar";
            }
        }

        private static String fieldName(int field) {
            switch (field) {
                case FIELD_KIND: return "kind";
                case FIELD_OWNER: return "owner";
                case FIELD_HEADS: return "heads";
                case FIELD_THIRST: return "thirst";
                default: return "buyer";
            }
        }
    }

    /** A rule with its tests, of which one is enough. */
    private static final class Rule {
        private final int from;
        private final int to;
        private final boolean[] nots = new boolean[MOST_TESTS];
        private final int[] fields = new int[MOST_TESTS];
        private final int[] signs = new int[MOST_TESTS];
        private final int[] numbers = new int[MOST_TESTS];
        private int tests = 0;
        int key = NONE;
        int number = 0;

        Rule(int from, int to) {
            this.from = from;
            this.to = to;
        }

        void addTest(boolean not, int field, int sign, int value) {
            if (tests < MOST_TESTS) {
                nots[tests] = not;
                fields[tests] = field;
                signs[tests] = sign;
                numbers[tests] = value;
                tests++;
            }
        }

        boolean appliesTo(Lot lot, int buyer, int now) {
            if (now < from || now >= to) {
                return false;
            }
            for (int i = 0; i < tests && i < MOST_TESTS; i++) {
                if (isMet(i, lot, buyer, now)) {
                    return true;
                }
            }
            return tests == 0;
        }

        private boolean isMet(int i, Lot lot, int buyer, int now) {
            if (i < 0 || i >= tests || (fields[i] == FIELD_BUYER && buyer == NONE)) {
                return false;
            }
            int value = valueOf(fields[i], lot, buyer, now);
            boolean so;
            switch (signs[i]) {
                case '<': so = value < numbers[i]; break;
                case '>': so = value > numbers[i]; break;
                default: so = value == numbers[i]; break;
            }
            return so != nots[i];
        }

        private static int valueOf(int field, Lot lot, int buyer, int now) {
            switch (field) {
                case FIELD_KIND: return lot.kind;
                case FIELD_OWNER: return lot.owner;
                case FIELD_HEADS: return lot.heads;
                case FIELD_THIRST: return lot.thirst(now);
                default: return buyer;
            }
        }
    }

    /** All rules, and what they say of a lot. */
    private static final class RuleBook {
        final ArrayList<Rule> rules = new ArrayList<>();

        int saying(int key, Lot lot, int buyer, int now) {
            for (int i = rules.size() - 1; i >= 0; i--) {
                Rule rule = rules.get(i);
                if (rule.key == key && rule.appliesTo(lot, buyer, now)) {
                    return rule.number;
                }
            }
            return key == WATER ? WATER_UNSAID : 0;
        }

        boolean bars(int buyer, Lot lot, int now) {
            for (int i = 0; i < rules.size(); i++) {
                Rule rule = rules.get(i);
                if (rule.key == BAR && rule.number == buyer && rule.appliesTo(lot, buyer, now)) {
                    return true;
                }
            }
            return false;
        }

        boolean isDry(Lot lot, int now) {
            return lot.thirst(now) > saying(WATER, lot, NONE, now);
        }
    }

    /** The marks that are written, each for one owner. */
    private static final class MarkBook {
        private final int[] marks = new int[MOST_MARKS];
        private final int[] owners = new int[MOST_MARKS];
        int size = 0;

        void add(int mark, int owner) {
            if (size < MOST_MARKS) {
                marks[size] = mark;
                owners[size] = owner;
                size++;
            }
        }

        int ownerOf(int mark) {
            for (int i = 0; i < size && i < MOST_MARKS; i++) {
                if (marks[i] == mark) {
                    return owners[i];
                }
            }
            return NONE;
        }

        int countNear(int mark) {
            int sum = 0;
            for (int i = 0; i < size && i < MOST_MARKS; i++) {
                sum += areNear(marks[i], mark) ? 1 : 0;
            }
            return sum;
        }

        // A mark is written once, so one that is the same for another owner is not written for this one.
        boolean doubt(int mark, int owner) {
            if (ownerOf(mark) != owner) {
                return true;
            }
            for (int i = 0; i < size && i < MOST_MARKS; i++) {
                if (owners[i] != owner && areNear(marks[i], mark)) {
                    return true;
                }
            }
            return false;
        }

        private static boolean areNear(int one, int other) {
            int unlike = 0;
            int left = one;
            int right = other;
            for (int digit = 0; digit < 4; digit++) {
                unlike += left % 10 != right % 10 ? 1 : 0;
                left /= 10;
                right /= 10;
            }
            return unlike == 1;
        }
    }

    /** Looks for the drives by which lots are penned soonest, and keeps the latest found. */
    private static final class Planner {
        private final Yard yard;
        private final int[] lots = new int[MOST_PLANNED];
        private final int[] pens = new int[MOST_PLANNED];
        private final Way[] ways = new Way[MOST_PLANNED * MOST_PLANNED];
        private final int[] toldLots = new int[MOST_PLANNED];
        private final int[] toldPens = new int[MOST_PLANNED];
        private final int[] bestLots = new int[MOST_PLANNED];
        private final int[] bestPens = new int[MOST_PLANNED];
        private int lotCount = 0;
        private int penCount = 0;
        private int usedLots = 0;
        private int usedPens = 0;
        private int now = 0;
        int soonest = 0;
        int plannedSize = 0;

        Planner(Yard yard) {
            this.yard = yard;
            for (int i = 0; i < ways.length; i++) {
                ways[i] = new Way();
            }
        }

        void clear() {
            lotCount = 0;
            penCount = 0;
        }

        void addPen(int pen) {
            if (penCount < MOST_PLANNED) {
                pens[penCount] = pen;
                penCount++;
            }
        }

        /** Behind the pens: the ways from the lot's place to them are found once for all orders. */
        void addLot(int lot, int place) {
            if (lotCount < MOST_PLANNED) {
                lots[lotCount] = lot;
                for (int i = 0; i < penCount && i < MOST_PLANNED; i++) {
                    yard.find(place, pens[i], ways[lotCount * MOST_PLANNED + i]);
                }
                lotCount++;
            }
        }

        boolean search(int minute) {
            now = minute;
            soonest = NEVER;
            usedLots = 0;
            usedPens = 0;
            tell(0, minute);
            return soonest != NEVER;
        }

        int plannedLot(int i) {
            return i >= 0 && i < plannedSize && i < MOST_PLANNED ? bestLots[i] : NONE;
        }

        int plannedPen(int i) {
            return i >= 0 && i < plannedSize && i < MOST_PLANNED ? bestPens[i] : NONE;
        }

        // Orders come first by numbers, so only one that is sooner takes the place of the best.
        private void tell(int depth, int last) {
            if (depth >= lotCount) {
                keep(last);
                return;
            }
            for (int lot = 0; lot < lotCount; lot++) {
                for (int pen = 0; pen < penCount; pen++) {
                    if (!inSet(usedLots, lot) && !inSet(usedPens, pen)) {
                        tellOne(depth, last, lot, pen);
                    }
                }
            }
        }

        private void tellOne(int depth, int last, int lot, int pen) {
            if (depth < 0 || depth >= MOST_PLANNED) {
                return;
            }
            Way way = ways[lot * MOST_PLANNED + pen];
            // A pen of a plan has no lot, so the lot is never there already: no alleys, no way.
            if (way.length == 0 || now + way.minutes >= soonest) {
                return;
            }
            int begin = yard.firstFree(way, now);
            int latest = Math.max(last, begin + way.minutes);
            if (latest >= soonest) {
                return;
            }
            toldLots[depth] = lots[lot];
            toldPens[depth] = pens[pen];
            usedLots |= 1 << lot;
            usedPens |= 1 << pen;
            yard.take(way, begin);
            tell(depth + 1, latest);
            yard.giveBack(way);
            usedLots &= ~(1 << lot);
            usedPens &= ~(1 << pen);
        }

        private void keep(int last) {
            soonest = last;
            plannedSize = lotCount;
            for (int i = 0; i < MOST_PLANNED; i++) {
                bestLots[i] = toldLots[i];
                bestPens[i] = toldPens[i];
            }
        }
    }

    /** The row: heads at each place, as they were when it was laid. */
    private static final class Row {
        private final int[] numbers = new int[MOST_PLACES];
        int size = 0;
        boolean there = false;

        void begin(int places) {
            there = true;
            size = Math.min(places, MOST_PLACES);
            for (int i = 0; i < size; i++) {
                numbers[i] = 0;
            }
        }

        void addAt(int place, int heads) {
            if (place >= 0 && place < size) {
                numbers[place] += heads;
            }
        }

        int at(int i) {
            return i >= 0 && i < size ? numbers[i] : NONE;
        }

        boolean spans(int from, int n) {
            return from >= 0 && n >= 0 && (long) from + n <= size;
        }

        void move(int from, int to, int n) {
            if (spans(from, n) && spans(to, n)) {
                System.arraycopy(numbers, from, numbers, to, n);
            }
        }
    }
}
