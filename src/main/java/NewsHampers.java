/** A fund that sends hampers ahead of bad news: what it does, what comes of it, what is best. */
public final class NewsHampers {
    public static final int BAD = -1, NO = -2, FULL = -3, NONE = -4;

    private static final String FIRST_TEXT = "p0,5,6,4;p1,12,5,7;p2,33,9,3;p3,20,8,9;p0,0,2,2;h4;";

    private static final int MOST_LETTERS = 200;
    private static final int MOST_PERSONS = 6;
    private static final int MOST_STOCK = 20;
    private static final int MOST_MILES = 40;
    private static final int MOST_NEWS = 40;
    private static final int MOST_WEIGHT = 9;
    private static final int MOST_UNDONE = 8;
    private static final int MOST_KEPT = 2;
    private static final int MOST_SEEN = 6;
    private static final int MOST_PASSED = 20;
    private static final int LAST_DAY = 999;
    private static final int FORESIGHT = 60;
    private static final int SEEN_AHEAD = 40;
    private static final int MOST_FROST = 7;
    private static final int STOCK_WITHOUT = 3;

    private static final int SLOW = 1;
    private static final int GREEDY = 2;
    private static final int CLEVER = 3;
    private static final int KINDS = 4;

    private final Text text = new Text();
    private final Roll roll = new Roll();
    private final Roll draft = new Roll();
    private final Roll guessRoll = new Roll();
    private final Fund now = new Fund(roll);
    private final Fund ahead = new Fund(roll);
    private final Fund guess = new Fund(guessRoll);
    private final Pile undone = new Pile(roll, MOST_UNDONE);
    private final Pile kept = new Pile(roll, MOST_KEPT);
    private final Sights sights = new Sights();
    private final OrderSearch search = new OrderSearch(roll);

    public NewsHampers() {
        for (int i = 0; i < FIRST_TEXT.length(); i++) {
            text.append(FIRST_TEXT.charAt(i));
        }
        text.readInto(draft);
        startFromDraft();
        text.empty();
    }

    // ---- funds

    public int write(int letter) {
        if (letter < 32 || letter > 126) {
            return BAD;
        }
        if (text.length >= MOST_LETTERS) {
            return FULL;
        }
        return text.append(letter);
    }

    public int wipe() {
        return text.empty();
    }

    public int fault() {
        return text.readInto(draft);
    }

    public int lay() {
        if (text.readInto(draft) != NONE || draft.size == 0) {
            return NO;
        }
        startFromDraft();
        return roll.size;
    }

    public int person(int p, int what) {
        if (!isPerson(p) || what < 0 || what > 10) {
            return BAD;
        }
        return what < 4 ? roll.fact(p, what) : now.standing(p, what);
    }

    // ---- acts

    public int send(int p) {
        if (!isPerson(p)) {
            return BAD;
        }
        if (!now.canSendNow(p)) {
            return NO;
        }
        undone.push(now);
        now.dispatch(p);
        return now.due[p];
    }

    public int call(int p) {
        if (!isPerson(p)) {
            return BAD;
        }
        if (now.onWay[p] == 0) {
            return NO;
        }
        undone.push(now);
        now.recall(p);
        return now.stock;
    }

    public int buy() {
        if (now.stock >= MOST_STOCK) {
            return FULL;
        }
        undone.push(now);
        now.stock++;
        return now.stock;
    }

    public int pass(int n) {
        if (n < 1 || n > MOST_PASSED) {
            return BAD;
        }
        if (now.day + n > LAST_DAY) {
            return NO;
        }
        undone.push(now);
        int toldBefore = Integer.bitCount(now.toldBits());
        now.passDays(n);
        return Integer.bitCount(now.toldBits()) - toldBefore;
    }

    public int undo() {
        if (!undone.popInto(now)) {
            return NO;
        }
        return undone.size;
    }

    // ---- what comes, what is best

    public int behind(int n, int what) {
        if (n < 0 || n > FORESIGHT || what < 0 || what > 2) {
            return BAD;
        }
        ahead.copyFrom(now);
        ahead.passDays(n);
        if (what == 0) {
            return ahead.eatingBits();
        }
        return what == 1 ? ahead.toldBits() : ahead.soft;
    }

    public int when(int p) {
        if (!isPerson(p)) {
            return BAD;
        }
        ahead.copyFrom(now);
        for (int n = 0; n <= FORESIGHT; n++) {
            if (ahead.isTold(p)) {
                return n;
            }
            ahead.passDay(false);
        }
        return NONE;
    }

    public int gentle() {
        return now.finalWeight(0);
    }

    public int latest(int p) {
        if (!isPerson(p)) {
            return BAD;
        }
        if (!now.canBeSentOne(p)) {
            return NO;
        }
        int spare = now.spareDays(p);
        return spare < 0 ? NONE : spare;
    }

    public int order(int k) {
        if (k < -1 || k >= MOST_PERSONS) {
            return BAD;
        }
        int most = search.run(now, now.stock);
        if (k == -1) {
            return most;
        }
        return k < search.size ? search.best[k] : NONE;
    }

    public int need() {
        int most = search.run(now, MOST_STOCK);
        for (int stock = 0; stock < MOST_STOCK; stock++) {
            if (search.run(now, stock) == most) {
                return stock;
            }
        }
        return MOST_STOCK;
    }

    // ---- what was seen

    public int seen(int n, int p, int is) {
        if (n < 0 || n > SEEN_AHEAD || !isPerson(p) || is < 0 || is > 1) {
            return BAD;
        }
        if (sights.size >= MOST_SEEN) {
            return FULL;
        }
        sights.add(n, p, is == 1);
        return sights.size;
    }

    public int forget() {
        int were = sights.size;
        sights.size = 0;
        return were;
    }

    public int kinds(int p) {
        if (!isPerson(p)) {
            return BAD;
        }
        int bits = 0;
        guessRoll.copyFrom(roll);
        for (int kind = 0; kind < KINDS; kind++) {
            guessRoll.kind[p] = kind;
            if (guessFits()) {
                bits |= 1 << kind;
            }
        }
        return bits;
    }

    public int days(int p, int what) {
        if (!isPerson(p) || what < 0 || what > 1) {
            return BAD;
        }
        int fitting = 0;
        int least = NONE;
        guessRoll.copyFrom(roll);
        for (int news = MOST_NEWS; news >= 0; news--) {
            guessRoll.news[p] = news;
            if (guessFits()) {
                fitting++;
                least = news;
            }
        }
        return what == 0 ? fitting : least;
    }

    // ---- chances, years

    public int likely(int p, int n, int x, int part) {
        if (!isPerson(p) || n < 0 || n > MOST_FROST || x < 0 || x > 10 || part < 0 || part > 1) {
            return BAD;
        }
        int above = 0;
        int below = 1;
        for (int d = 0; d < n; d++) {
            below *= 10;
        }
        for (int frosts = 0; frosts < 1 << n; frosts++) {
            if (softWithFrosts(p, n, frosts)) {
                above += weightOfFrosts(n, frosts, x);
            }
        }
        int common = greatestDivisor(above, below);
        if (common <= 0) {
            return BAD;
        }
        return part == 0 ? above / common : below / common;
    }

    public int year(int z, int n, int what) {
        if (z < 0 || z > 9999 || n < 1 || n > 60 || what < 0 || what > 2) {
            return BAD;
        }
        ahead.copyFrom(now);
        for (int d = 0; d < n; d++) {
            ahead.actByDraw(draw(z, d));
            ahead.passDay(false);
        }
        if (what == 0) {
            return ahead.softWeight();
        }
        return what == 1 ? Integer.bitCount(ahead.toldBits()) : ahead.stock;
    }

    // ---- kept

    public int keep() {
        if (kept.size >= MOST_KEPT) {
            return FULL;
        }
        kept.push(now);
        return kept.size;
    }

    public int back() {
        if (!kept.popInto(now)) {
            return NO;
        }
        undone.size = 0;
        return kept.size;
    }

    public int count(int what) {
        switch (what) {
            case 0: return roll.size;
            case 1: return now.day;
            case 2: return now.stock;
            case 3: return now.allOnWay();
            case 4: return Integer.bitCount(now.eatingBits());
            case 5: return Integer.bitCount(now.toldBits());
            case 6: return Integer.bitCount(now.soft);
            case 7: return now.refusals;
            case 8: return sights.size;
            case 9: return undone.size;
            case 10: return kept.size;
            case 11: return text.length;
            default: return BAD;
        }
    }

    private boolean isPerson(int p) {
        return p >= 0 && p < roll.size;
    }

    private void startFromDraft() {
        roll.copyFrom(draft);
        now.start();
        sights.size = 0;
        undone.size = 0;
        kept.size = 0;
    }

    private boolean guessFits() {
        guess.copyFrom(now);
        return sights.allHold(guess);
    }

    private boolean softWithFrosts(int p, int n, int frosts) {
        ahead.copyFrom(now);
        for (int d = 0; d < n; d++) {
            ahead.passDay((frosts >> d & 1) == 1);
        }
        return ahead.endsSoft(p);
    }

    private static int weightOfFrosts(int n, int frosts, int x) {
        int weight = 1;
        for (int d = 0; d < n; d++) {
            weight *= (frosts >> d & 1) == 1 ? x : 10 - x;
        }
        return weight;
    }

    private static int greatestDivisor(int a, int b) {
        int high = a;
        int low = b;
        for (int step = 0; step < 64 && low != 0; step++) {
            int rest = high % low;
            high = low;
            low = rest;
        }
        return high;
    }

    private static int draw(int z, int d) {
        long x = 7919L * z + 6151L * d + 1;
        return (int) (x * x % 65521 / 2);
    }

    /** THE TEXT, and how it is read. */
    private static final class Text {
        final char[] letters = new char[MOST_LETTERS];
        final int[] numbers = new int[4];
        int length = 0;

        int append(int letter) {
            if (length < MOST_LETTERS) {
                letters[length] = (char) letter;
                length++;
            }
            return length;
        }

        int empty() {
            int was = length;
            length = 0;
            return was;
        }

        /** The place of the first item that is not so, NONE if all are. */
        int readInto(Roll target) {
            target.clear();
            int place = 0;
            for (int item = 0; item < MOST_LETTERS && place < length; item++) {
                int end = readItem(place, target);
                if (end < 0) {
                    return place;
                }
                place = end;
            }
            return NONE;
        }

        /** The place behind the item, or NONE if it is not so. */
        private int readItem(int place, Roll target) {
            char letter = letterAt(place);
            if (letter != 'p' && letter != 'h') {
                return NONE;
            }
            int end = readNumbers(place + 1, letter == 'p' ? 4 : 1);
            if (end < 0) {
                return NONE;
            }
            boolean taken = letter == 'p'
                ? target.addPerson(numbers[0], numbers[1], numbers[2], numbers[3])
                : target.setStock(numbers[0]);
            return taken ? end : NONE;
        }

        private int readNumbers(int start, int wanted) {
            int place = start;
            for (int i = 0; i < wanted && i < numbers.length; i++) {
                if (!isFigure(place)) {
                    return NONE;
                }
                int number = letterAt(place) - '0';
                place++;
                if (isFigure(place)) {
                    number = number * 10 + letterAt(place) - '0';
                    place++;
                }
                numbers[i] = number;
                if (letterAt(place) != (i == wanted - 1 ? ';' : ',')) {
                    return NONE;
                }
                place++;
            }
            return place;
        }

        private boolean isFigure(int place) {
            char letter = letterAt(place);
            return letter >= '0' && letter <= '9';
        }

        /** A letter that no item has stands for what is beyond the end. */
        private char letterAt(int place) {
            return place >= 0 && place < length && place < MOST_LETTERS ? letters[place] : (char) 0;
        }
    }

    /** What is laid: the persons, and the stock at first. */
    private static final class Roll {
        final int[] kind = new int[MOST_PERSONS];
        final int[] miles = new int[MOST_PERSONS];
        final int[] news = new int[MOST_PERSONS];
        final int[] weight = new int[MOST_PERSONS];
        int size = 0;
        int stock = STOCK_WITHOUT;

        void clear() {
            size = 0;
            stock = STOCK_WITHOUT;
        }

        boolean addPerson(int k, int x, int n, int b) {
            if (size >= MOST_PERSONS || k >= KINDS || x > MOST_MILES || n > MOST_NEWS
                || b < 1 || b > MOST_WEIGHT) {
                return false;
            }
            kind[size] = k;
            miles[size] = x;
            news[size] = n;
            weight[size] = b;
            size++;
            return true;
        }

        boolean setStock(int hampers) {
            if (hampers > MOST_STOCK) {
                return false;
            }
            stock = hampers;
            return true;
        }

        void copyFrom(Roll other) {
            System.arraycopy(other.kind, 0, kind, 0, MOST_PERSONS);
            System.arraycopy(other.miles, 0, miles, 0, MOST_PERSONS);
            System.arraycopy(other.news, 0, news, 0, MOST_PERSONS);
            System.arraycopy(other.weight, 0, weight, 0, MOST_PERSONS);
            size = other.size;
            stock = other.stock;
        }

        int fact(int p, int what) {
            switch (what) {
                case 0: return kind[p];
                case 1: return miles[p];
                case 2: return news[p];
                default: return weight[p];
            }
        }
    }

    /** All as it stands: what is on its way, who eats, who is told. */
    private static final class Fund {
        final Roll roll;
        final int[] onWay = new int[MOST_PERSONS];
        final int[] due = new int[MOST_PERSONS];
        final int[] eats = new int[MOST_PERSONS];
        final int[] toldOn = new int[MOST_PERSONS];
        int had = 0;
        int soft = 0;
        int refused = 0;
        int refusals = 0;
        int stock = 0;
        int day = 0;
        boolean sentToday = false;

        Fund(Roll roll) {
            this.roll = roll;
        }

        void start() {
            for (int p = 0; p < MOST_PERSONS; p++) {
                onWay[p] = 0;
                due[p] = NONE;
                eats[p] = 0;
                toldOn[p] = NONE;
            }
            had = 0;
            soft = 0;
            refused = 0;
            refusals = 0;
            stock = roll.stock;
            day = 0;
            sentToday = false;
        }

        /** What is laid is not copied: a guess stands as all does, on a roll of its own. */
        void copyFrom(Fund other) {
            System.arraycopy(other.onWay, 0, onWay, 0, MOST_PERSONS);
            System.arraycopy(other.due, 0, due, 0, MOST_PERSONS);
            System.arraycopy(other.eats, 0, eats, 0, MOST_PERSONS);
            System.arraycopy(other.toldOn, 0, toldOn, 0, MOST_PERSONS);
            had = other.had;
            soft = other.soft;
            refused = other.refused;
            refusals = other.refusals;
            stock = other.stock;
            day = other.day;
            sentToday = other.sentToday;
        }

        boolean isTold(int p) {
            return toldOn[p] >= 0;
        }

        boolean canBeSentOne(int p) {
            return onWay[p] == 0 && !isIn(had, p) && !isTold(p);
        }

        boolean canSendNow(int p) {
            return canBeSentOne(p) && stock > 0 && !sentToday;
        }

        void dispatch(int p) {
            stock--;
            sentToday = true;
            onWay[p] = 1;
            due[p] = day + wayDays(p);
        }

        void recall(int p) {
            stock = Math.min(MOST_STOCK, stock + onWay[p]);
            onWay[p] = 0;
            due[p] = NONE;
            refused &= ~(1 << p);
        }

        void passDays(int n) {
            for (int d = 0; d < n; d++) {
                passDay(false);
            }
        }

        void passDay(boolean frost) {
            for (int p = 0; p < roll.size && !frost; p++) {
                if (onWay[p] > 0 && due[p] <= day) {
                    comeIn(p);
                }
            }
            for (int p = 0; p < roll.size; p++) {
                if (roll.news[p] <= day && !isTold(p) && eats[p] == 0) {
                    toldOn[p] = day;
                    soft |= had & 1 << p;
                }
            }
            for (int p = 0; p < roll.size; p++) {
                if (eats[p] > 0) {
                    eats[p]--;
                }
            }
            day++;
            sentToday = false;
        }

        private void comeIn(int p) {
            if (willRefuse(p)) {
                refused |= 1 << p;
                refusals++;
                due[p] = day + 1;
                if (stock > 0) {
                    stock--;
                    onWay[p] = 2;
                }
                return;
            }
            eats[p] = eatingDays(roll.kind[p], onWay[p]);
            had |= 1 << p;
            onWay[p] = 0;
            due[p] = NONE;
        }

        void actByDraw(int draw) {
            if (roll.size <= 0) {
                return;
            }
            int p = draw % roll.size;
            int act = draw / 8 % 4;
            if (act < 2 && canSendNow(p)) {
                dispatch(p);
            } else if (act == 2 && onWay[p] > 0) {
                recall(p);
            } else if (act == 3 && stock < MOST_STOCK) {
                stock++;
            }
        }

        /**
         * Whether it is soft behind 60 days, without going through them: news
         * is of day 40 at most and the longest meal is short, so all are told
         * by then, and only what comes in by the day of the news is in time.
         */
        boolean endsSoft(int p) {
            if (isTold(p)) {
                return isIn(soft, p);
            }
            if (isIn(had, p)) {
                return true;
            }
            int arrival = Math.max(due[p], day) + (willRefuse(p) ? 1 : 0);
            return onWay[p] > 0 && arrival <= roll.news[p];
        }

        /** How many days one that was sent none may wait for it; below 0 if it is too late. */
        int spareDays(int p) {
            return roll.news[p] - day - wayDays(p) - (willRefuse(p) ? 1 : 0);
        }

        /** The weight of all who end soft, with those of the bits that could if sent one now. */
        int finalWeight(int stillOpen) {
            int sum = 0;
            for (int p = 0; p < roll.size; p++) {
                if (endsSoft(p) || isIn(stillOpen, p) && spareDays(p) >= 0) {
                    sum += roll.weight[p];
                }
            }
            return sum;
        }

        int softWeight() {
            int sum = 0;
            for (int p = 0; p < roll.size; p++) {
                if (isIn(soft, p)) {
                    sum += roll.weight[p];
                }
            }
            return sum;
        }

        int allOnWay() {
            int sum = 0;
            for (int p = 0; p < roll.size; p++) {
                sum += onWay[p];
            }
            return sum;
        }

        int eatingBits() {
            int bits = 0;
            for (int p = 0; p < roll.size; p++) {
                if (eats[p] > 0) {
                    bits |= 1 << p;
                }
            }
            return bits;
        }

        int toldBits() {
            int bits = 0;
            for (int p = 0; p < roll.size; p++) {
                if (isTold(p)) {
                    bits |= 1 << p;
                }
            }
            return bits;
        }

        int standing(int p, int what) {
            switch (what) {
                case 4: return onWay[p];
                case 5: return due[p];
                case 6: return eats[p];
                case 7: return toldOn[p];
                case 8: return soft >> p & 1;
                case 9: return had >> p & 1;
                default: return refused >> p & 1;
            }
        }

        private int wayDays(int p) {
            return roll.miles[p] / 10 + 1;
        }

        private boolean willRefuse(int p) {
            return roll.kind[p] == CLEVER && !isIn(refused, p);
        }

        private static int eatingDays(int kind, int hampers) {
            if (kind == GREEDY) {
                return hampers;
            }
            return kind == SLOW ? 2 * hampers + 2 : 2 * hampers;
        }

        private static boolean isIn(int bits, int p) {
            return (bits >> p & 1) == 1;
        }
    }

    /** The latest standings, as many as it has rows: one more pushes the oldest out. */
    private static final class Pile {
        final Fund[] rows;
        int size = 0;
        int top = 0;

        Pile(Roll roll, int most) {
            rows = new Fund[Math.max(most, 1)];
            for (int i = 0; i < rows.length; i++) {
                rows[i] = new Fund(roll);
            }
        }

        void push(Fund fund) {
            top = top + 1 < rows.length ? top + 1 : 0;
            rows[top].copyFrom(fund);
            size = Math.min(size + 1, rows.length);
        }

        boolean popInto(Fund fund) {
            if (size == 0) {
                return false;
            }
            fund.copyFrom(rows[top]);
            top = top > 0 ? top - 1 : rows.length - 1;
            size--;
            return true;
        }
    }

    /** What was seen: who is told, or not, behind how many days. */
    private static final class Sights {
        final int[] daysBehind = new int[MOST_SEEN];
        final int[] who = new int[MOST_SEEN];
        final boolean[] told = new boolean[MOST_SEEN];
        int size = 0;

        void add(int n, int p, boolean isTold) {
            if (size < MOST_SEEN) {
                daysBehind[size] = n;
                who[size] = p;
                told[size] = isTold;
                size++;
            }
        }

        /** Whether all that is seen is so, by this fund, which goes on by it. */
        boolean allHold(Fund fund) {
            int last = 0;
            for (int i = 0; i < size; i++) {
                last = Math.max(last, daysBehind[i]);
            }
            for (int n = 0; n <= last; n++) {
                if (!holdAfter(n, fund)) {
                    return false;
                }
                fund.passDay(false);
            }
            return true;
        }

        private boolean holdAfter(int n, Fund fund) {
            for (int i = 0; i < size; i++) {
                if (daysBehind[i] == n && fund.isTold(who[i]) != told[i]) {
                    return false;
                }
            }
            return true;
        }
    }

    /** The order to send in by which most weight ends soft; of several the first. */
    private static final class OrderSearch {
        final Fund[] standing = new Fund[MOST_PERSONS + 1];
        final int[] chosen = new int[MOST_PERSONS];
        final int[] best = new int[MOST_PERSONS];
        int size = 0;
        int most = -1;

        OrderSearch(Roll roll) {
            for (int i = 0; i < standing.length; i++) {
                standing[i] = new Fund(roll);
            }
        }

        int run(Fund now, int stock) {
            Fund first = standing[0];
            first.copyFrom(now);
            first.stock = stock;
            int open = 0;
            for (int p = 0; p < now.roll.size; p++) {
                if (now.canBeSentOne(p)) {
                    open |= 1 << p;
                }
            }
            size = Integer.bitCount(open);
            most = -1;
            extend(this, 0, open);
            return most;
        }

        /**
         * Tries each that is open next, lowest first. What could at best still
         * come of a choice is looked at first: one that cannot beat the best
         * so far is left, and an equal one is not first.
         */
        private static void extend(OrderSearch search, int depth, int open) {
            if (open == 0 || depth >= MOST_PERSONS) {
                search.most = search.standing[depth].finalWeight(0);
                System.arraycopy(search.chosen, 0, search.best, 0, MOST_PERSONS);
                return;
            }
            Fund after = search.standing[depth + 1];
            for (int p = 0; p < MOST_PERSONS; p++) {
                if ((open >> p & 1) == 0) {
                    continue;
                }
                after.copyFrom(search.standing[depth]);
                if (after.canSendNow(p)) {
                    after.dispatch(p);
                }
                after.passDay(false);
                int rest = open & ~(1 << p);
                if (after.finalWeight(after.stock > 0 ? rest : 0) > search.most) {
                    search.chosen[depth] = p;
                    extend(search, depth + 1, rest);
                }
            }
        }
    }
}
