import java.util.ArrayList;
import java.util.List;
import java.util.Random;

/**
 * The class against itself, without a model: what it foretells against what
 * comes when it is done for real on a twin, and what is undone or brought back
 * against a twin on which it was never done. The draws are the same each time.
 */
public final class TwinRunsTest extends EdgeChecks {
    private static final int RUNS = 150;
    private static final Random RANDOM = new Random(9);

    /** One of s (send), c (call), b (buy), p (pass), with its number. */
    private record Act(char what, int number) {
        int on(NewsHampers x) {
            switch (what) {
                case 's': return x.send(number);
                case 'c': return x.call(number);
                case 'b': return x.buy();
                default: return x.pass(number);
            }
        }
    }

    public static void main(String[] args) {
        undoneAndKept();
        behindWhenGentle();
        latestForReal();
        orderForReal();
        needForReal();
        kindsAndDaysForReal();
        frostForReal();
        yearForReal();
        end();
    }

    private static String drawnPersons() {
        StringBuilder s = new StringBuilder();
        int persons = 1 + RANDOM.nextInt(6);
        int most = RANDOM.nextBoolean() ? 40 : 9;
        for (int p = 0; p < persons; p++) {
            int kind = RANDOM.nextInt(3) == 0 ? 3 : RANDOM.nextInt(4);
            s.append(personText(kind, RANDOM.nextInt(41), RANDOM.nextInt(most + 1), 1 + RANDOM.nextInt(9)));
        }
        return s.toString();
    }

    private static String personText(int kind, int miles, int news, int heavy) {
        return "p" + kind + "," + miles + "," + news + "," + heavy + ";";
    }

    private static String drawnText() {
        return drawnPersons() + "h" + RANDOM.nextInt(7) + ";";
    }

    private static Act drawnAct() {
        int which = RANDOM.nextInt(10);
        int p = RANDOM.nextInt(6);
        if (which < 4) {
            return new Act('s', p);
        }
        return which < 5 ? new Act('c', p) : which < 6 ? new Act('b', 0) : new Act('p', 1 + RANDOM.nextInt(2));
    }

    private static NewsHampers twin(String text, List<Act> acts) {
        NewsHampers x = laid(text);
        for (Act act : acts) {
            due("an act that went the first time: " + act, act.on(x) >= 0 ? 1 : 0, 1);
        }
        return x;
    }

    /** Acts that go, on an object of this text. */
    private static List<Act> drawnActs(String text, int draws) {
        NewsHampers x = laid(text);
        List<Act> acts = new ArrayList<>();
        for (int i = 0; i < draws; i++) {
            Act act = drawnAct();
            if (act.on(x) >= 0) {
                acts.add(act);
            }
        }
        return acts;
    }

    private static void sameFromHereOn(NewsHampers x, NewsHampers twin) {
        for (int what = 0; what <= 7; what++) {
            due("count(" + what + ")", x.count(what), twin.count(what));
        }
        for (int p = 0; p < 6; p++) {
            for (int what = 0; what <= 10; what++) {
                due("person(" + p + ", " + what + ")", x.person(p, what), twin.person(p, what));
            }
            due("latest(" + p + ")", x.latest(p), twin.latest(p));
        }
        for (int k = -1; k < 6; k++) {
            due("order(" + k + ")", x.order(k), twin.order(k));
        }
        for (int i = 0; i < 20; i++) {
            Act act = drawnAct();
            due(act + " from here on", act.on(x), act.on(twin));
            due("count(2) from here on", x.count(2), twin.count(2));
        }
    }

    private static void undoneAndKept() {
        says("UNDONE is the latest .. (the last 8 can be); As KEPT last .. nothing is UNDONE then");
        for (int run = 0; run < RUNS; run++) {
            String text = drawnText();
            NewsHampers x = laid(text);
            List<Act> done = new ArrayList<>();
            List<List<Act>> kept = new ArrayList<>();
            int can = 0;
            for (int i = 0; i < 60; i++) {
                int which = RANDOM.nextInt(12);
                if (which < 3) {
                    due("undo()", x.undo(), can > 0 ? can - 1 : NO);
                    if (can > 0) {
                        can--;
                        done.remove(done.size() - 1);
                    }
                } else if (which == 3) {
                    due("keep()", x.keep(), kept.size() < 2 ? kept.size() + 1 : FULL);
                    if (kept.size() < 2) {
                        kept.add(new ArrayList<>(done));
                    }
                } else if (which == 4 && RANDOM.nextInt(3) == 0) {
                    due("back()", x.back(), kept.isEmpty() ? NO : kept.size() - 1);
                    if (!kept.isEmpty()) {
                        done = kept.remove(kept.size() - 1);
                        can = 0;
                    }
                } else {
                    Act act = drawnAct();
                    if (act.on(x) >= 0) {
                        done.add(act);
                        can = Math.min(8, can + 1);
                    }
                }
            }
            due("count(9)", x.count(9), can);
            due("count(10)", x.count(10), kept.size());
            sameFromHereOn(x, twin(text, done));
        }
    }

    private static int bitsNow(NewsHampers x, int what) {
        int bits = 0;
        for (int p = 0; p < x.count(0); p++) {
            boolean is = what == 0 ? x.person(p, 6) > 0 : what == 1 ? x.person(p, 7) != NONE : x.person(p, 8) == 1;
            bits |= is ? 1 << p : 0;
        }
        return bits;
    }

    private static int softWeight(NewsHampers x) {
        int sum = 0;
        for (int p = 0; p < x.count(0); p++) {
            sum += x.person(p, 8) * x.person(p, 3);
        }
        return sum;
    }

    private static void passAll(NewsHampers x, int n) {
        for (int left = n; left > 0; left -= 20) {
            x.pass(Math.min(20, left));
        }
    }

    private static void behindWhenGentle() {
        says("BEHIND .. WHEN .. GENTLE: as it is when as many DAYS have gone by");
        for (int run = 0; run < RUNS; run++) {
            String text = drawnText();
            List<Act> acts = drawnActs(text, 12);
            NewsHampers x = twin(text, acts);
            for (int i = 0; i < 4; i++) {
                int n = RANDOM.nextInt(i < 2 ? 61 : 10);
                NewsHampers later = twin(text, acts);
                passAll(later, n);
                for (int what = 0; what < 3; what++) {
                    due("behind(" + n + ", " + what + ")", x.behind(n, what), bitsNow(later, what));
                }
            }
            NewsHampers end = twin(text, acts);
            passAll(end, 60);
            due("gentle()", x.gentle(), softWeight(end));
            for (int p = 0; p < x.count(0); p++) {
                boolean already = x.person(p, 7) != NONE;
                due("when(" + p + ")", x.when(p), already ? 0 : end.person(p, 7) + 1 - x.count(1));
            }
        }
    }

    private static int softIfSentBehind(String text, List<Act> acts, int p, int n) {
        NewsHampers x = twin(text, acts);
        passAll(x, n);
        if (x.count(2) == 0) {
            x.buy();
        }
        x.send(p);
        passAll(x, 60);
        return x.person(p, 8);
    }

    private static void latestForReal() {
        says("LATEST: the greatest n such that, SENT one behind n DAYS, it is SOFT behind 60 DAYS; none");
        for (int run = 0; run < RUNS; run++) {
            String text = drawnText();
            List<Act> acts = drawnActs(text, 6);
            // a day on which none was sent so far, that one can be sent for real
            acts.add(new Act('p', 1));
            NewsHampers x = twin(text, acts);
            for (int p = 0; p < x.count(0); p++) {
                int n = x.latest(p);
                boolean free = x.person(p, 4) == 0 && x.person(p, 9) == 0 && x.person(p, 7) == NONE;
                due("latest(" + p + ") is NO", n == NO ? 1 : 0, free ? 0 : 1);
                if (n >= 0) {
                    due("sent behind " + n, softIfSentBehind(text, acts, p, n), 1);
                }
                if (n != NO) {
                    due("sent later", softIfSentBehind(text, acts, p, Math.max(0, n + 1)), 0);
                }
            }
        }
    }

    private static List<Integer> thoseToSend(NewsHampers x) {
        List<Integer> open = new ArrayList<>();
        for (int p = 0; p < x.count(0); p++) {
            if (x.person(p, 4) == 0 && x.person(p, 9) == 0 && x.person(p, 7) == NONE) {
                open.add(p);
            }
        }
        return open;
    }

    private static int gentleBy(String text, List<Act> acts, List<Integer> order) {
        NewsHampers x = twin(text, acts);
        for (int p : order) {
            x.send(p);
            x.pass(1);
        }
        passAll(x, 60);
        return softWeight(x);
    }

    private static void allOrders(List<Integer> done, List<Integer> open, List<List<Integer>> orders) {
        if (open.isEmpty()) {
            orders.add(done);
        }
        for (Integer p : open) {
            List<Integer> more = new ArrayList<>(done);
            more.add(p);
            List<Integer> less = new ArrayList<>(open);
            less.remove(p);
            allOrders(more, less, orders);
        }
    }

    private static void orderForReal() {
        says("ORDER: of all orders .. that by which GENTLE is most, of several the first");
        for (int run = 0; run < RUNS; run++) {
            String text = drawnText();
            List<Act> acts = drawnActs(text, run % 3 == 0 ? 0 : 5);
            NewsHampers x = twin(text, acts);
            List<List<Integer>> orders = new ArrayList<>();
            allOrders(new ArrayList<>(), thoseToSend(x), orders);
            int most = -1;
            List<Integer> first = List.of();
            for (List<Integer> order : orders) {
                int much = gentleBy(text, acts, order);
                if (much > most) {
                    most = much;
                    first = order;
                }
            }
            due("order(-1)", x.order(-1), most);
            for (int k = 0; k < 6; k++) {
                due("order(" + k + ")", x.order(k), k < first.size() ? first.get(k) : NONE);
            }
        }
    }

    private static void needForReal() {
        says("NEED: the least STOCK (0 to 20), in place of what is, by which ORDER is as much as by a STOCK of 20");
        for (int run = 0; run < RUNS; run++) {
            String persons = drawnPersons();
            int need = laid(persons + "h" + RANDOM.nextInt(21) + ";").need();
            int most = laid(persons + "h20;").order(-1);
            due("by as many", laid(persons + "h" + Math.max(0, need) + ";").order(-1), most);
            for (int fewer = 0; fewer < need; fewer++) {
                due("less by fewer", laid(persons + "h" + fewer + ";").order(-1) < most ? 1 : 0, 1);
            }
        }
    }

    private static boolean allSeenIn(String text, int sent, int[][] sights) {
        NewsHampers x = laid(text);
        x.send(sent);
        for (int[] sight : sights) {
            if ((x.behind(sight[0], 1) >> sight[1] & 1) != sight[2]) {
                return false;
            }
        }
        return true;
    }

    private static void kindsAndDaysForReal() {
        says("KINDS of a PERSON, in place of its own, by which all that is SEEN would be so. DAYS, likewise");
        for (int run = 0; run < RUNS; run++) {
            int miles = RANDOM.nextInt(41);
            int news = RANDOM.nextInt(run % 2 == 0 ? 9 : 41);
            String other = drawnPersons();
            other = other.substring(0, other.indexOf(';') + 1);
            int kind = RANDOM.nextInt(4);
            NewsHampers x = laid(personText(kind, miles, news, 1) + other);
            int sent = RANDOM.nextInt(3);
            x.send(sent);
            int[][] sights = new int[1 + RANDOM.nextInt(3)][];
            for (int i = 0; i < sights.length; i++) {
                int n = Math.min(40, news + RANDOM.nextInt(8));
                int p = RANDOM.nextInt(4) == 0 ? 1 : 0;
                int is = x.behind(n, 1) >> p & 1;
                sights[i] = new int[] {n, p, RANDOM.nextInt(12) == 0 ? 1 - is : is};
                due("seen", x.seen(n, p, sights[i][2]), i + 1);
            }
            int kinds = 0;
            for (int k = 0; k < 4; k++) {
                kinds |= allSeenIn(personText(k, miles, news, 1) + other, sent, sights) ? 1 << k : 0;
            }
            due("kinds(0)", x.kinds(0), kinds);
            int many = 0;
            int least = NONE;
            for (int n = 40; n >= 0; n--) {
                if (allSeenIn(personText(kind, miles, n, 1) + other, sent, sights)) {
                    many++;
                    least = n;
                }
            }
            due("days(0, 0)", x.days(0, 0), many);
            due("days(0, 1)", x.days(0, 1), least);
        }
    }

    /** With frost on every day, or on none, there is nothing to be reckoned: it comes in on one day. */
    private static void frostForReal() {
        says("LIKELY: on each of the next n DAYS nothing comes in, by x of ten .. on the first DAY without");
        for (int run = 0; run < RUNS; run++) {
            String text = drawnText();
            List<Act> acts = drawnActs(text, 8);
            NewsHampers x = twin(text, acts);
            NewsHampers end = twin(text, acts);
            passAll(end, 60);
            for (int p = 0; p < x.count(0); p++) {
                int n = RANDOM.nextInt(8);
                due("without frost, above", x.likely(p, n, 0, 0), end.person(p, 8));
                due("without frost, below", x.likely(p, n, 0, 1), 1);
                due("with frost alone, above", x.likely(p, n, 10, 0), softBehindFrost(x, end, p, n));
                due("with frost alone, below", x.likely(p, n, 10, 1), 1);
            }
        }
    }

    private static int softBehindFrost(NewsHampers x, NewsHampers end, int p, int n) {
        if (x.person(p, 7) != NONE || x.person(p, 9) == 1 || x.person(p, 4) == 0) {
            return end.person(p, 8);
        }
        int comes = Math.max(x.person(p, 5), x.count(1) + n);
        int has = comes + (x.person(p, 0) == 3 && x.person(p, 10) == 0 ? 1 : 0);
        return has <= x.person(p, 2) ? 1 : 0;
    }

    private static void yearForReal() {
        says("A YEAR by z of n DAYS from now on: ahead of each, with PERSON DRAW modulo as many");
        for (int run = 0; run < RUNS; run++) {
            String text = drawnText();
            List<Act> acts = drawnActs(text, 6);
            NewsHampers x = twin(text, acts);
            NewsHampers y = twin(text, acts);
            int z = run == 0 ? 0 : run == 1 ? 9999 : RANDOM.nextInt(10000);
            int n = run < 2 ? 60 : 1 + RANDOM.nextInt(60);
            for (int day = 0; day < n; day++) {
                long sum = 7919L * z + 6151L * day + 1;
                int draw = (int) (sum * sum % 65521) / 2;
                int p = draw % y.count(0);
                int act = draw / 8 % 4;
                new Act(act < 2 ? 's' : act == 2 ? 'c' : 'b', p).on(y);
                y.pass(1);
            }
            due("year(.., 0)", x.year(z, n, 0), softWeight(y));
            due("year(.., 1)", x.year(z, n, 1), y.count(5));
            due("year(.., 2)", x.year(z, n, 2), y.count(2));
        }
    }
}
