import java.math.BigInteger;
import java.util.ArrayList;
import java.util.List;
import java.util.regex.Matcher;
import java.util.regex.Pattern;

/**
 * The document once more, in its plainest form: every question is answered by
 * going through all days one by one, all orders, all frosts. It is slow, and
 * shares no shortcut with the class under test.
 */
final class PlainModel {
    static final int BAD = -1, NO = -2, FULL = -3, NONE = -4;

    static final class Guest {
        int kind, miles, news, heavy;
        int hampers, due, eats, told = NONE;
        boolean soft, had, refused;

        Guest twin() {
            Guest g = new Guest();
            g.kind = kind;
            g.miles = miles;
            g.news = news;
            g.heavy = heavy;
            g.hampers = hampers;
            g.due = due;
            g.eats = eats;
            g.told = told;
            g.soft = soft;
            g.had = had;
            g.refused = refused;
            return g;
        }

        boolean isTold() {
            return told != NONE;
        }

        boolean wasSentOne() {
            return hampers > 0 || had;
        }
    }

    static final class World {
        final List<Guest> guests = new ArrayList<>();
        int day, stock, refusals;
        boolean sentThisDay;

        World twin() {
            World w = new World();
            for (Guest g : guests) {
                w.guests.add(g.twin());
            }
            w.day = day;
            w.stock = stock;
            w.refusals = refusals;
            w.sentThisDay = sentThisDay;
            return w;
        }

        boolean canSend(int p) {
            Guest g = guests.get(p);
            return !g.wasSentOne() && !g.isTold() && stock > 0 && !sentThisDay;
        }

        void send(int p) {
            Guest g = guests.get(p);
            stock--;
            sentThisDay = true;
            g.hampers = 1;
            g.due = day + g.miles / 10 + 1;
        }

        boolean canCall(int p) {
            return guests.get(p).hampers > 0;
        }

        void call(int p) {
            Guest g = guests.get(p);
            stock += g.hampers;
            if (stock > 20) {
                stock = 20;
            }
            g.hampers = 0;
            g.refused = false;
        }

        void oneDay(boolean frost) {
            if (!frost) {
                for (Guest g : guests) {
                    if (g.hampers == 0 || g.due > day) {
                        continue;
                    }
                    if (g.kind == 3 && !g.refused) {
                        g.refused = true;
                        refusals++;
                        g.due = day + 1;
                        g.hampers = stock > 0 ? 2 : 1;
                        stock = stock > 0 ? stock - 1 : 0;
                    } else {
                        int plain = 2 * g.hampers;
                        g.eats = g.kind == 1 ? plain + 2 : g.kind == 2 ? plain / 2 : plain;
                        g.had = true;
                        g.hampers = 0;
                    }
                }
            }
            for (Guest g : guests) {
                if (g.news <= day && !g.isTold() && g.eats == 0) {
                    g.told = day;
                    g.soft = g.had;
                }
            }
            for (Guest g : guests) {
                g.eats = g.eats > 0 ? g.eats - 1 : 0;
            }
            day++;
            sentThisDay = false;
        }

        World after(int n) {
            World w = twin();
            for (int i = 0; i < n; i++) {
                w.oneDay(false);
            }
            return w;
        }

        int told() {
            int n = 0;
            for (Guest g : guests) {
                n += g.isTold() ? 1 : 0;
            }
            return n;
        }

        int softWeight() {
            int n = 0;
            for (Guest g : guests) {
                n += g.soft ? g.heavy : 0;
            }
            return n;
        }
    }

    private final StringBuilder text = new StringBuilder();
    private World world;
    private final List<World> undone = new ArrayList<>();
    private final List<World> kept = new ArrayList<>();
    private final List<int[]> sights = new ArrayList<>();

    PlainModel() {
        world = read("p0,5,6,4;p1,12,5,7;p2,33,9,3;p3,20,8,9;p0,0,2,2;h4;", new int[1]);
    }

    private static final Pattern PERSON = Pattern.compile("p(\\d\\d?),(\\d\\d?),(\\d\\d?),(\\d\\d?);");
    private static final Pattern STOCK = Pattern.compile("h(\\d\\d?);");

    /** What is read of a text; at[0] is then the place of the fault, or NONE. */
    private static World read(String s, int[] at) {
        World w = new World();
        w.stock = 3;
        int place = 0;
        at[0] = NONE;
        while (place < s.length()) {
            Matcher p = PERSON.matcher(s).region(place, s.length());
            Matcher h = STOCK.matcher(s).region(place, s.length());
            if (p.lookingAt()) {
                Guest g = new Guest();
                g.kind = Integer.parseInt(p.group(1));
                g.miles = Integer.parseInt(p.group(2));
                g.news = Integer.parseInt(p.group(3));
                g.heavy = Integer.parseInt(p.group(4));
                w.guests.add(g);
                if (g.kind > 3 || g.miles > 40 || g.news > 40 || g.heavy < 1 || g.heavy > 9 || w.guests.size() > 6) {
                    at[0] = place;
                    return w;
                }
                place = p.end();
            } else if (h.lookingAt() && Integer.parseInt(h.group(1)) <= 20) {
                w.stock = Integer.parseInt(h.group(1));
                place = h.end();
            } else {
                at[0] = place;
                return w;
            }
        }
        return w;
    }

    private boolean none(int p) {
        return p < 0 || p >= world.guests.size();
    }

    private void remember() {
        undone.add(world.twin());
        if (undone.size() > 8) {
            undone.remove(0);
        }
    }

    int write(int letter) {
        if (letter < 32 || letter > 126) {
            return BAD;
        }
        if (text.length() == 200) {
            return FULL;
        }
        return text.append((char) letter).length();
    }

    int wipe() {
        int n = text.length();
        text.setLength(0);
        return n;
    }

    int fault() {
        int[] at = new int[1];
        read(text.toString(), at);
        return at[0];
    }

    int lay() {
        int[] at = new int[1];
        World w = read(text.toString(), at);
        if (at[0] != NONE || w.guests.isEmpty()) {
            return NO;
        }
        world = w;
        undone.clear();
        kept.clear();
        sights.clear();
        return w.guests.size();
    }

    int person(int p, int what) {
        if (none(p) || what < 0 || what > 10) {
            return BAD;
        }
        Guest g = world.guests.get(p);
        int[] all = {g.kind, g.miles, g.news, g.heavy, g.hampers, g.hampers > 0 ? g.due : NONE, g.eats, g.told,
            g.soft ? 1 : 0, g.had ? 1 : 0, g.refused ? 1 : 0};
        return all[what];
    }

    int send(int p) {
        if (none(p)) {
            return BAD;
        }
        if (!world.canSend(p)) {
            return NO;
        }
        remember();
        world.send(p);
        return world.guests.get(p).due;
    }

    int call(int p) {
        if (none(p)) {
            return BAD;
        }
        if (!world.canCall(p)) {
            return NO;
        }
        remember();
        world.call(p);
        return world.stock;
    }

    int buy() {
        if (world.stock == 20) {
            return FULL;
        }
        remember();
        return ++world.stock;
    }

    int pass(int n) {
        if (n < 1 || n > 20) {
            return BAD;
        }
        if (world.day + n > 999) {
            return NO;
        }
        remember();
        int before = world.told();
        world = world.after(n);
        return world.told() - before;
    }

    int undo() {
        if (undone.isEmpty()) {
            return NO;
        }
        world = undone.remove(undone.size() - 1);
        return undone.size();
    }

    int behind(int n, int what) {
        if (n < 0 || n > 60 || what < 0 || what > 2) {
            return BAD;
        }
        World w = world.after(n);
        int bits = 0;
        for (int p = 0; p < w.guests.size(); p++) {
            Guest g = w.guests.get(p);
            boolean[] is = {g.eats > 0, g.isTold(), g.soft};
            bits += is[what] ? 1 << p : 0;
        }
        return bits;
    }

    int when(int p) {
        if (none(p)) {
            return BAD;
        }
        for (int n = 0; n <= 60; n++) {
            if (world.after(n).guests.get(p).isTold()) {
                return n;
            }
        }
        return NONE;
    }

    int gentle() {
        return world.after(60).softWeight();
    }

    int latest(int p) {
        if (none(p)) {
            return BAD;
        }
        if (world.guests.get(p).wasSentOne() || world.guests.get(p).isTold()) {
            return NO;
        }
        for (int n = 40; n >= 0; n--) {
            World w = world.after(n);
            if (w.guests.get(p).isTold()) {
                continue;
            }
            w.send(p);
            w.stock++;
            if (w.after(60 - n).guests.get(p).soft) {
                return n;
            }
        }
        return NONE;
    }

    private int bestWeight;
    private List<Integer> bestOrder;

    private void tryOrders(List<Integer> done, List<Integer> open, int stock) {
        if (!open.isEmpty()) {
            for (Integer p : open) {
                List<Integer> more = new ArrayList<>(done);
                more.add(p);
                List<Integer> less = new ArrayList<>(open);
                less.remove(p);
                tryOrders(more, less, stock);
            }
            return;
        }
        World w = world.twin();
        w.stock = stock;
        for (int k = 0; k < 60; k++) {
            if (k < done.size() && w.canSend(done.get(k))) {
                w.send(done.get(k));
            }
            w.oneDay(false);
        }
        if (w.softWeight() > bestWeight) {
            bestWeight = w.softWeight();
            bestOrder = done;
        }
    }

    private int mostBy(int stock) {
        List<Integer> open = new ArrayList<>();
        for (int p = 0; p < world.guests.size(); p++) {
            if (!world.guests.get(p).wasSentOne() && !world.guests.get(p).isTold()) {
                open.add(p);
            }
        }
        bestWeight = -1;
        tryOrders(new ArrayList<>(), open, stock);
        return bestWeight;
    }

    int order(int k) {
        if (k < -1 || k > 5) {
            return BAD;
        }
        mostBy(world.stock);
        if (k < 0) {
            return bestWeight;
        }
        return k < bestOrder.size() ? bestOrder.get(k) : NONE;
    }

    int need() {
        int most = mostBy(20);
        int stock = 0;
        while (mostBy(stock) != most) {
            stock++;
        }
        return stock;
    }

    int seen(int n, int p, int is) {
        if (n < 0 || n > 40 || none(p) || is < 0 || is > 1) {
            return BAD;
        }
        if (sights.size() == 6) {
            return FULL;
        }
        sights.add(new int[] {n, p, is});
        return sights.size();
    }

    int forget() {
        int n = sights.size();
        sights.clear();
        return n;
    }

    private boolean allSeen(World w) {
        for (int[] s : sights) {
            if (w.after(s[0]).guests.get(s[1]).isTold() != (s[2] == 1)) {
                return false;
            }
        }
        return true;
    }

    int kinds(int p) {
        if (none(p)) {
            return BAD;
        }
        int bits = 0;
        for (int k = 0; k < 4; k++) {
            World w = world.twin();
            w.guests.get(p).kind = k;
            bits += allSeen(w) ? 1 << k : 0;
        }
        return bits;
    }

    int days(int p, int what) {
        if (none(p) || what < 0 || what > 1) {
            return BAD;
        }
        List<Integer> fit = new ArrayList<>();
        for (int n = 0; n <= 40; n++) {
            World w = world.twin();
            w.guests.get(p).news = n;
            if (allSeen(w)) {
                fit.add(n);
            }
        }
        if (what == 0) {
            return fit.size();
        }
        return fit.isEmpty() ? NONE : fit.get(0);
    }

    private BigInteger ways(World w, int p, int frostDays, int x) {
        if (frostDays == 0) {
            return w.after(60).guests.get(p).soft ? BigInteger.ONE : BigInteger.ZERO;
        }
        World cold = w.twin();
        cold.oneDay(true);
        World warm = w.twin();
        warm.oneDay(false);
        return ways(cold, p, frostDays - 1, x).multiply(BigInteger.valueOf(x))
            .add(ways(warm, p, frostDays - 1, x).multiply(BigInteger.valueOf(10 - x)));
    }

    int likely(int p, int n, int x, int part) {
        if (none(p) || n < 0 || n > 7 || x < 0 || x > 10 || part < 0 || part > 1) {
            return BAD;
        }
        BigInteger above = ways(world, p, n, x);
        BigInteger below = BigInteger.TEN.pow(n);
        BigInteger common = above.gcd(below);
        return (part == 0 ? above : below).divide(common).intValueExact();
    }

    int year(int z, int n, int what) {
        if (z < 0 || z > 9999 || n < 1 || n > 60 || what < 0 || what > 2) {
            return BAD;
        }
        World w = world.twin();
        for (int d = 0; d < n; d++) {
            BigInteger x = BigInteger.valueOf(7919L * z + 6151L * d + 1);
            int draw = x.multiply(x).mod(BigInteger.valueOf(65521)).intValue() / 2;
            int p = draw % w.guests.size();
            int act = (draw / 8) % 4;
            if ((act == 0 || act == 1) && w.canSend(p)) {
                w.send(p);
            }
            if (act == 2 && w.canCall(p)) {
                w.call(p);
            }
            if (act == 3 && w.stock < 20) {
                w.stock++;
            }
            w.oneDay(false);
        }
        return what == 0 ? w.softWeight() : what == 1 ? w.told() : w.stock;
    }

    int keep() {
        if (kept.size() == 2) {
            return FULL;
        }
        kept.add(world.twin());
        return kept.size();
    }

    int back() {
        if (kept.isEmpty()) {
            return NO;
        }
        world = kept.remove(kept.size() - 1);
        undone.clear();
        return kept.size();
    }

    int count(int what) {
        int onWay = 0;
        int eating = 0;
        int soft = 0;
        for (Guest g : world.guests) {
            onWay += g.hampers;
            eating += g.eats > 0 ? 1 : 0;
            soft += g.soft ? 1 : 0;
        }
        int[] all = {world.guests.size(), world.day, world.stock, onWay, eating, world.told(), soft, world.refusals,
            sights.size(), undone.size(), kept.size(), text.length()};
        return what < 0 || what >= all.length ? BAD : all[what];
    }
}
