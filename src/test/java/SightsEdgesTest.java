import java.math.BigInteger;

/** Part 4 of the document and promises 18 to 26, sentence by sentence, at their edges. */
public final class SightsEdgesTest extends EdgeChecks {
    public static void main(String[] args) {
        sixSeenAtMost();
        seenBounds();
        seenByHowAllStands();
        forgotten();
        kindsOfOne();
        kindsWithRefusals();
        kindsOfAnother();
        daysOfOne();
        daysFromTo();
        daysBounds();
        likelyBounds();
        likelyLowestTerms();
        likelyNoFrostAllFrost();
        likelyNextDaysOnly();
        likelyFirstDayWithout();
        likelyClever();
        yearBounds();
        yearDraws();
        yearIfItCanBe();
        yearThen();
        yearChangesNothing();
        twoKeptAtMost();
        allButTextAndSeen();
        keptLast();
        nothingIsUndoneThen();
        countBounds();
        countsOfEach();
        countsOfSix();
        refusedSoFar();
        end();
    }

    private static void sixSeenAtMost() {
        says("SEEN (6 at most) .. how many. BAD; FULL.");
        NewsHampers x = laid("p0,0,3,1;");
        for (int n = 1; n <= 6; n++) {
            due("seen(3, 0, 0)", x.seen(3, 0, 0), n);
            due("count(8)", x.count(8), n);
        }
        due("a seventh", x.seen(3, 0, 1), FULL);
        due("count(8)", x.count(8), 6);
        due("it is not seen", x.kinds(0), 15);
        due("bad, and full", x.seen(41, 0, 1), BAD);
        due("bad, and full", x.seen(3, 1, 1), BAD);
        due("bad, and full", x.seen(3, 0, 2), BAD);
        x.forget();
        due("room again", x.seen(3, 0, 0), 1);
        for (int n = 2; n <= 5; n++) {
            x.seen(3, 0, 0);
        }
        due("the sixth counts", x.seen(3, 0, 1), 6);
        due("nothing fits", x.kinds(0), 0);
    }

    private static void seenBounds() {
        says("behind n (0 to 40) DAYS a PERSON is TOLD, or not (1, 0)");
        NewsHampers x = laid("p0,0,3,1;p0,0,3,1;");
        int[] far = {Integer.MIN_VALUE, Integer.MAX_VALUE};
        int[][] bad = {{-1, 0, 0}, {41, 0, 0}, {0, -1, 0}, {0, 2, 0}, {0, 0, -1}, {0, 0, 2},
            {far[0], 0, 0}, {far[1], 0, 0}, {0, far[0], 0}, {0, far[1], 0}, {0, 0, far[0]}, {0, 0, far[1]}};
        for (int[] b : bad) {
            due("seen(" + b[0] + ", " + b[1] + ", " + b[2] + ")", x.seen(b[0], b[1], b[2]), BAD);
        }
        due("count(8)", x.count(8), 0);
        due("now", x.seen(0, 1, 0), 1);
        due("behind 40", x.seen(40, 1, 1), 2);
        due("what was bad is not seen", x.kinds(0), 15);
        due("n of both", x.days(1, 0), 40);
    }

    private static void seenByHowAllStands() {
        says("(by how all stands when that is asked, not when it was SEEN)");
        NewsHampers x = laid("p0,0,3,1;h2;");
        x.seen(4, 0, 1);
        due("told behind 4", x.kinds(0), 15);
        x.send(0);
        // in on day 1, news of 3: eats 1, 2; slow 1 to 4; greedy 1; clever in on 2, two hampers, 2 to 5
        due("sent one since", x.kinds(0), 1 + 4);
        x.pass(1);
        due("a day since", x.kinds(0), 1 + 4);
        x.pass(1);
        // its one came in: what it eats is so already
        due("two days since", x.kinds(0), 15);
        x.undo();
        x.undo();
        due("undone since", x.kinds(0), 5);
        x.undo();
        due("undone since", x.kinds(0), 15);
        x = laid("p0,0,3,1;");
        x.seen(0, 0, 0);
        due("not told now", x.days(0, 0), 41);
        x.pass(4);
        due("told now", x.days(0, 0), 0);
        x = laid("p0,0,3,1;");
        x.keep();
        x.pass(4);
        x.seen(0, 0, 1);
        due("told now", x.kinds(0), 15);
        x.back();
        due("seen stays, but all stands otherwise", x.kinds(0), 0);
    }

    private static void forgotten() {
        says("Nothing is SEEN: how many were");
        NewsHampers x = laid("p0,0,3,1;");
        due("of none", x.forget(), 0);
        for (int n = 0; n < 6; n++) {
            x.seen(0, 0, 1);
        }
        due("nothing fits", x.kinds(0), 0);
        due("of six", x.forget(), 6);
        due("of none", x.forget(), 0);
        due("count(8)", x.count(8), 0);
        due("all fit", x.kinds(0), 15);
        due("all fit", x.days(0, 0), 41);
    }

    private static void kindsOfOne() {
        says("KINDS of a PERSON (bits of 0 to 3), in place of its own, by which all that is SEEN would be so");
        for (int own = 0; own < 4; own++) {
            // in on day 1: told on 3 if plain, 5 if slow, 2 if greedy, 1 if clever
            NewsHampers x = laid("p" + own + ",0,1,1;h9;");
            x.send(0);
            int[] toldOn = {3, 5, 2, 1};
            for (int n = 0; n <= 7; n++) {
                int bits = 0;
                for (int kind = 0; kind < 4; kind++) {
                    bits |= toldOn[kind] < n ? 1 << kind : 0;
                }
                x.seen(n, 0, 1);
                due("told behind " + n + ", own " + own, x.kinds(0), bits);
                x.forget();
                x.seen(n, 0, 0);
                due("not told behind " + n + ", own " + own, x.kinds(0), 15 - bits);
                x.forget();
            }
            due("its own stays", x.person(0, 0), own);
            due("it is told as its own kind", x.when(0), toldOn[own] + 1);
            x.seen(3, 0, 1);
            x.seen(3, 0, 0);
            due("what cannot be so", x.kinds(0), 0);
        }
        NewsHampers x = new NewsHampers();
        due("nothing is seen", x.kinds(4), 15);
        int[] bad = {-1, 5, 6, Integer.MIN_VALUE, Integer.MAX_VALUE};
        for (int p : bad) {
            due("kinds(" + p + ")", x.kinds(p), BAD);
        }
    }

    private static void kindsWithRefusals() {
        says("KINDS, of one that REFUSED");
        NewsHampers x = laid("p3,0,2,1;h2;");
        x.send(0);
        x.pass(2);
        due("refused", x.person(0, 10), 1);
        // two come in on day 2: 4 days, 6 if slow, 2 if greedy
        int[] toldBehind = {5, 7, 3, 5};
        for (int n = 0; n <= 8; n++) {
            int bits = 0;
            for (int kind = 0; kind < 4; kind++) {
                bits |= toldBehind[kind] <= n ? 1 << kind : 0;
            }
            x.seen(n, 0, 1);
            due("told behind " + n, x.kinds(0), bits);
            x.forget();
        }
    }

    private static void kindsOfAnother() {
        says("all that is SEEN: of other PERSONS, too");
        NewsHampers x = laid("p0,0,1,1;p0,0,9,1;");
        x.seen(9, 1, 0);
        due("it is so", x.kinds(0), 15);
        x.seen(9, 1, 1);
        due("it is not so", x.kinds(0), 0);
        x = laid("p3,10,40,1;p3,0,3,1;h3;");
        x.send(0);
        x.pass(1);
        x.send(1);
        // person 0 takes the last in stock on day 2 if it is clever, so that person 1 has one, else two
        x.seen(5, 1, 1);
        due("told on 5", x.kinds(0), 8);
        x.forget();
        x.seen(5, 1, 0);
        due("not told on 5", x.kinds(0), 7);
    }

    private static void daysOfOne() {
        says("DAYS of one (0 to 40), on which NEWS comes, in place of its own, likewise: how many; the least; none");
        for (int own = 0; own <= 40; own += 20) {
            NewsHampers x = laid("p0,0," + own + ",1;");
            due("how many", x.days(0, 0), 41);
            due("the least", x.days(0, 1), 0);
            for (int n = 0; n <= 40; n++) {
                x.seen(n, 0, 1);
                due("told behind " + n, x.days(0, 0), n);
                due("the least", x.days(0, 1), n == 0 ? NONE : 0);
                x.forget();
                x.seen(n, 0, 0);
                due("not told behind " + n, x.days(0, 0), 41 - n);
                due("the least", x.days(0, 1), n);
                x.forget();
            }
            due("its own stays", x.person(0, 2), own);
        }
    }

    private static void daysFromTo() {
        says("DAYS .. by which all that is SEEN would be so");
        NewsHampers x = laid("p0,0,5,1;h1;");
        x.seen(7, 0, 0);
        x.seen(8, 0, 1);
        due("7 alone", x.days(0, 0), 1);
        due("7", x.days(0, 1), 7);
        x.seen(9, 0, 0);
        due("none", x.days(0, 0), 0);
        due("none", x.days(0, 1), NONE);
        x.forget();
        x.send(0);
        x.seen(3, 0, 0);
        x.seen(4, 0, 1);
        due("it eats on 1 and 2", x.days(0, 0), 3);
        due("from 1 on", x.days(0, 1), 1);
        x.forget();
        x.pass(6);
        due("told on 5", x.person(0, 7), 5);
        x.seen(0, 0, 1);
        due("it is told whatever it is", x.days(0, 0), 41);
        x = laid("p0,0,40,1;");
        x.pass(5);
        x.seen(1, 0, 1);
        due("what would be of a day ahead of now", x.days(0, 0), 6);
        due("the least", x.days(0, 1), 0);
        x.forget();
        x.seen(40, 0, 0);
        due("none is as late", x.days(0, 1), NONE);
        x.forget();
        x.seen(35, 0, 0);
        due("40 alone", x.days(0, 1), 40);
        due("40 alone", x.days(0, 0), 1);
    }

    private static void daysBounds() {
        says("DAYS: how many (what = 0), the least (1; NONE). BAD.");
        NewsHampers x = laid("p0,0,3,1;p0,0,3,1;");
        int[] bad = {-1, 2, Integer.MIN_VALUE, Integer.MAX_VALUE};
        for (int b : bad) {
            due("days(" + b + ", 0)", x.days(b, 0), BAD);
            due("days(" + b + ", 1)", x.days(b, 1), BAD);
            due("days(0, " + b + ")", x.days(0, b), BAD);
        }
        due("days(1, 0)", x.days(1, 0), 41);
        due("days(1, 1)", x.days(1, 1), 0);
    }

    private static void likelyIs(NewsHampers x, int p, int n, int tenths, int above, int below) {
        String call = "likely(" + p + ", " + n + ", " + tenths + ", ";
        due(call + "0)", x.likely(p, n, tenths, 0), above);
        due(call + "1)", x.likely(p, n, tenths, 1), below);
    }

    private static void likelyBounds() {
        says("LIKELY for a PERSON and n (0 to 7) .. x (0 to 10) .. above (part = 0), below (1). BAD.");
        NewsHampers x = laid("p0,0,3,1;p0,0,3,1;");
        int[] far = {Integer.MIN_VALUE, Integer.MAX_VALUE};
        int[][] bad = {{-1, 0, 0, 0}, {2, 0, 0, 0}, {0, -1, 0, 0}, {0, 8, 0, 0}, {0, 0, -1, 0}, {0, 0, 11, 0},
            {0, 0, 0, -1}, {0, 0, 0, 2}, {far[0], 0, 0, 0}, {far[1], 0, 0, 0}, {0, far[0], 0, 0}, {0, far[1], 0, 0},
            {0, 0, far[0], 0}, {0, 0, far[1], 0}, {0, 0, 0, far[0]}, {0, 0, 0, far[1]}, {0, 32, 5, 0}};
        for (int[] b : bad) {
            due("likely(" + b[0] + ", " + b[1] + ", " + b[2] + ", " + b[3] + ")",
                x.likely(b[0], b[1], b[2], b[3]), BAD);
        }
        likelyIs(x, 0, 0, 0, 0, 1);
        likelyIs(x, 1, 7, 10, 0, 1);
        x.send(1);
        likelyIs(x, 1, 0, 10, 1, 1);
        likelyIs(x, 1, 7, 0, 1, 1);
        likelyIs(x, 0, 7, 0, 0, 1);
    }

    private static void likelyLowestTerms() {
        says("in lowest terms");
        NewsHampers x = laid("p0,0,7,1;h1;");
        x.send(0);
        x.pass(1);
        // it is too late only if there is frost on each of the days 1 to 7
        likelyIs(x, 0, 7, 1, 9999999, 10000000);
        likelyIs(x, 0, 7, 2, 78124, 78125);
        likelyIs(x, 0, 7, 3, 9997813, 10000000);
        likelyIs(x, 0, 7, 5, 127, 128);
        likelyIs(x, 0, 7, 9, 5217031, 10000000);
        likelyIs(x, 0, 7, 10, 0, 1);
        likelyIs(x, 0, 6, 10, 1, 1);
        x = laid("p0,0,1,1;");
        x.send(0);
        x.pass(1);
        // it must come in on the day that is next
        int[][] terms = {{1, 1}, {9, 10}, {4, 5}, {7, 10}, {3, 5}, {1, 2}, {2, 5}, {3, 10}, {1, 5}, {1, 10}, {0, 1}};
        for (int tenths = 0; tenths <= 10; tenths++) {
            likelyIs(x, 0, 1, tenths, terms[tenths][0], terms[tenths][1]);
            likelyIs(x, 0, 7, tenths, terms[tenths][0], terms[tenths][1]);
        }
    }

    private static void likelyNoFrostAllFrost() {
        says("by x (0 to 10) of ten: never, always");
        for (int late = 0; late <= 7; late++) {
            NewsHampers x = laid("p0,0," + (1 + late) + ",1;");
            x.send(0);
            for (int n = 0; n <= 7; n++) {
                likelyIs(x, 0, n, 0, 1, 1);
                // the first of the days is 0, and it comes in on 1 without frost
                likelyIs(x, 0, n, 10, Math.max(n, 1) <= 1 + late ? 1 : 0, 1);
            }
        }
    }

    private static void likelyNextDaysOnly() {
        says("on each of the next n DAYS");
        NewsHampers x = laid("p0,20,3,1;");
        x.send(0);
        // it must come in on day 3
        likelyIs(x, 0, 3, 7, 1, 1);
        likelyIs(x, 0, 4, 7, 3, 10);
        likelyIs(x, 0, 7, 7, 3, 10);
        x.pass(1);
        likelyIs(x, 0, 2, 7, 1, 1);
        likelyIs(x, 0, 3, 7, 3, 10);
        x.pass(2);
        likelyIs(x, 0, 0, 7, 1, 1);
        likelyIs(x, 0, 1, 7, 3, 10);
        x.pass(1);
        likelyIs(x, 0, 7, 7, 1, 1);
        x.pass(9);
        likelyIs(x, 0, 7, 10, 1, 1);
        due("told softly", x.person(0, 8), 1);
    }

    private static void likelyFirstDayWithout() {
        says("HAMPERS that .. were ahead of it .. (it comes in later, on the first DAY without)");
        NewsHampers x = laid("p0,0,2,1;");
        x.send(0);
        x.pass(1);
        // 84 of 100: it may come in on day 1, or else on day 2
        likelyIs(x, 0, 2, 4, 21, 25);
        likelyIs(x, 0, 7, 4, 21, 25);
        likelyIs(x, 0, 1, 4, 1, 1);
    }

    private static void likelyClever() {
        says("LIKELY, of a CLEVER one: it comes in twice");
        NewsHampers x = laid("p3,0,3,1;h1;");
        x.send(0);
        x.pass(1);
        // days 1, 2, 3: two without frost, by 1/2 each: 4 of 8
        likelyIs(x, 0, 3, 5, 1, 2);
        likelyIs(x, 0, 2, 5, 3, 4);
        likelyIs(x, 0, 1, 5, 1, 1);
        // by 1/10 each: 28 of 1000
        likelyIs(x, 0, 3, 9, 7, 250);
        x.pass(1);
        due("refused", x.person(0, 10), 1);
        likelyIs(x, 0, 2, 5, 3, 4);
        x = laid("p3,0,1,1;");
        x.send(0);
        likelyIs(x, 0, 7, 0, 0, 1);
    }

    private static void yearBounds() {
        says("A YEAR by z (0 to 9999) of n (1 to 60) DAYS: B (what = 0), TOLD (1), STOCK (2). BAD.");
        NewsHampers x = laid("p0,0,40,1;h5;");
        int[] far = {Integer.MIN_VALUE, Integer.MAX_VALUE};
        int[][] bad = {{-1, 1, 0}, {10000, 1, 0}, {0, 0, 0}, {0, 61, 0}, {0, 1, -1}, {0, 1, 3}, {0, -1, 0},
            {far[0], 1, 0}, {far[1], 1, 0}, {0, far[0], 0}, {0, far[1], 0}, {0, 1, far[0]}, {0, 1, far[1]}};
        for (int[] b : bad) {
            due("year(" + b[0] + ", " + b[1] + ", " + b[2] + ")", x.year(b[0], b[1], b[2]), BAD);
        }
        due("40 days", x.year(0, 40, 1), 0);
        due("60 days", x.year(9999, 60, 1), 1);
        due("one day", x.year(0, 1, 2), 4);
    }

    private static int drawOf(int z, int day) {
        BigInteger x = BigInteger.valueOf(7919).multiply(BigInteger.valueOf(z))
            .add(BigInteger.valueOf(6151).multiply(BigInteger.valueOf(day))).add(BigInteger.ONE);
        return x.multiply(x).mod(BigInteger.valueOf(65521)).divide(BigInteger.TWO).intValueExact();
    }

    private static void yearDraws() {
        says("DRAW being ((x times x) modulo 65521) by 2, cut, x 7919 z, 6151 (the DAY of these, 0 first) and 1 together");
        // told on day 0, so that nothing but buying is left behind it, and no end to that
        NewsHampers x = laid("p0,40,0,1;h0;");
        for (int z = 0; z <= 9999; z += 101) {
            int stock = 0;
            for (int day = 0; day < 4; day++) {
                stock += drawOf(z, day) / 8 % 4 == 3 ? 1 : 0;
            }
            due("year(" + z + ", 4, 2)", x.year(z, 4, 2), stock);
        }
        int all = 0;
        for (int day = 0; day < 60; day++) {
            all += drawOf(9999, day) / 8 % 4 == 3 ? 1 : 0;
        }
        due("year(9999, 60, 2)", x.year(9999, 60, 2), Math.min(20, all));
        // the DAY is that of these, not that which is next
        x.pass(7);
        for (int z = 0; z <= 9999; z += 303) {
            due("year(" + z + ", 1, 2), later", x.year(z, 1, 2), drawOf(z, 0) / 8 % 4 == 3 ? 1 : 0);
        }
    }

    /** The first z whose first draw is of this act and of this person of as many. */
    private static int drawing(int act, int p, int persons) {
        for (int z = 0; z <= 9999; z++) {
            int draw = drawOf(z, 0);
            if (draw / 8 % 4 == act && draw % persons == p) {
                return z;
            }
        }
        return -1;
    }

    private static void yearIfItCanBe() {
        says("it is SENT one, if it can be; if 2, CALLED back, if it can be; if 3, one is BOUGHT, if it can be");
        String three = "p0,40,40,1;p0,40,40,1;p0,40,40,1;";
        for (int p = 0; p < 3; p++) {
            int send = drawing(0, p, 3);
            int sendToo = drawing(1, p, 3);
            int call = drawing(2, p, 3);
            int buy = drawing(3, p, 3);
            NewsHampers x = laid(three + "h2;");
            due("sent by 0", x.year(send, 1, 2), 1);
            due("sent by 1", x.year(sendToo, 1, 2), 1);
            due("none to call back", x.year(call, 1, 2), 2);
            due("bought", x.year(buy, 1, 2), 3);
            x.send(p);
            x.pass(1);
            due("was sent one", x.year(send, 1, 2), 1);
            due("called back", x.year(call, 1, 2), 2);
            due("not of another", x.year(drawing(2, (p + 1) % 3, 3), 1, 2), 1);
            due("sent to another", x.year(drawing(0, (p + 1) % 3, 3), 1, 2), 0);
            x.send((p + 1) % 3);
            x.buy();
            due("one was sent this day", x.year(drawing(0, (p + 2) % 3, 3), 1, 2), 1);
            x = laid(three + "h0;");
            due("no stock", x.year(send, 1, 2), 0);
            due("bought", x.year(buy, 1, 2), 1);
            x = laid(three + "h20;");
            due("20 at most", x.year(buy, 1, 2), 20);
            x.send(p);
            x.buy();
            due("20 at most, called back", x.year(call, 1, 2), 20);
            passTo(x, 41);
            due("told", x.year(send, 1, 2), 20);
        }
    }

    private static void yearThen() {
        says("B of all who are SOFT then; how many are TOLD then; STOCK then");
        int send = drawing(0, 0, 1);
        NewsHampers x = laid("p0,0,1,7;h5;");
        due("sent ahead of day 0, and told behind day 2 at the earliest", x.year(send, 3, 0), 0);
        due("not told then", x.year(send, 3, 1), 0);
        x.send(0);
        due("it eats on 1 and 2", x.year(send, 3, 1), 0);
        x.pass(1);
        due("in on 1 if not called back", x.year(send, 2, 1), 0);
        due("told on 3", x.year(send, 3, 1), 1);
        due("softly", x.year(send, 3, 0), 7);
        x.pass(3);
        due("it was told softly ahead of them", x.year(send, 1, 0), 7);
        due("told ahead of them", x.year(send, 1, 1), 1);
        x = laid("p0,0,0,7;p0,0,1,2;p0,0,2,4;h0;");
        due("told on day 0", x.year(send, 1, 1), 1);
        due("told by day 1", x.year(send, 2, 1), 2);
        due("told by day 2", x.year(send, 3, 1), 3);
        due("none softly", x.year(send, 3, 0), 0);
    }

    private static void yearChangesNothing() {
        says("(nothing changes by it)");
        NewsHampers x = laid("p3,0,5,7;p0,30,40,1;h5;");
        x.send(0);
        x.pass(1);
        x.send(1);
        for (int z = 0; z < 50; z++) {
            x.year(z, 60, z % 3);
        }
        counts(x, 2, 1, 3, 2, 0, 0, 0, 0, 0, 3, 0, 23);
        persons(x, 0, 3, 0, 5, 7, 1, 1, 0, NONE, 0, 0, 0);
        persons(x, 1, 0, 30, 40, 1, 1, 5, 0, NONE, 0, 0, 0);
        due("one was sent this day", x.send(0), NO);
    }

    private static void twoKeptAtMost() {
        says("KEPT: how many. FULL. .. 2 at most");
        NewsHampers x = new NewsHampers();
        due("keep()", x.keep(), 1);
        x.buy();
        due("keep()", x.keep(), 2);
        x.buy();
        due("keep()", x.keep(), FULL);
        due("count(10)", x.count(10), 2);
        due("back()", x.back(), 1);
        due("not that which was refused", x.count(2), 5);
        x.buy();
        x.buy();
        due("keep()", x.keep(), 2);
        x.buy();
        due("keep()", x.keep(), FULL);
        due("back()", x.back(), 1);
        due("the newer", x.count(2), 7);
        due("back()", x.back(), 0);
        due("the older", x.count(2), 4);
        due("back()", x.back(), NO);
    }

    private static void allButTextAndSeen() {
        says("KEPT is all as it stands, but THE TEXT and what is SEEN");
        NewsHampers x = laid("p3,0,40,3;p1,0,40,1;p0,0,1,2;p0,0,0,4;h9;");
        x.send(2);
        x.pass(1);
        x.send(1);
        x.pass(1);
        x.send(0);
        x.pass(2);
        int[][] then = {{3, 0, 40, 3, 2, 4, 0, NONE, 0, 0, 1}, {1, 0, 40, 1, 0, NONE, 2, NONE, 0, 1, 0},
            {0, 0, 1, 2, 0, NONE, 0, 3, 1, 1, 0}, {0, 0, 0, 4, 0, NONE, 0, 0, 0, 0, 0}};
        x.seen(1, 0, 0);
        x.keep();
        x.pass(20);
        x.call(0);
        x.buy();
        x.seen(2, 0, 0);
        x.seen(3, 0, 0);
        x.write('h');
        int length = x.count(11);
        due("back()", x.back(), 0);
        for (int p = 0; p < 4; p++) {
            persons(x, p, then[p]);
        }
        counts(x, 4, 4, 5, 2, 1, 2, 1, 1, 3, 0, 0, length);
        x.forget();
        x.wipe();
        x.keep();
        x.seen(0, 0, 0);
        x.back();
        due("seen since", x.count(8), 1);
        due("THE TEXT is as it is now", x.count(11), 0);
        x.send(3);
        x.pass(1);
        x.keep();
        x.pass(3);
        x.back();
        due("back on a day on which none was sent", x.count(1), 5);
    }

    private static void keptLast() {
        says("As KEPT last (it is KEPT no more then): how many are left .. NO.");
        NewsHampers x = new NewsHampers();
        due("at first", x.back(), NO);
        x.pass(1);
        x.keep();
        x.pass(1);
        x.keep();
        x.pass(1);
        due("the last", x.back(), 1);
        due("count(1)", x.count(1), 2);
        due("count(10)", x.count(10), 1);
        due("the first", x.back(), 0);
        due("count(1)", x.count(1), 1);
        due("no more", x.back(), NO);
        due("count(1)", x.count(1), 1);
        x.keep();
        put(x, "p0,0,0,1;");
        x.lay();
        due("laid since", x.back(), NO);
        x.keep();
        x.buy();
        x.undo();
        due("undone since", x.back(), 0);
    }

    private static void nothingIsUndoneThen() {
        says("nothing is UNDONE then");
        NewsHampers x = new NewsHampers();
        x.buy();
        x.buy();
        x.keep();
        x.buy();
        due("count(9)", x.count(9), 3);
        x.back();
        due("count(9)", x.count(9), 0);
        due("undo()", x.undo(), NO);
        due("count(2)", x.count(2), 6);
        x.buy();
        due("undo()", x.undo(), 0);
        due("back, none being kept", x.back(), NO);
        x.buy();
        due("back()", x.back(), NO);
        due("what is refused leaves it", x.count(9), 1);
    }

    private static void countBounds() {
        says("0 PERSONS .. 11 letters of THE TEXT. BAD.");
        NewsHampers x = new NewsHampers();
        int[] bad = {-1, 12, 13, Integer.MIN_VALUE, Integer.MAX_VALUE};
        for (int what : bad) {
            due("count(" + what + ")", x.count(what), BAD);
        }
        counts(x, 5, 0, 4, 0, 0, 0, 0, 0, 0, 0, 0, 0);
    }

    private static void countsOfEach() {
        says("3 HAMPERS on their way (two of one PERSON are two), 4 who EAT, 5 TOLD, 6 SOFT");
        NewsHampers x = laid("p3,0,40,3;p3,0,40,1;p1,0,0,1;p1,0,2,1;h9;");
        x.send(3);
        x.pass(1);
        x.send(0);
        x.pass(1);
        x.send(1);
        x.pass(1);
        counts(x, 4, 3, 5, 3, 1, 1, 0, 1, 0, 6, 0, 41);
        x.pass(1);
        counts(x, 4, 4, 4, 2, 2, 1, 0, 2, 0, 7, 0, 41);
        x.pass(1);
        counts(x, 4, 5, 4, 0, 2, 1, 0, 2, 0, 8, 0, 41);
        x.pass(20);
        counts(x, 4, 25, 4, 0, 0, 2, 1, 2, 0, 8, 0, 41);
    }

    private static void countsOfSix() {
        says("6 at most: all of them counted");
        // they come in on 5, 6, 7, 7, 7, 7, and eat for four days
        NewsHampers x = laid("p1,40,8,9;p1,40,8,9;p1,40,8,9;p1,30,8,9;p1,20,8,9;p1,10,8,9;h6;");
        for (int p = 0; p < 6; p++) {
            if (p > 0) {
                x.pass(1);
            }
            x.send(p);
            due("on their way", x.count(3), p + 1);
        }
        counts(x, 6, 5, 0, 6, 0, 0, 0, 0, 0, 8, 0, 63);
        x.pass(2);
        counts(x, 6, 7, 0, 4, 2, 0, 0, 0, 0, 8, 0, 63);
        x.pass(1);
        counts(x, 6, 8, 0, 0, 6, 0, 0, 0, 0, 8, 0, 63);
        due("behind(0, 0)", x.behind(0, 0), 63);
        due("behind(60, 1)", x.behind(60, 1), 63);
        due("behind(60, 2)", x.behind(60, 2), 63);
        due("gentle()", x.gentle(), 54);
        x.pass(20);
        counts(x, 6, 28, 0, 0, 0, 6, 6, 0, 0, 8, 0, 63);
        due("year(0, 1, 0)", x.year(0, 1, 0), 54);
        due("year(0, 1, 1)", x.year(0, 1, 1), 6);
    }

    private static void refusedSoFar() {
        says("7 how often one REFUSED so far (CALLED back since, too)");
        NewsHampers x = laid("p3,0,40,3;p3,0,40,1;h9;");
        x.send(0);
        x.pass(2);
        due("one", x.count(7), 1);
        x.call(0);
        due("called back", x.count(7), 1);
        x.send(0);
        x.pass(2);
        due("the same again", x.count(7), 2);
        x.send(1);
        x.pass(2);
        due("another", x.count(7), 3);
        x.undo();
        due("undone", x.count(7), 2);
        x.pass(20);
        due("once each", x.count(7), 3);
    }
}
