/** Part 3 of the document and promises 12 to 17, sentence by sentence, at their edges. */
public final class ForesightEdgesTest extends EdgeChecks {
    public static void main(String[] args) {
        nothingElseBeingDone();
        beyondTheLastDay();
        behindBounds();
        behindNone();
        behindAsDaysGoBy();
        whenFirst();
        whenIsOneDayLess();
        gentleIsAdded();
        latestAsItTurnsOut();
        latestEdges();
        latestStockOrNot();
        latestRefused();
        orderBounds();
        orderOfNone();
        orderOfWhom();
        orderByStock();
        orderNotTold();
        orderOneADay();
        orderOfSeveralTheFirst();
        orderWithTheClever();
        needLeast();
        needInPlaceOfWhatIs();
        needDoubled();
        end();
    }

    private static void nothingElseBeingDone() {
        says("From now on, nothing else being done");
        NewsHampers x = laid("p0,0,3,4;p3,0,3,5;h9;");
        due("none is sent one", x.gentle(), 0);
        x.send(0);
        due("what is on its way comes in", x.behind(2, 0), 1);
        due("and is eaten", x.behind(3, 0), 0);
        due("gentle()", x.gentle(), 4);
        x.pass(1);
        x.send(1);
        due("refused, doubled and had", x.behind(3, 0), 2);
        due("two of them", x.behind(5, 0), 2);
        due("two of them eaten", x.behind(6, 0), 0);
        due("gentle()", x.gentle(), 9);
        due("stock stays as it is", x.count(2), 7);
        counts(x, 2, 1, 7, 2, 0, 0, 0, 0, 0, 3, 0, 21);
    }

    private static void beyondTheLastDay() {
        says("(beyond the last that may go by, too)");
        NewsHampers x = laid("p0,0,4,5;p0,0,40,1;h1;");
        x.send(0);
        passTo(x, 999);
        due("behind(60, 1)", x.behind(60, 1), 3);
        due("behind(60, 2)", x.behind(60, 2), 1);
        due("behind(60, 0)", x.behind(60, 0), 0);
        due("when(0)", x.when(0), 0);
        due("gentle()", x.gentle(), 5);
        due("order(-1)", x.order(-1), 5);
        due("order(0)", x.order(0), NONE);
        due("need()", x.need(), 0);
        due("latest(1)", x.latest(1), NO);
        due("seen(40, 0, 1)", x.seen(40, 0, 1), 1);
        due("kinds(0)", x.kinds(0), 15);
        due("days(0, 0)", x.days(0, 0), 41);
        due("likely above", x.likely(0, 7, 10, 0), 1);
        due("likely below", x.likely(0, 7, 10, 1), 1);
        due("year(9999, 60, 0)", x.year(9999, 60, 0), 5);
        due("year(9999, 60, 1)", x.year(9999, 60, 1), 2);
        due("count(1)", x.count(1), 999);
        // the first of the days by 3 is one on which one is bought
        due("year(3, 1, 2)", x.year(3, 1, 2), 1);
    }

    private static void behindBounds() {
        says("BEHIND n (0 to 60) DAYS: EATS (what = 0), TOLD (1), SOFT (2), as bits. BAD.");
        NewsHampers x = laid("p0,0,40,1;");
        int[] bad = {-1, 61, 62, Integer.MIN_VALUE, Integer.MAX_VALUE};
        for (int n : bad) {
            due("behind(" + n + ", 1)", x.behind(n, 1), BAD);
        }
        int[] badWhat = {-1, 3, 4, Integer.MIN_VALUE, Integer.MAX_VALUE};
        for (int what : badWhat) {
            due("behind(0, " + what + ")", x.behind(0, what), BAD);
        }
        due("behind(0, 1)", x.behind(0, 1), 0);
        due("behind(40, 1)", x.behind(40, 1), 0);
        due("behind(41, 1)", x.behind(41, 1), 1);
        due("behind(60, 1)", x.behind(60, 1), 1);
        due("behind(60, 0)", x.behind(60, 0), 0);
        due("behind(60, 2)", x.behind(60, 2), 0);
    }

    private static void behindNone() {
        says("BEHIND 0 DAYS");
        NewsHampers x = laid("p1,0,1,1;p0,0,0,1;p2,0,2,1;h9;");
        x.send(0);
        x.pass(1);
        due("told now", x.behind(0, 1), 2);
        x.send(2);
        x.pass(1);
        due("who eats now", x.behind(0, 0), 1);
        x.pass(4);
        due("all are told now", x.behind(0, 1), 7);
        due("softly now", x.behind(0, 2), 5);
    }

    private static void behindAsDaysGoBy() {
        says("who EATS, who is TOLD, who is SOFT (bits of PERSONS)");
        String text = "p0,0,0,1;p1,0,2,1;p2,10,3,1;p3,0,5,1;p0,20,7,1;p3,40,9,1;h9;";
        NewsHampers x = laid(text);
        NewsHampers y = laid(text);
        int[] sent = {1, 3, 2, 5};
        for (int p : sent) {
            due("send(" + p + ")", x.send(p), y.send(p));
            x.pass(1);
            y.pass(1);
        }
        for (int n = 1; n <= 12; n++) {
            y.pass(1);
            for (int p = 0; p < 6; p++) {
                due("eats of " + p + " behind " + n, x.behind(n, 0) >> p & 1, y.person(p, 6) > 0 ? 1 : 0);
                due("told of " + p + " behind " + n, x.behind(n, 1) >> p & 1, y.person(p, 7) != NONE ? 1 : 0);
                due("soft of " + p + " behind " + n, x.behind(n, 2) >> p & 1, y.person(p, 8));
            }
        }
        due("1, 3 and 5, just in time", x.behind(60, 2), 2 + 8 + 32);
        due("all six", x.behind(60, 1), 63);
    }

    private static void whenFirst() {
        says("WHEN of a PERSON: behind how many DAYS (0 to 60) it is TOLD first");
        for (int news = 0; news <= 40; news++) {
            due("news of " + news, laid("p0,0," + news + ",1;").when(0), news + 1);
        }
        NewsHampers x = laid("p1,0,1,1;p0,0,0,1;");
        x.send(0);
        due("it eats from 1 to 4", x.when(0), 6);
        x.pass(1);
        due("is told already", x.when(1), 0);
        x.pass(20);
        due("is told already", x.when(0), 0);
        says("NONE; BAD.");
        due("when(-1)", x.when(-1), BAD);
        due("when(2)", x.when(2), BAD);
        due("when(MIN)", x.when(Integer.MIN_VALUE), BAD);
        due("when(MAX)", x.when(Integer.MAX_VALUE), BAD);
    }

    private static void whenIsOneDayLess() {
        says("WHEN: behind how many DAYS, from now on");
        NewsHampers x = laid("p3,30,6,1;h2;");
        x.send(0);
        // refused on 4, had on 5, eats two hampers from 5 to 8, told on 9
        for (int day = 0; day <= 10; day++) {
            due("when(0) on day " + day, x.when(0), 10 - day);
            x.pass(1);
        }
        due("when(0) behind it", x.when(0), 0);
    }

    private static void gentleIsAdded() {
        says("GENTLE: B of all who are SOFT behind 60 DAYS, added");
        NewsHampers x = laid("p0,0,9,9;p1,0,9,9;p2,0,9,9;p3,0,9,9;p0,0,9,9;p3,0,9,9;h20;");
        for (int p = 0; p < 6; p++) {
            due("gentle()", x.gentle(), 9 * p);
            x.send(p);
            x.pass(1);
        }
        due("all six", x.gentle(), 54);
        x.pass(20);
        due("all six, told", x.gentle(), 54);
        x = laid("p0,0,40,7;p0,0,1,1;p3,0,2,2;");
        due("of none", x.gentle(), 0);
        passTo(x, 39);
        due("those who are told hard", x.gentle(), 0);
        x.send(0);
        due("on the day of the news", x.gentle(), 7);
        x.undo();
        x.pass(1);
        x.send(0);
        due("a day too late", x.gentle(), 0);
        x = laid("p3,0,2,2;");
        x.send(0);
        due("refused, then on the day of the news", x.gentle(), 2);
        x = laid("p3,0,1,2;");
        x.send(0);
        due("refused on the day of the news", x.gentle(), 0);
        x.pass(1);
        due("refused on the day that is next", x.gentle(), 0);
    }

    /** Sends it behind as many days for real, and one day later too. */
    private static void latestAsItTurnsOut() {
        says("the greatest n (0 to 40) such that, SENT one behind n DAYS, it is SOFT behind 60 DAYS; none");
        int[] allMiles = {0, 9, 10, 25, 40};
        int[] allNews = {0, 1, 2, 3, 4, 5, 6, 7, 20, 40};
        for (int kind = 0; kind < 4; kind++) {
            for (int miles : allMiles) {
                for (int news : allNews) {
                    String text = "p" + kind + "," + miles + "," + news + ",1;";
                    int want = news - miles / 10 - 1 - (kind == 3 ? 1 : 0);
                    int got = laid(text).latest(0);
                    due("latest(0) of " + text, got, want < 0 ? NONE : want);
                    due("sent behind as many", softIfSentBehind(text, want), want < 0 ? 0 : 1);
                    due("sent a day later", softIfSentBehind(text, Math.max(0, want + 1)), 0);
                }
            }
        }
    }

    private static int softIfSentBehind(String text, int n) {
        NewsHampers x = laid(text);
        if (n > 0) {
            passTo(x, n);
        }
        x.send(0);
        passTo(x, 60);
        return x.person(0, 8);
    }

    private static void latestEdges() {
        says("LATEST: n (0 to 40); NONE");
        due("the greatest there is", laid("p0,9,40,1;").latest(0), 39);
        due("of a clever one", laid("p3,9,40,1;").latest(0), 38);
        due("now", laid("p0,9,1,1;").latest(0), 0);
        due("too late at first", laid("p0,9,0,1;").latest(0), NONE);
        due("too far", laid("p0,40,4,1;").latest(0), NONE);
        due("just near enough", laid("p0,40,5,1;").latest(0), 0);
        NewsHampers x = laid("p0,0,6,1;");
        for (int day = 0; day <= 5; day++) {
            due("on day " + day, x.latest(0), 5 - day);
            x.pass(1);
        }
        due("on the day of the news", x.latest(0), NONE);
        x.pass(1);
        due("told", x.latest(0), NO);
    }

    private static void latestStockOrNot() {
        says("(STOCK or not) .. (out of no STOCK, whatever else is SENT that DAY)");
        due("of no stock", laid("p0,0,9,1;h0;").latest(0), 8);
        due("a clever one, of no stock", laid("p3,0,9,1;h0;").latest(0), 7);
        NewsHampers x = laid("p0,0,1,1;p0,0,1,1;h1;");
        x.send(1);
        due("one was sent this day, and none is left", x.latest(0), 0);
    }

    private static void latestRefused() {
        says("NONE; BAD; NO: it was sent one, is TOLD");
        NewsHampers x = laid("p3,0,9,1;p0,0,0,1;p0,40,2,1;h5;");
        due("latest(-1)", x.latest(-1), BAD);
        due("latest(3)", x.latest(3), BAD);
        due("latest(MAX)", x.latest(Integer.MAX_VALUE), BAD);
        due("none", x.latest(2), NONE);
        x.send(0);
        due("on its way", x.latest(0), NO);
        x.pass(2);
        due("refused", x.latest(0), NO);
        due("told", x.latest(1), NO);
        x.pass(1);
        due("has had one", x.latest(0), NO);
        due("told, too far ahead of it too", x.latest(2), NO);
        x.undo();
        x.call(0);
        due("called back", x.latest(0), 5);
    }

    private static void orderIs(String call, NewsHampers x, int most, int... ks) {
        due("order(-1), " + call, x.order(-1), most);
        for (int k = 0; k < 6; k++) {
            due("order(" + k + "), " + call, x.order(k), k < ks.length ? ks[k] : NONE);
        }
    }

    private static void orderBounds() {
        says("ORDER: how much (k = -1), the k-th (0 to 5; NONE: there are not so many). BAD.");
        NewsHampers x = laid("p0,0,40,1;p0,0,40,1;p0,0,40,1;p0,0,40,1;p0,0,40,1;p0,0,40,1;h6;");
        int[] bad = {-2, -3, 6, 7, Integer.MIN_VALUE, Integer.MAX_VALUE};
        for (int k : bad) {
            due("order(" + k + ")", x.order(k), BAD);
        }
        orderIs("six", x, 6, 0, 1, 2, 3, 4, 5);
        x = laid("p0,0,40,1;");
        orderIs("one", x, 1, 0);
        due("order(6)", x.order(6), BAD);
    }

    private static void orderOfNone() {
        says("NONE: there are not so many");
        NewsHampers x = laid("p0,0,2,5;p0,0,0,1;h9;");
        x.send(0);
        x.pass(1);
        orderIs("sent one, told", x, 5);
        x.pass(9);
        orderIs("all are told", x, 5);
        orderIs("told hard", passed(laid("p0,0,0,5;"), 1), 0);
    }

    private static NewsHampers passed(NewsHampers x, int n) {
        x.pass(n);
        return x;
    }

    private static void orderOfWhom() {
        says("of all orders of PERSONS that can be SENT one now (STOCK, one a DAY aside)");
        NewsHampers x = laid("p0,0,9,1;p0,0,0,2;p0,0,9,3;p0,0,9,4;h1;");
        orderIs("by one in stock", x, 4, 3, 0, 1, 2);
        x.send(2);
        orderIs("by none", x, 3, 0, 1, 3);
        x.pass(1);
        orderIs("one is told", x, 3, 0, 3);
        x.call(2);
        orderIs("called back", x, 4, 3, 0, 2);
        x.undo();
        x.pass(3);
        orderIs("it has had it", x, 3, 0, 3);
        orderIs("who cannot be soft is in it too", laid("p0,40,4,9;p0,0,1,1;"), 1, 1, 0);
    }

    private static void orderByStock() {
        says("if it can be then (by STOCK; else it is sent none)");
        String three = "p0,0,40,1;p0,0,40,2;p0,0,40,4;";
        orderIs("of none", laid(three + "h0;"), 0, 0, 1, 2);
        orderIs("of one", laid(three + "h1;"), 4, 2, 0, 1);
        orderIs("of two", laid(three + "h2;"), 6, 1, 2, 0);
        orderIs("of three", laid(three + "h3;"), 7, 0, 1, 2);
        orderIs("of 20", laid(three + "h20;"), 7, 0, 1, 2);
    }

    private static void orderNotTold() {
        says("if it can be then (as not TOLD; else it is sent none)");
        // 0, told by its turn on day 1, takes none, so that one is left for 2
        orderIs("told on day 0", laid("p0,0,0,9;p0,0,40,1;p0,0,40,2;h2;"), 3, 1, 0, 2);
        // 0 can be sent one ahead of day 0, by which it is not soft: it must not be first
        orderIs("first it would take one", laid("p0,0,0,9;p0,0,40,2;h1;"), 2, 1, 0);
        orderIs("enough for all", laid("p0,0,0,9;p0,0,40,2;h2;"), 2, 0, 1);
        // on the day of its news it can be sent one still, in vain
        orderIs("second it would take one", laid("p0,0,1,9;p0,0,1,8;p0,0,40,1;h2;"), 10, 0, 2, 1);
    }

    private static void orderOneADay() {
        says("if it can be then (as one a DAY; else it is sent none)");
        NewsHampers x = laid("p0,0,40,1;p0,0,40,2;p0,0,40,3;h9;");
        x.send(0);
        orderIs("one was sent this day", x, 4, 1, 2);
        x.call(0);
        orderIs("and called back", x, 5, 0, 1, 2);
        x.pass(1);
        orderIs("on the next day", x, 6, 0, 1, 2);
        x = laid("p0,0,40,1;p0,0,40,2;h9;");
        x.send(0);
        orderIs("the only one's turn is gone", x, 1, 1);
        orderIs("one on each day", laid("p0,0,1,1;p0,0,1,2;p0,0,2,3;p0,0,2,4;h9;"), 7, 2, 3, 0, 1);
    }

    private static void orderOfSeveralTheFirst() {
        says("of several the first (by which is first, the lowest ahead, then second, ..)");
        orderIs("all alike", laid("p0,0,40,1;p0,0,40,1;p0,0,40,1;p0,0,40,1;h2;"), 2, 0, 1, 2, 3);
        orderIs("no difference", laid("p0,0,0,1;p0,0,0,1;p0,0,0,1;h2;"), 0, 0, 1, 2);
        orderIs("the last one first", laid("p0,0,40,1;p0,0,40,1;p0,0,1,1;h3;"), 3, 2, 0, 1);
        orderIs("by day 2", laid("p0,0,40,1;p0,0,40,1;p0,0,2,1;h3;"), 3, 0, 2, 1);
        orderIs("by day 3", laid("p0,0,40,1;p0,0,40,1;p0,0,3,1;h3;"), 3, 0, 1, 2);
        orderIs("backwards", laid("p0,0,6,1;p0,0,5,1;p0,0,4,1;p0,0,3,1;p0,0,2,1;p0,0,1,1;h6;"), 6, 5, 4, 3, 2, 1, 0);
        orderIs("one cannot be", laid("p0,0,1,5;p0,0,1,5;p0,0,2,5;h3;"), 10, 0, 2, 1);
    }

    private static void orderWithTheClever() {
        says("GENTLE is most: what the CLEVER take of STOCK");
        // sent ahead of day 0, a clever one near by takes a second of the stock on day 1
        orderIs("clever ones last", laid("p3,0,40,1;p0,0,40,1;p0,0,40,1;h3;"), 3, 1, 0, 2);
        orderIs("enough", laid("p3,0,40,1;p0,0,40,1;p0,0,40,1;h4;"), 3, 0, 1, 2);
        orderIs("too heavy to wait", laid("p3,0,2,9;p0,0,40,1;p0,0,40,2;h3;"), 11, 0, 2, 1);
        orderIs("far off it takes it late", laid("p3,10,40,1;p0,0,40,1;p0,0,40,1;h3;"), 3, 0, 1, 2);
    }

    private static void needLeast() {
        says("NEED: the least STOCK (0 to 20) by which ORDER is as much as by a STOCK of 20");
        due("all are told", passed(laid("p0,0,0,1;h7;"), 1).need(), 0);
        due("none can be soft", laid("p0,40,4,1;p3,0,1,1;h7;").need(), 0);
        due("one", laid("p0,0,40,1;h7;").need(), 1);
        due("one of two", laid("p0,0,1,1;p0,0,1,1;h7;").need(), 1);
        due("six", laid("p0,0,40,1;p0,0,40,1;p0,0,40,1;p0,0,40,1;p0,0,40,1;p0,0,40,1;h20;").need(), 6);
        NewsHampers x = laid("p0,0,9,1;p0,0,9,2;h5;");
        x.send(0);
        due("one was sent this day", x.need(), 0);
        x.pass(1);
        due("on the next day", x.need(), 1);
    }

    private static void needInPlaceOfWhatIs() {
        says("STOCK (0 to 20), in place of what is");
        for (int stock = 0; stock <= 20; stock += 5) {
            NewsHampers x = laid("p0,0,40,1;p0,0,40,1;p0,0,40,1;h" + stock + ";");
            due("need() of " + stock, x.need(), 3);
            due("stock stays", x.count(2), stock);
        }
    }

    private static void needDoubled() {
        says("NEED, of CLEVER ones");
        due("one takes one, if it is there", laid("p3,0,40,1;").need(), 1);
        due("the second is sent ahead of that", laid("p3,0,40,1;p3,0,40,1;").need(), 2);
        // each but the last two doubles ahead of the last one's turn
        due("three", laid("p3,0,40,1;p3,0,40,1;p3,0,40,1;").need(), 4);
        String six = "p3,0,40,9;p3,0,40,9;p3,0,40,9;p3,0,40,9;p3,0,40,9;p3,0,40,9;";
        due("six", laid(six + "h0;").need(), 10);
        due("by 9", laid(six + "h9;").order(-1), 45);
        due("by 10", laid(six + "h10;").order(-1), 54);
    }
}
