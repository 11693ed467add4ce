/** Each promise of the document by answers reckoned by hand: ordinary calls, the edges, wrong numbers. */
public final class PromiseTest {
    private static final int BAD = -1, NO = -2, FULL = -3, NONE = -4;
    private static int wrong = 0;
    private static int promise = 0;

    public static void main(String[] args) {
        newObject();
        write();
        wipe();
        fault();
        lay();
        person();
        send();
        call();
        buy();
        pass();
        dayOfEachKind();
        dayDoubling();
        undo();
        behind();
        when();
        gentle();
        latest();
        order();
        need();
        seen();
        forget();
        kinds();
        days();
        likely();
        likelyClever();
        year();
        keep();
        back();
        count();
        wrongNumbersChangeNothing();
        System.out.println(wrong == 0 ? "all promises hold" : wrong + " answers are not as due");
        if (wrong != 0) {
            System.exit(1);
        }
    }

    private static void due(String call, int got, int want) {
        if (got != want) {
            wrong++;
            System.out.println("promise " + promise + ": " + call + " answered " + got + ", due is " + want);
        }
    }

    private static NewsHampers written(String text) {
        NewsHampers x = new NewsHampers();
        put(x, text);
        return x;
    }

    private static void put(NewsHampers x, String text) {
        for (int i = 0; i < text.length(); i++) {
            x.write(text.charAt(i));
        }
    }

    private static NewsHampers laid(String text) {
        NewsHampers x = written(text);
        if (x.lay() < 1) {
            wrong++;
            System.out.println("promise " + promise + ": not laid: " + text);
        }
        return x;
    }

    private static void newObject() {
        promise = 1;
        NewsHampers x = new NewsHampers();
        int[] counts = {5, 0, 4, 0, 0, 0, 0, 0, 0, 0, 0, 0};
        for (int what = 0; what < counts.length; what++) {
            due("count(" + what + ")", x.count(what), counts[what]);
        }
        int[][] persons = {{0, 5, 6, 4}, {1, 12, 5, 7}, {2, 33, 9, 3}, {3, 20, 8, 9}, {0, 0, 2, 2}};
        for (int p = 0; p < persons.length; p++) {
            for (int what = 0; what < 4; what++) {
                due("person(" + p + ", " + what + ")", x.person(p, what), persons[p][what]);
            }
        }
        due("undo()", x.undo(), NO);
        due("back()", x.back(), NO);
        due("wipe()", x.wipe(), 0);
    }

    private static void write() {
        promise = 2;
        NewsHampers x = new NewsHampers();
        int[] bad = {31, 127, 0, -1, 255, 65536 + 'p', Integer.MIN_VALUE, Integer.MAX_VALUE};
        for (int letter : bad) {
            due("write(" + letter + ")", x.write(letter), BAD);
        }
        due("write(32)", x.write(32), 1);
        due("write(126)", x.write(126), 2);
        for (int length = 3; length <= 200; length++) {
            due("write(;)", x.write(';'), length);
        }
        due("write(;), full", x.write(';'), FULL);
        due("write(31), full", x.write(31), BAD);
        due("count(11)", x.count(11), 200);
        due("wipe()", x.wipe(), 200);
        due("write(;)", x.write(';'), 1);
    }

    private static void wipe() {
        promise = 3;
        NewsHampers x = written("h1;x");
        due("fault()", x.fault(), 3);
        due("wipe()", x.wipe(), 4);
        due("wipe() again", x.wipe(), 0);
        due("fault()", x.fault(), NONE);
        put(x, "h");
        due("nothing of the old text is behind the new", x.fault(), 0);
        due("count(11)", x.count(11), 1);
    }

    private static void fault() {
        promise = 4;
        String p = "p0,0,0,1;";
        String[] fine = {"", p, "p3,40,40,9;", "p00,00,00,01;", "p03,09,08,07;h00;", "h20;", "h0;h20;h5;",
            "h1;" + p + "h2;" + p, p + p + p + p + p + p};
        for (String text : fine) {
            due("fault() of " + text, written(text).fault(), NONE);
        }
        String[] atOnce = {"h21;", "h;", "h1", "h", "h001;", "h1,2;", "h1,;", "h,1;", "h-1;", "H1;", "x1;", ";", ",", "1;",
            " h1;", "h 1;", "h1 ;", "p", "p0", "p0,0,0,1", "p0,0,0;", "p0,0,0,1,1;", "p0,0,0,;", "p,0,0,1;", "p0;0,0,1;",
            "p0,0,0,0;", "p0,0,0,10;", "p4,0,0,1;", "p0,41,0,1;", "p0,0,41,1;", "p0,99,0,1;", "p0,000,0,1;",
            "p0, 0,0,1;", "P0,0,0,1;", "p0,0,0,1,h1;", "p0,0h1;", "h1h2;"};
        for (String text : atOnce) {
            due("fault() of " + text, written(text).fault(), 0);
            due("fault() of h5; and " + text, written("h5;" + text).fault(), 3);
        }
        due("a ; too many", written(p + ";").fault(), 9);
        due("a blank", written(p + " ").fault(), 9);
        due("the first of two", written("h1;h2;x;h21;").fault(), 6);
        due("a seventh", written(p + p + p + p + p + p + p).fault(), 54);
        due("a seventh behind h", written(p + p + p + "h1;" + p + p + p + "h2;" + p).fault(), 60);
        NewsHampers x = new NewsHampers();
        for (int i = 0; i < 66; i++) {
            put(x, "h1;");
        }
        due("66 items", x.fault(), NONE);
        put(x, "h1");
        due("200 letters, the last item without its end", x.fault(), 198);
    }

    private static void lay() {
        promise = 5;
        NewsHampers x = new NewsHampers();
        due("of an empty text", x.lay(), NO);
        put(x, "h7;");
        due("without a person", x.lay(), NO);
        due("nothing changed", x.count(0), 5);
        due("nor the stock", x.count(2), 4);
        put(x, "p1,2,3,4;");
        due("lay()", x.lay(), 1);
        due("count(2)", x.count(2), 7);
        due("the text stays", x.count(11), 12);
        due("lay() again", x.lay(), 1);
        put(x, "x");
        due("with a fault", x.lay(), NO);
        due("person(0, 0)", x.person(0, 0), 1);
        due("stock without h", laid("p0,0,0,1;").count(2), 3);
        due("the last h", laid("h1;p0,0,0,1;h9;h2;").count(2), 2);
        due("six", laid("p0,0,0,1;p0,0,0,1;p0,0,0,1;p0,0,0,1;p0,0,0,1;p0,0,0,1;").count(0), 6);
        x = laid("p3,0,9,1;p0,0,0,1;");
        x.keep();
        x.send(0);
        x.pass(2);
        x.seen(1, 0, 0);
        x.buy();
        x.send(1);
        due("lay() in the middle", x.lay(), 2);
        int[] counts = {2, 0, 3, 0, 0, 0, 0, 0, 0, 0, 0, 18};
        for (int what = 0; what < counts.length; what++) {
            due("count(" + what + ") then", x.count(what), counts[what]);
        }
        due("person(0, 10)", x.person(0, 10), 0);
        due("person(1, 7)", x.person(1, 7), NONE);
        due("one may be sent on day 0 again", x.send(0), 1);
        due("lay(), one sent this day", x.lay(), 2);
        due("one may be sent", x.send(1), 1);
        x = laid("p1,0,9,1;p2,0,1,1;");
        x.send(1);
        x.pass(1);
        x.send(0);
        x.pass(2);
        due("eats", x.count(4), 1);
        due("soft", x.count(6), 1);
        due("lay() then", x.lay(), 2);
        due("nobody eats", x.count(4), 0);
        due("nobody is soft", x.count(6), 0);
        due("nobody has had one", x.person(0, 9) + x.person(1, 9), 0);
    }

    private static void person() {
        promise = 6;
        NewsHampers x = laid("p3,15,9,8;p0,0,0,1;h1;");
        int[] first = {3, 15, 9, 8, 0, NONE, 0, NONE, 0, 0, 0};
        persons(x, 0, first);
        x.send(0);
        persons(x, 0, new int[] {3, 15, 9, 8, 1, 2, 0, NONE, 0, 0, 0});
        x.pass(3);
        persons(x, 0, new int[] {3, 15, 9, 8, 1, 3, 0, NONE, 0, 0, 1});
        persons(x, 1, new int[] {0, 0, 0, 1, 0, NONE, 0, 0, 0, 0, 0});
        x.pass(1);
        persons(x, 0, new int[] {3, 15, 9, 8, 0, NONE, 1, NONE, 0, 1, 1});
        x.pass(6);
        persons(x, 0, new int[] {3, 15, 9, 8, 0, NONE, 0, 9, 1, 1, 1});
        int[][] bad = {{-1, 0}, {2, 0}, {0, -1}, {0, 11}, {6, 0}, {Integer.MIN_VALUE, Integer.MAX_VALUE}};
        for (int[] b : bad) {
            due("person(" + b[0] + ", " + b[1] + ")", x.person(b[0], b[1]), BAD);
        }
    }

    private static void persons(NewsHampers x, int p, int[] want) {
        for (int what = 0; what < want.length; what++) {
            due("person(" + p + ", " + what + ")", x.person(p, what), want[what]);
        }
    }

    private static void send() {
        promise = 7;
        int[][] ways = {{0, 1}, {9, 1}, {10, 2}, {19, 2}, {20, 3}, {39, 4}, {40, 5}};
        for (int[] way : ways) {
            NewsHampers x = laid("p0," + way[0] + ",40,1;");
            due("send(0) from " + way[0] + " miles", x.send(0), way[1]);
            x.undo();
            x.pass(7);
            due("seven days on", x.send(0), 7 + way[1]);
        }
        NewsHampers x = laid("p0,30,40,1;p0,0,1,1;p0,0,40,1;p0,0,40,1;h2;");
        due("send(-1)", x.send(-1), BAD);
        due("send(4)", x.send(4), BAD);
        due("send(0)", x.send(0), 4);
        due("one less", x.count(2), 1);
        due("sent one", x.send(0), NO);
        due("one a day", x.send(2), NO);
        x.call(0);
        due("called back since, too", x.send(2), NO);
        due("nor the same", x.send(0), NO);
        x.pass(1);
        due("the next day", x.send(0), 5);
        x.pass(1);
        due("told", x.send(1), NO);
        due("person(1, 7)", x.person(1, 7), 1);
        due("send(2)", x.send(2), 3);
        x.pass(1);
        due("no stock", x.send(3), NO);
        x.buy();
        due("bought", x.send(3), 4);
        x.buy();
        x.pass(3);
        due("has had one", x.send(2), NO);
        x = laid("p0,0,3,1;");
        x.pass(3);
        due("on the day of the news", x.send(0), 4);
    }

    private static void call() {
        promise = 8;
        NewsHampers x = laid("p0,30,3,1;p3,0,40,1;h2;");
        due("call(-1)", x.call(-1), BAD);
        due("call(2)", x.call(2), BAD);
        due("none is on its way", x.call(0), NO);
        x.send(0);
        due("call(0)", x.call(0), 2);
        due("again", x.call(0), NO);
        due("person(0, 5)", x.person(0, 5), NONE);
        x.pass(1);
        due("sent again", x.send(0), 5);
        x.pass(3);
        due("of one that is told", x.call(0), 2);
        due("still told", x.send(0), NO);
        due("send(1)", x.send(1), 5);
        x.pass(2);
        due("two", x.person(1, 4), 2);
        due("call(1)", x.call(1), 2);
        due("refused none", x.person(1, 10), 0);
        due("count(7)", x.count(7), 1);
        due("send(1)", x.send(1), 7);
        x.pass(2);
        due("refused once more", x.count(7), 2);
        x.pass(1);
        due("it has come in", x.call(1), NO);
        x = laid("p3,0,40,1;h20;");
        x.send(0);
        x.pass(2);
        x.buy();
        due("20 at most", x.call(0), 20);
        x = laid("p0,0,40,1;h20;");
        x.send(0);
        x.buy();
        due("20 at most", x.call(0), 20);
        due("undone", x.undo(), 2);
        due("back on its way", x.count(3), 1);
    }

    private static void buy() {
        promise = 9;
        NewsHampers x = laid("p0,0,40,1;h18;");
        due("buy()", x.buy(), 19);
        due("buy()", x.buy(), 20);
        due("buy()", x.buy(), FULL);
        due("nothing to undo by it", x.count(9), 2);
        x.send(0);
        due("buy()", x.buy(), 20);
    }

    private static void pass() {
        promise = 10;
        NewsHampers x = new NewsHampers();
        int[] bad = {0, -1, 21, Integer.MAX_VALUE, Integer.MIN_VALUE};
        for (int n : bad) {
            due("pass(" + n + ")", x.pass(n), BAD);
        }
        due("pass(2)", x.pass(2), 0);
        due("pass(1)", x.pass(1), 1);
        due("pass(3), person 1", x.pass(3), 1);
        due("pass(20)", x.pass(20), 3);
        due("count(1)", x.count(1), 26);
        for (int i = 0; i < 48; i++) {
            x.pass(20);
        }
        due("count(1)", x.count(1), 986);
        due("above 999", x.pass(14), NO);
        due("bad first", x.pass(21), BAD);
        due("to 999", x.pass(13), 0);
        due("one more", x.pass(1), NO);
        due("count(1)", x.count(1), 999);
        due("behind(60, 1) beyond", x.behind(60, 1), 31);
    }

    /** What each kind eats by one hamper: news of the day on which it comes in waits as long. */
    private static void dayOfEachKind() {
        promise = 10;
        int[] toldOn = {1 + 2, 1 + 4, 1 + 1, 2 + 2};
        for (int kind = 0; kind < 4; kind++) {
            NewsHampers x = laid("p" + kind + ",0," + (kind == 3 ? 2 : 1) + ",5;h1;");
            x.send(0);
            x.pass(20);
            due("told, kind " + kind, x.person(0, 7), toldOn[kind]);
            due("soft, kind " + kind, x.person(0, 8), 1);
            x = laid("p" + kind + ",0," + (kind == 3 ? 1 : 0) + ",5;h1;");
            x.send(0);
            x.pass(20);
            due("too late, kind " + kind, x.person(0, 7), kind == 3 ? 1 : 0);
            due("not soft, kind " + kind, x.person(0, 8), 0);
            due("it has it all the same", x.person(0, 9), 1);
        }
        NewsHampers x = laid("p1,0,9,5;");
        x.send(0);
        int[] eats = {0, 3, 2, 1, 0, 0};
        for (int left : eats) {
            x.pass(1);
            due("person(0, 6)", x.person(0, 6), left);
        }
        due("news later than the meal", x.pass(3), 0);
        due("told on its day", x.pass(1), 1);
        due("soft", x.count(6), 1);
    }

    /** Person 0 first: the last one in stock goes to it. */
    private static void dayDoubling() {
        promise = 10;
        NewsHampers x = laid("p3,0,40,1;p3,10,40,1;p3,0,40,1;h3;");
        x.send(1);
        x.pass(1);
        x.send(0);
        x.pass(2);
        due("of person 0", x.person(0, 4), 2);
        due("of person 1", x.person(1, 4), 1);
        due("both refused", x.count(7), 2);
        due("count(2)", x.count(2), 0);
        due("count(3)", x.count(3), 3);
        x.pass(1);
        due("two feed four days", x.person(0, 6), 3);
        due("one feeds two", x.person(1, 6), 1);
    }

    private static void undo() {
        promise = 11;
        NewsHampers x = laid("p3,0,5,9;p0,0,40,1;h2;");
        due("undo()", x.undo(), NO);
        x.send(0);
        x.pass(2);
        x.call(0);
        x.buy();
        due("count(9)", x.count(9), 4);
        due("of buy", x.undo(), 3);
        due("count(2)", x.count(2), 2);
        due("of call", x.undo(), 2);
        persons(x, 0, new int[] {3, 0, 5, 9, 2, 2, 0, NONE, 0, 0, 1});
        due("count(2)", x.count(2), 0);
        due("of days, all of one call", x.undo(), 1);
        due("count(1)", x.count(1), 0);
        due("count(7)", x.count(7), 0);
        due("one was sent this day", x.send(1), NO);
        due("of send", x.undo(), 0);
        due("none was", x.send(1), 1);
        x.undo();
        due("nothing is left", x.undo(), NO);
        for (int i = 0; i < 10; i++) {
            x.buy();
        }
        due("the last 8", x.count(9), 8);
        for (int left = 7; left >= 0; left--) {
            due("undo()", x.undo(), left);
        }
        due("undo()", x.undo(), NO);
        due("two stay", x.count(2), 4);
        x.seen(0, 0, 0);
        x.keep();
        x.buy();
        due("undo()", x.undo(), 0);
        due("what is seen stays", x.count(8), 1);
        due("what is kept stays", x.count(10), 1);
        x.send(9);
        x.call(0);
        x.pass(0);
        due("what was refused is none", x.count(9), 0);
    }

    private static void behind() {
        promise = 12;
        NewsHampers x = laid("p0,0,2,2;p1,0,1,3;p0,0,4,1;h2;");
        x.send(0);
        int[] eats = {0, 0, 1, 0, 0};
        int[] told = {0, 0, 2, 2, 3, 7};
        int[] soft = {0, 0, 0, 0, 1, 1};
        for (int n = 0; n < eats.length; n++) {
            due("behind(" + n + ", 0)", x.behind(n, 0), eats[n]);
        }
        for (int n = 0; n < told.length; n++) {
            due("behind(" + n + ", 1)", x.behind(n, 1), told[n]);
            due("behind(" + n + ", 2)", x.behind(n, 2), soft[n]);
        }
        due("behind(60, 1)", x.behind(60, 1), 7);
        due("nothing changes", x.count(1), 0);
        int[][] bad = {{-1, 0}, {61, 0}, {0, -1}, {0, 3}};
        for (int[] b : bad) {
            due("behind(" + b[0] + ", " + b[1] + ")", x.behind(b[0], b[1]), BAD);
        }
    }

    private static void when() {
        promise = 13;
        NewsHampers x = laid("p0,0,0,1;p2,0,40,1;p0,0,1,1;");
        due("when(0)", x.when(0), 1);
        due("when(1)", x.when(1), 41);
        due("when(2)", x.when(2), 2);
        x.send(2);
        due("when it eats", x.when(2), 4);
        x.pass(1);
        due("is told", x.when(0), 0);
        due("a day less", x.when(1), 40);
        due("when(-1)", x.when(-1), BAD);
        due("when(3)", x.when(3), BAD);
    }

    private static void gentle() {
        promise = 14;
        NewsHampers x = laid("p0,0,1,4;p3,0,3,5;p2,40,2,7;h9;");
        due("gentle()", x.gentle(), 0);
        x.send(0);
        due("gentle()", x.gentle(), 4);
        x.pass(1);
        x.send(1);
        due("gentle()", x.gentle(), 9);
        x.pass(1);
        x.send(2);
        due("too late", x.gentle(), 9);
        x.pass(20);
        due("as it was", x.gentle(), 9);
        x = laid("p3,0,3,5;");
        x.pass(2);
        x.send(0);
        due("refused till too late", x.gentle(), 0);
    }

    private static void latest() {
        promise = 15;
        NewsHampers x = laid("p0,0,40,1;p3,40,40,1;p2,19,2,1;p1,20,2,1;p3,0,2,1;h0;");
        int[] want = {39, 34, 0, NONE, 0};
        for (int p = 0; p < want.length; p++) {
            due("latest(" + p + ")", x.latest(p), want[p]);
        }
        due("latest(-1)", x.latest(-1), BAD);
        due("latest(5)", x.latest(5), BAD);
        x.pass(2);
        due("two days less", x.latest(0), 37);
        due("too late now", x.latest(2), NONE);
        x.pass(1);
        due("told", x.latest(2), NO);
        x.buy();
        x.send(0);
        due("sent one", x.latest(0), NO);
        due("whatever else is sent", x.latest(1), 31);
        x.call(0);
        due("called back", x.latest(0), 36);
        x.pass(1);
        x.send(0);
        x.pass(2);
        due("has had one", x.latest(0), NO);
    }

    private static void orderIs(NewsHampers x, int most, int... ks) {
        due("order(-1)", x.order(-1), most);
        for (int k = 0; k < 6; k++) {
            due("order(" + k + ")", x.order(k), k < ks.length ? ks[k] : NONE);
        }
    }

    private static void order() {
        promise = 16;
        orderIs(laid("p0,0,3,1;p0,0,1,2;p0,0,2,4;h9;"), 7, 1, 2, 0);
        orderIs(laid("p0,0,3,1;p0,0,1,2;p0,0,2,4;h2;"), 6, 1, 2, 0);
        orderIs(laid("p0,0,3,1;p0,0,1,2;p0,0,1,4;h9;"), 5, 2, 0, 1);
        orderIs(laid("p0,0,3,1;p0,0,1,2;p0,0,2,4;h0;"), 0, 0, 1, 2);
        orderIs(laid("p0,0,40,1;p0,0,40,2;p0,0,40,3;p0,0,40,4;p0,0,40,5;p0,0,40,6;h1;"), 6, 5, 0, 1, 2, 3, 4);
        orderIs(laid("p0,0,0,9;p0,0,1,2;h1;"), 2, 1, 0);
        // who is told by its turn takes none of the stock: 1 is told on day 0, so 2 gets the last one
        orderIs(laid("p0,0,40,1;p0,0,0,2;p0,0,40,3;h2;"), 4, 0, 1, 2);
        // a clever one that is first doubles on day 1, and none is left for the third
        orderIs(laid("p3,0,40,1;p0,0,40,2;p0,0,40,3;h3;"), 6, 1, 0, 2);
        // here it must be first
        orderIs(laid("p3,0,2,4;p0,0,40,2;p0,0,40,3;h3;"), 7, 0, 2, 1);
        orderIs(laid("p3,0,2,4;p0,0,40,2;p0,0,40,3;p0,0,40,1;h4;"), 9, 0, 1, 2, 3);
        // first or second, it doubles ahead of the fourth's turn; third, it would be too late
        orderIs(laid("p3,0,3,4;p0,0,40,2;p0,0,40,3;p0,0,40,1;h4;"), 9, 0, 1, 2, 3);
        orderIs(laid("p3,0,4,4;p0,0,40,2;p0,0,40,3;p0,0,40,1;h4;"), 10, 1, 2, 0, 3);
        NewsHampers x = laid("p0,0,1,3;p0,0,2,5;p0,0,40,1;h5;");
        x.send(2);
        orderIs(x, 6, 0, 1);
        x.call(2);
        orderIs(x, 6, 0, 1, 2);
        x.pass(1);
        orderIs(x, 6, 1, 0, 2);
        due("order(-2)", x.order(-2), BAD);
        due("order(6)", x.order(6), BAD);
        due("nothing changes", x.count(2), 5);
    }

    private static void need() {
        promise = 17;
        due("two", laid("p0,0,3,1;p0,0,1,2;h9;").need(), 2);
        due("two, of no stock", laid("p0,0,3,1;p0,0,1,2;h0;").need(), 2);
        due("none helps", laid("p0,0,0,1;p3,0,1,2;").need(), 0);
        due("one of two", laid("p0,0,1,1;p0,0,1,2;").need(), 1);
        // 0 must go first and doubles ahead of day 2
        due("a doubled one more", laid("p3,0,2,4;p0,0,40,2;p0,0,40,3;").need(), 4);
        due("a doubled one more", laid("p3,0,2,4;p0,0,40,2;p0,0,40,3;p0,0,40,1;").need(), 5);
        NewsHampers x = laid("p0,0,9,1;p0,0,9,2;h5;");
        x.send(0);
        due("one was sent this day, so the first is sent none by any", x.need(), 0);
        x.pass(1);
        due("one that was sent one needs none", x.need(), 1);
        due("nothing changes", x.count(2), 4);
    }

    private static void seen() {
        promise = 18;
        NewsHampers x = laid("p0,0,3,1;p0,0,5,1;");
        int[][] bad = {{-1, 0, 0}, {41, 0, 0}, {0, -1, 0}, {0, 2, 0}, {0, 0, -1}, {0, 0, 2}};
        for (int[] b : bad) {
            due("seen(" + b[0] + ", " + b[1] + ", " + b[2] + ")", x.seen(b[0], b[1], b[2]), BAD);
        }
        due("seen(0, 0, 0)", x.seen(0, 0, 0), 1);
        due("seen(40, 1, 1)", x.seen(40, 1, 1), 2);
        for (int size = 3; size <= 6; size++) {
            due("the same again", x.seen(40, 1, 1), size);
        }
        due("seen(0, 0, 0)", x.seen(0, 0, 0), FULL);
        due("bad first", x.seen(41, 0, 0), BAD);
        due("count(8)", x.count(8), 6);
        due("all fit", x.kinds(0), 15);
    }

    private static void forget() {
        promise = 19;
        NewsHampers x = new NewsHampers();
        due("forget()", x.forget(), 0);
        x.seen(0, 0, 1);
        x.seen(0, 1, 1);
        due("nothing fits", x.kinds(0), 0);
        due("forget()", x.forget(), 2);
        due("count(8)", x.count(8), 0);
        due("all fit", x.kinds(0), 15);
        due("seen(0, 0, 0)", x.seen(0, 0, 0), 1);
        due("days(0, 0)", x.days(0, 0), 41);
    }

    private static void kinds() {
        promise = 20;
        // come in on day 1 with news of day 1: a greedy one is told on 2, a plain one on 3,
        // a slow one on 5, a clever one on 1
        NewsHampers x = laid("p0,0,1,1;p0,0,9,1;h5;");
        x.send(0);
        due("nothing seen", x.kinds(0), 15);
        x.seen(2, 0, 0);
        due("not on day 1", x.kinds(0), 7);
        x.seen(4, 0, 1);
        due("by day 3", x.kinds(0), 5);
        x.seen(3, 0, 0);
        due("not by day 2", x.kinds(0), 1);
        due("its own is as it was", x.person(0, 0), 0);
        due("of another", x.kinds(1), 15);
        x.seen(9, 1, 1);
        due("what is not so of another", x.kinds(0), 0);
        due("nor does it help that one", x.kinds(1), 0);
        due("kinds(-1)", x.kinds(-1), BAD);
        due("kinds(2)", x.kinds(2), BAD);
        // by how all stands when asked
        x.forget();
        x.seen(2, 0, 0);
        x.pass(1);
        due("a day later", x.kinds(0), 3);
        // two on the way are 4, 6, 2, 4 days
        x = laid("p3,0,2,1;h2;");
        x.send(0);
        x.pass(2);
        x.seen(3, 0, 1);
        due("two to a greedy one", x.kinds(0), 4);
        x.forget();
        x.seen(5, 0, 1);
        due("two to others", x.kinds(0), 13);
        x.forget();
        x.seen(7, 0, 1);
        x.seen(6, 0, 0);
        due("two to a slow one", x.kinds(0), 2);
        // a clever person 0 takes the last one, so person 1 eats 2 days, not 4
        x = laid("p0,10,40,1;p3,0,3,1;h3;");
        x.send(0);
        x.pass(1);
        x.send(1);
        x.seen(5, 1, 1);
        due("two days if it takes it", x.kinds(0), 8);
        x.forget();
        x.seen(6, 1, 0);
        due("four days if none takes it", x.kinds(0), 7);
        x.buy();
        due("enough for both", x.kinds(0), 15);
    }

    private static void days() {
        promise = 21;
        NewsHampers x = laid("p0,0,5,1;p0,0,9,1;");
        due("all", x.days(0, 0), 41);
        due("the least", x.days(0, 1), 0);
        x.seen(4, 0, 0);
        due("from 4 on", x.days(0, 0), 37);
        due("the least", x.days(0, 1), 4);
        x.seen(7, 0, 1);
        due("4, 5, 6", x.days(0, 0), 3);
        x.seen(4, 0, 1);
        due("none", x.days(0, 0), 0);
        due("none", x.days(0, 1), NONE);
        x.forget();
        x.seen(40, 0, 0);
        due("40 alone", x.days(0, 1), 40);
        due("40 alone", x.days(0, 0), 1);
        due("its own is as it was", x.person(0, 2), 5);
        x.forget();
        x.send(0);
        x.seen(3, 0, 0);
        due("eating keeps it off, but for 0", x.days(0, 1), 1);
        due("eating keeps it off, but for 0", x.days(0, 0), 40);
        x.pass(20);
        due("told is told", x.days(0, 0), 0);
        int[][] bad = {{-1, 0}, {2, 0}, {0, -1}, {0, 2}};
        for (int[] b : bad) {
            due("days(" + b[0] + ", " + b[1] + ")", x.days(b[0], b[1]), BAD);
        }
    }

    private static void likelyIs(NewsHampers x, int[] pnx, int above, int below) {
        String call = "likely(" + pnx[0] + ", " + pnx[1] + ", " + pnx[2] + ", ";
        due(call + "0)", x.likely(pnx[0], pnx[1], pnx[2], 0), above);
        due(call + "1)", x.likely(pnx[0], pnx[1], pnx[2], 1), below);
    }

    private static void likely() {
        promise = 22;
        NewsHampers x = laid("p0,5,6,4;p0,0,1,1;h4;");
        likelyIs(x, new int[] {0, 7, 5}, 0, 1);
        x.send(0);
        // due on day 1, in time till day 6
        likelyIs(x, new int[] {0, 0, 5}, 1, 1);
        likelyIs(x, new int[] {0, 6, 10}, 1, 1);
        likelyIs(x, new int[] {0, 7, 10}, 0, 1);
        likelyIs(x, new int[] {0, 7, 0}, 1, 1);
        likelyIs(x, new int[] {0, 7, 5}, 63, 64);
        likelyIs(x, new int[] {0, 7, 1}, 999999, 1000000);
        likelyIs(x, new int[] {0, 7, 9}, 468559, 1000000);
        likelyIs(x, new int[] {1, 7, 3}, 0, 1);
        x.pass(1);
        likelyIs(x, new int[] {0, 5, 10}, 1, 1);
        likelyIs(x, new int[] {0, 6, 5}, 63, 64);
        x.pass(1);
        likelyIs(x, new int[] {0, 7, 10}, 1, 1);
        due("nothing changes", x.count(1), 2);
        int[][] bad = {{-1, 0, 0, 0}, {2, 0, 0, 0}, {0, -1, 0, 0}, {0, 8, 0, 0}, {0, 0, -1, 0}, {0, 0, 11, 0},
            {0, 0, 0, -1}, {0, 0, 0, 2}};
        for (int[] b : bad) {
            due("likely(" + b[0] + ", " + b[1] + ", " + b[2] + ", " + b[3] + ")",
                x.likely(b[0], b[1], b[2], b[3]), BAD);
        }
    }

    /** A clever one needs two days without frost: one to refuse on, one to have it on. */
    private static void likelyClever() {
        promise = 22;
        NewsHampers x = laid("p3,0,2,9;");
        x.send(0);
        likelyIs(x, new int[] {0, 7, 3}, 49, 100);
        likelyIs(x, new int[] {0, 2, 3}, 7, 10);
        x = laid("p3,0,3,9;");
        x.send(0);
        likelyIs(x, new int[] {0, 4, 5}, 1, 2);
        likelyIs(x, new int[] {0, 3, 5}, 3, 4);
        likelyIs(x, new int[] {0, 2, 5}, 1, 1);
    }

    private static void year() {
        promise = 23;
        // by 0: DRAW 0 sends to person 0, 20743 to person 3, 5149 buys one
        NewsHampers x = new NewsHampers();
        due("year(0, 1, 2)", x.year(0, 1, 2), 3);
        due("year(0, 2, 2)", x.year(0, 2, 2), 2);
        due("year(0, 3, 2)", x.year(0, 3, 2), 3);
        due("year(0, 2, 1)", x.year(0, 2, 1), 0);
        due("year(0, 3, 1)", x.year(0, 3, 1), 1);
        due("year(0, 3, 0)", x.year(0, 3, 0), 0);
        due("year(0, 6, 0)", x.year(0, 6, 0), 0);
        due("year(0, 7, 0)", x.year(0, 7, 0), 4);
        due("nothing changes", x.count(1), 0);
        due("nothing to undo", x.count(9), 0);
        x.send(4);
        due("one was sent this day", x.year(0, 1, 2), 3);
        due("on the next it can be", x.year(0, 2, 2), 2);
        // on the first day 1 and 2 send, 3 buys, 7 and 9999 call back
        x = laid("p0,40,40,1;h1;");
        int[][] free = {{1, 0}, {2, 0}, {3, 2}, {7, 1}, {9999, 1}};
        for (int[] f : free) {
            due("year(" + f[0] + ", 1, 2)", x.year(f[0], 1, 2), f[1]);
        }
        x.send(0);
        int[][] sent = {{1, 0}, {2, 0}, {3, 1}, {7, 1}, {9999, 1}};
        for (int[] s : sent) {
            due("year(" + s[0] + ", 1, 2), sent", x.year(s[0], 1, 2), s[1]);
        }
        due("year(9999, 60, 1)", x.year(9999, 60, 1), 1);
        x = laid("p0,0,40,1;p0,40,40,1;p0,0,40,1;h1;");
        x.send(1);
        due("7 calls back of person 1", x.year(7, 1, 2), 1);
        due("8 of person 2", x.year(8, 1, 2), 0);
        due("20 at most", laid("p0,0,40,1;h20;").year(3, 1, 2), 20);
        int[][] bad = {{-1, 1, 0}, {10000, 1, 0}, {0, 0, 0}, {0, 61, 0}, {0, 1, -1}, {0, 1, 3}};
        for (int[] b : bad) {
            due("year(" + b[0] + ", " + b[1] + ", " + b[2] + ")", x.year(b[0], b[1], b[2]), BAD);
        }
    }

    private static void keep() {
        promise = 24;
        NewsHampers x = new NewsHampers();
        due("keep()", x.keep(), 1);
        due("keep()", x.keep(), 2);
        due("keep()", x.keep(), FULL);
        due("not an act", x.undo(), NO);
        x.back();
        due("keep()", x.keep(), 2);
        due("count(10)", x.count(10), 2);
    }

    private static void back() {
        promise = 25;
        NewsHampers x = laid("p3,0,40,3;p0,0,40,1;h4;");
        due("back()", x.back(), NO);
        x.send(0);
        x.pass(2);
        x.keep();
        x.call(0);
        x.send(1);
        x.keep();
        x.pass(5);
        x.write('x');
        x.seen(3, 0, 1);
        due("back()", x.back(), 1);
        due("count(1)", x.count(1), 2);
        due("count(3)", x.count(3), 1);
        due("sent that day", x.send(0), NO);
        due("the text stays", x.count(11), 24);
        due("what is seen stays", x.count(8), 1);
        due("nothing is undone", x.undo(), NO);
        x.buy();
        due("back()", x.back(), 0);
        due("two on the way", x.person(0, 4), 2);
        due("refused", x.person(0, 10), 1);
        due("count(2)", x.count(2), 2);
        due("count(7)", x.count(7), 1);
        due("none was sent that day", x.send(1), 3);
        due("back()", x.back(), NO);
        due("undo()", x.undo(), 0);
    }

    private static void counts(NewsHampers x, int... want) {
        for (int what = 0; what < want.length; what++) {
            due("count(" + what + ")", x.count(what), want[what]);
        }
    }

    private static void count() {
        promise = 26;
        NewsHampers x = laid("p3,0,40,3;p0,0,40,1;p0,0,0,1;h4;");
        x.send(0);
        x.pass(1);
        x.send(1);
        counts(x, 3, 1, 2, 2, 0, 1, 0, 0, 0, 3, 0, 32);
        x.pass(1);
        counts(x, 3, 2, 1, 3, 0, 1, 0, 1, 0, 4, 0, 32);
        x.pass(1);
        x.keep();
        x.seen(0, 0, 0);
        x.wipe();
        counts(x, 3, 3, 1, 0, 2, 1, 0, 1, 1, 5, 1, 0);
        x.pass(20);
        x.pass(20);
        counts(x, 3, 43, 1, 0, 0, 3, 2, 1, 1, 7, 1, 0);
        due("count(-1)", x.count(-1), BAD);
        due("count(12)", x.count(12), BAD);
        due("count(MIN)", x.count(Integer.MIN_VALUE), BAD);
        x = laid("p3,0,40,3;");
        x.send(0);
        x.pass(2);
        x.call(0);
        due("called back since, too", x.count(7), 1);
    }

    private static void wrongNumbersChangeNothing() {
        promise = 26;
        NewsHampers x = laid("p3,0,40,3;p0,0,40,1;h4;");
        x.send(0);
        x.pass(1);
        int[] odd = {-1, 2, 61, 10000, Integer.MIN_VALUE, Integer.MAX_VALUE};
        for (int n : odd) {
            x.send(n);
            x.call(n);
            x.pass(n == 2 ? 21 : n);
            x.behind(n, 9);
            x.seen(n, n, n);
            x.kinds(n);
            x.days(n, 0);
            x.likely(0, n, 11, 0);
            x.year(n, 61, 0);
            x.order(n == 2 ? -2 : n);
        }
        counts(x, 2, 1, 3, 1, 0, 0, 0, 0, 0, 2, 0, 23);
    }
}
