/** Part 1 of the document and promises 1 to 6, sentence by sentence, at their edges. */
public final class TextEdgesTest extends EdgeChecks {
    private static final String PERSON = "p0,0,0,1;";

    public static void main(String[] args) {
        lengthOfTheText();
        lettersThatAreWritten();
        itemsBehindOneAnother();
        lettersOfItems();
        figuresOfNumbers();
        partedByCommas();
        semicolonBehindTheLast();
        howManyNumbers();
        boundsOfAPerson();
        sixPersonsAtMost();
        personsInTheirOrder();
        hampersInStock();
        firstFault();
        textOfAPersonAtLeast();
        laidAtFirst();
        layBeginsAnew();
        refusedLayChangesNothing();
        wiped();
        whatOfAPerson();
        personsSuchAsThereAre();
        noneOfAPerson();
        end();
    }

    private static String times(int n, String text) {
        return text.repeat(n);
    }

    private static void faultIs(String text, int want) {
        due("fault() of " + text, written(text).fault(), want);
    }

    private static void lengthOfTheText() {
        says("A TEXT is letters (200 at most)");
        NewsHampers x = written(times(66, "h1;"));
        due("the 199th", x.write('h'), 199);
        due("the 200th", x.write('1'), 200);
        due("the 201st", x.write(';'), FULL);
        due("the 201st again", x.write(';'), FULL);
        due("count(11)", x.count(11), 200);
        due("it did not come behind", x.fault(), 198);
        due("wipe()", x.wipe(), 200);
        due("there is room again", x.write('h'), 1);
        due("200 letters without fault", written(times(64, "h1;") + "h10;h10;").fault(), NONE);
        x = written(times(59, "h1;") + "p0,0,40,1;p03,040,40,9;");
        due("three figures at the end", x.fault(), 187);
        x = written(times(59, "h1;") + PERSON + "p3,40,40,09;h7");
        due("200 letters", x.count(11), 200);
        due("refused, for the last item has no end", x.lay(), NO);
        x = written(times(60, "h1;") + PERSON + "p3,40,40,9;");
        due("200 letters", x.count(11), 200);
        due("laid of 200 letters", x.lay(), 2);
        persons(x, 1, 3, 40, 40, 9);
    }

    private static void lettersThatAreWritten() {
        says("A letter (32 to 126, as in ASCII) comes behind THE TEXT: how long it is. BAD; FULL.");
        for (int letter = -3; letter < 300; letter++) {
            NewsHampers x = new NewsHampers();
            boolean fine = letter >= 32 && letter <= 126;
            due("write(" + letter + ")", x.write(letter), fine ? 1 : BAD);
            due("count(11)", x.count(11), fine ? 1 : 0);
        }
        NewsHampers x = new NewsHampers();
        int[] far = {Integer.MIN_VALUE, Integer.MAX_VALUE, 65536 + 'h', 256 + 'h', -65536 + 'h', -256 + 'h'};
        for (int letter : far) {
            due("write(" + letter + ")", x.write(letter), BAD);
        }
        for (int n = 1; n <= 200; n++) {
            due("how long it is", x.write(32 + n % 95), n);
        }
        due("full, and 31", x.write(31), BAD);
        due("full, and 127", x.write(127), BAD);
        due("full, and 32", x.write(32), FULL);
    }

    private static void itemsBehindOneAnother() {
        says("ITEMS one behind the other");
        faultIs("", NONE);
        faultIs("h1;h2;" + PERSON + "h3;", NONE);
        for (char c = 32; c < 127; c++) {
            faultIs("h1;" + c + "h2;", 3);
            faultIs("h1;" + c, 3);
        }
    }

    private static void lettersOfItems() {
        says("each a letter: p, h");
        for (char c = 32; c < 127; c++) {
            faultIs(c + "1;", c == 'h' ? NONE : 0);
            faultIs(c + "0,0,0,1;", c == 'p' ? NONE : 0);
            faultIs(PERSON + c + "0;", c == 'h' ? NONE : 9);
        }
        faultIs("hh1;", 0);
        faultIs("pp0,0,0,1;", 0);
        faultIs("1;", 0);
    }

    private static void figuresOfNumbers() {
        says("numbers (one or two figures)");
        String[] one = {"0", "1", "2", "3", "00", "01", "02", "03"};
        String[] wrong = {"", "000", "001", "0001", "-0", "+1", " 1", "1 ", "1.", "a", "0a", "a0", "/", ":", "0:", "0/"};
        for (int at = 0; at < 5; at++) {
            for (String number : one) {
                boolean fine = at != 3 || Integer.parseInt(number) > 0;
                faultIs(withNumber(at, number), fine ? NONE : 0);
            }
            for (String number : wrong) {
                faultIs(withNumber(at, number), 0);
            }
        }
    }

    /** The numbers of a person are 0 to 3, that of the stock is 4. */
    private static String withNumber(int at, String number) {
        if (at == 4) {
            return "h" + number + ";";
        }
        String[] n = {"0", "0", "0", "1"};
        n[at] = number;
        return "p" + String.join(",", n) + ";";
    }

    private static void partedByCommas() {
        says("parted by ,");
        String[] others = {"", " ", ";", ".", ":", ",,", ", ", " ,", "-", "p"};
        for (String other : others) {
            faultIs("p0" + other + "0,0,1;", 0);
            faultIs("p0,0" + other + "0,1;", 0);
            faultIs("p0,0,0" + other + "1;", 0);
            faultIs("h1;p0,0,0" + other + "1;", 3);
        }
        faultIs("p,0,0,0,1;", 0);
        faultIs("h,1;", 0);
    }

    private static void semicolonBehindTheLast() {
        says("and a ; behind the last one");
        String[] others = {"", " ", ",", ":", ".", " ;", ",;", "p", "h"};
        for (String other : others) {
            faultIs("p0,0,0,1" + other, 0);
            faultIs("h1" + other, 0);
            faultIs("h1" + other + "h2;", 0);
            faultIs("h5;p0,0,0,1" + other, 3);
        }
        faultIs("h1;;", 3);
    }

    private static void howManyNumbers() {
        says("pK,X,N,B .. hH");
        faultIs("p;", 0);
        faultIs("p0;", 0);
        faultIs("p0,0;", 0);
        faultIs("p0,0,1;", 0);
        faultIs("p0,0,0,1;", NONE);
        faultIs("p0,0,0,1,1;", 0);
        faultIs("h;", 0);
        faultIs("h1;", NONE);
        faultIs("h1,1;", 0);
        faultIs("h0,0,0,1;", 0);
    }

    private static void boundsOfAPerson() {
        String[] says = {"KIND K (0 PLAIN, 1 SLOW, 2 GREEDY, 3 CLEVER)", "who lives X (0 to 40) miles off",
            "to whom NEWS comes on DAY N (0 to 40)", "as heavy as B (1 to 9)", "hH HAMPERS in STOCK (0 to 20)"};
        int[] least = {0, 0, 0, 1, 0};
        int[] most = {3, 40, 40, 9, 20};
        for (int at = 0; at < 5; at++) {
            says(says[at]);
            for (int n = 0; n < 100; n++) {
                String text = withNumber(at, "" + n);
                faultIs(text, n >= least[at] && n <= most[at] ? NONE : 0);
                faultIs("h7;" + text, n >= least[at] && n <= most[at] ? NONE : 3);
                if (n >= least[at] && n <= most[at]) {
                    NewsHampers x = laid(text + (at == 4 ? PERSON : ""));
                    due("it is so then", at == 4 ? x.count(2) : x.person(0, at), n);
                }
            }
        }
    }

    private static void sixPersonsAtMost() {
        says("6 at most");
        for (int n = 1; n <= 9; n++) {
            NewsHampers x = written(times(n, PERSON));
            due("fault() of " + n, x.fault(), n <= 6 ? NONE : 54);
            due("lay() of " + n, x.lay(), n <= 6 ? n : NO);
            due("count(0)", x.count(0), n <= 6 ? n : 5);
        }
        faultIs(times(6, PERSON) + "h1;h2;", NONE);
        faultIs(times(6, PERSON) + "h1;" + PERSON, 57);
        faultIs("h1;" + times(5, PERSON) + "h2;" + PERSON + PERSON, 60);
        faultIs(times(7, PERSON) + "h21;", 54);
    }

    private static void personsInTheirOrder() {
        says("0, 1, ..");
        NewsHampers x = laid("h1;p3,1,2,3;h2;h3;p2,4,5,6;p1,7,8,9;h4;p0,40,0,1;p3,0,40,2;p2,39,1,4;h5;");
        int[][] want = {{3, 1, 2, 3}, {2, 4, 5, 6}, {1, 7, 8, 9}, {0, 40, 0, 1}, {3, 0, 40, 2}, {2, 39, 1, 4}};
        for (int p = 0; p < 6; p++) {
            persons(x, p, want[p]);
        }
    }

    private static void hampersInStock() {
        says("the last one (3 without)");
        due("without", laid(PERSON).count(2), 3);
        due("none is not without", laid(PERSON + "h0;").count(2), 0);
        due("ahead of the person", laid("h9;" + PERSON).count(2), 9);
        due("the last of three", laid("h1;" + PERSON + "h20;h7;").count(2), 7);
        due("the last being 0", laid("h1;" + PERSON + "h20;h0;").count(2), 0);
        NewsHampers x = laid(PERSON + "h9;");
        x.wipe();
        put(x, PERSON);
        x.lay();
        due("without, where there were others", x.count(2), 3);
    }

    private static void firstFault() {
        says("FAULT: the place (from 0 on) of the first letter of the first ITEM that is not so");
        faultIs("x", 0);
        faultIs("h21;h22;", 0);
        faultIs("h1;h21;h22;", 3);
        faultIs("h1;p0,0,0,0;x", 3);
        faultIs(PERSON + "p0,0,0,1", 9);
        faultIs(PERSON + "h10;" + "p4,0,0,1;", 13);
        faultIs(PERSON + "h10;" + "p0,0,41,1;", 13);
        faultIs(times(65, "h1;") + "h10;" + "h", 199);
        NewsHampers x = written("h1;h2");
        due("not ended so far", x.fault(), 3);
        x.write(';');
        due("ended", x.fault(), NONE);
        due("THE TEXT stays", x.count(11), 6);
    }

    private static void textOfAPersonAtLeast() {
        says("LAID is a TEXT without FAULT, of a PERSON at least (NO else)");
        due("nothing", written("").lay(), NO);
        due("hampers alone", written("h0;h20;").lay(), NO);
        due("one", written(PERSON).lay(), 1);
        due("a fault behind one", written(PERSON + "x").lay(), NO);
        due("a fault ahead of one", written(";" + PERSON).lay(), NO);
        due("one without its end", written("p0,0,0,1").lay(), NO);
        due("two", written("h1;" + PERSON + PERSON).lay(), 2);
    }

    private static void laidAtFirst() {
        says("at first p0,5,6,4;p1,12,5,7;p2,33,9,3;p3,20,8,9;p0,0,2,2;h4; .. THE TEXT is empty");
        NewsHampers x = new NewsHampers();
        counts(x, 5, 0, 4, 0, 0, 0, 0, 0, 0, 0, 0, 0);
        persons(x, 0, 0, 5, 6, 4, 0, NONE, 0, NONE, 0, 0, 0);
        persons(x, 1, 1, 12, 5, 7, 0, NONE, 0, NONE, 0, 0, 0);
        persons(x, 2, 2, 33, 9, 3, 0, NONE, 0, NONE, 0, 0, 0);
        persons(x, 3, 3, 20, 8, 9, 0, NONE, 0, NONE, 0, 0, 0);
        persons(x, 4, 0, 0, 2, 2, 0, NONE, 0, NONE, 0, 0, 0);
        due("person(5, 0)", x.person(5, 0), BAD);
        due("fault()", x.fault(), NONE);
        due("lay()", x.lay(), NO);
        due("wipe()", x.wipe(), 0);
        due("undo()", x.undo(), NO);
        due("back()", x.back(), NO);
        due("forget()", x.forget(), 0);
        x.pass(3);
        x.buy();
        NewsHampers y = new NewsHampers();
        counts(y, 5, 0, 4, 0, 0, 0, 0, 0, 0, 0, 0, 0);
    }

    private static void layBeginsAnew() {
        says("DAY 0 is next, nothing SENT, TOLD, SEEN, UNDONE, KEPT (THE TEXT stays)");
        NewsHampers x = laid("p3,0,40,3;p0,0,0,1;p2,0,1,2;p3,40,40,5;h9;");
        int length = x.count(11);
        x.keep();
        x.send(2);
        x.pass(1);
        x.send(0);
        x.pass(1);
        x.send(3);
        x.pass(2);
        x.keep();
        x.seen(0, 0, 0);
        x.pass(1);
        x.undo();
        counts(x, 4, 4, 5, 1, 1, 2, 1, 1, 1, 6, 2, length);
        due("lay()", x.lay(), 4);
        counts(x, 4, 0, 9, 0, 0, 0, 0, 0, 0, 0, 0, length);
        persons(x, 0, 3, 0, 40, 3, 0, NONE, 0, NONE, 0, 0, 0);
        persons(x, 1, 0, 0, 0, 1, 0, NONE, 0, NONE, 0, 0, 0);
        persons(x, 2, 2, 0, 1, 2, 0, NONE, 0, NONE, 0, 0, 0);
        persons(x, 3, 3, 40, 40, 5, 0, NONE, 0, NONE, 0, 0, 0);
        due("undo()", x.undo(), NO);
        due("back()", x.back(), NO);
        due("nothing is seen", x.forget(), 0);
        due("sent on day 0", x.send(1), 1);
        due("lay()", x.lay(), 4);
        due("none was sent on this day 0", x.send(0), 1);
    }

    private static void refusedLayChangesNothing() {
        says("NO else .. nothing changes then");
        NewsHampers x = laid("p3,0,40,3;h9;");
        x.send(0);
        x.pass(2);
        x.keep();
        x.seen(3, 0, 0);
        put(x, "p0,0,0,1;x");
        due("lay()", x.lay(), NO);
        counts(x, 1, 2, 7, 2, 0, 0, 0, 1, 1, 2, 1, 23);
        persons(x, 0, 3, 0, 40, 3, 2, 2, 0, NONE, 0, 0, 1);
        x.wipe();
        put(x, "h2;");
        due("lay()", x.lay(), NO);
        counts(x, 1, 2, 7, 2, 0, 0, 0, 1, 1, 2, 1, 3);
        due("undo()", x.undo(), 1);
        due("back()", x.back(), 0);
    }

    private static void wiped() {
        says("THE TEXT is empty: how long it was");
        NewsHampers x = new NewsHampers();
        due("of none", x.wipe(), 0);
        x.write('p');
        due("of one", x.wipe(), 1);
        due("of none", x.wipe(), 0);
        put(x, times(70, "h1;"));
        due("of 200", x.wipe(), 200);
        due("fault()", x.fault(), NONE);
        put(x, "h");
        due("what was is not behind it", x.fault(), 0);
        x = laid(PERSON);
        x.wipe();
        due("what is laid stays", x.count(0), 1);
        due("lay()", x.lay(), NO);
    }

    private static void whatOfAPerson() {
        says("KIND (what = 0) .. 1 if it REFUSED (10). BAD.");
        NewsHampers x = new NewsHampers();
        int[] bad = {-1, 11, 12, Integer.MIN_VALUE, Integer.MAX_VALUE};
        for (int what : bad) {
            due("person(0, " + what + ")", x.person(0, what), BAD);
        }
        due("person(0, 10)", x.person(0, 10), 0);
    }

    private static void personsSuchAsThereAre() {
        says("PERSONS: such as there are");
        for (int n = 1; n <= 6; n++) {
            NewsHampers x = laid(times(n, "p0,0,9,1;"));
            int[] whom = {-1, 0, n - 1, n, 6, Integer.MIN_VALUE, Integer.MAX_VALUE};
            for (int p : whom) {
                boolean is = p >= 0 && p < n;
                due("person(" + p + ", 2) of " + n, x.person(p, 2), is ? 9 : BAD);
                due("when(" + p + ") of " + n, x.when(p), is ? 10 : BAD);
                due("latest(" + p + ") of " + n, x.latest(p), is ? 8 : BAD);
                due("call(" + p + ") of " + n, x.call(p), is ? NO : BAD);
                due("kinds(" + p + ") of " + n, x.kinds(p), is ? 15 : BAD);
                due("days(" + p + ", 0) of " + n, x.days(p, 0), is ? 41 : BAD);
                due("likely(" + p + ", 1, 1, 1) of " + n, x.likely(p, 1, 1, 1), is ? 1 : BAD);
                due("send(" + p + ") of " + n, x.send(p), is ? 1 : BAD);
                x.undo();
                due("seen(0, " + p + ", 0) of " + n, x.seen(0, p, 0), is ? 1 : BAD);
                x.forget();
            }
        }
        NewsHampers x = laid(times(6, PERSON));
        due("the sixth", x.person(5, 3), 1);
        x.wipe();
        put(x, PERSON);
        x.lay();
        due("there is one now", x.person(1, 3), BAD);
    }

    private static void noneOfAPerson() {
        says("on which DAY these come in (5; NONE), .. on which DAY it was TOLD (7; NONE)");
        NewsHampers x = laid("p0,0,0,1;p3,0,40,1;h2;");
        due("nothing on its way", x.person(0, 5), NONE);
        due("not told", x.person(0, 7), NONE);
        x.send(1);
        due("on its way", x.person(1, 5), 1);
        x.pass(1);
        due("told on day 0", x.person(0, 7), 0);
        x.pass(1);
        due("refused, on the next day", x.person(1, 5), 2);
        x.pass(1);
        due("it has come in", x.person(1, 5), NONE);
        x = laid("p0,40,40,1;");
        x.send(0);
        x.call(0);
        due("called back", x.person(0, 5), NONE);
    }
}
