/** Part 2 of the document and promises 7 to 11, sentence by sentence, at their edges. */
public final class DayEdgesTest extends EdgeChecks {
    public static void main(String[] args) {
        sentNoneSoFar();
        isNotTold();
        oneADay();
        oneLessInStock();
        tenthOfTheMiles();
        refusalsOfSend();
        personZeroFirst();
        comesInAheadOfTheNews();
        onlyCleverRefuses();
        asTwoOrAsOne();
        refusesOnce();
        daysOfEating();
        newsOfThisDayOrAheadOfIt();
        toldOnce();
        softIfItHasHadOne();
        eatsADayLess();
        dayZeroIsNext();
        calledBack();
        twentyAtMost();
        sentNoneRefusedNone();
        noneOnItsWay();
        bought();
        daysThatGoBy();
        toldOnThem();
        aboveTheLastDay();
        theLastEight();
        eightAgainAndAgain();
        daysOfOneCallAtOnce();
        nothingBecomesAnother();
        undoneIsAllOfIt();
        whatIsNoAct();
        howManyMore();
        end();
    }

    private static void sentNoneSoFar() {
        says("SENT to a PERSON that was sent none so far (by what is so now)");
        NewsHampers x = laid("p0,10,40,1;h9;");
        due("send(0)", x.send(0), 2);
        x.pass(1);
        due("on its way", x.send(0), NO);
        x.pass(1);
        due("it comes in on the day that is next", x.send(0), NO);
        x.pass(1);
        due("it eats", x.send(0), NO);
        x.pass(5);
        due("it has eaten", x.send(0), NO);
        x = laid("p0,10,40,1;h9;");
        x.send(0);
        x.pass(1);
        x.call(0);
        due("called back", x.send(0), 3);
        x.undo();
        due("undone", x.send(0), 3);
        x = laid("p3,0,40,1;h9;");
        x.send(0);
        x.pass(2);
        due("refused, on its way again", x.send(0), NO);
    }

    private static void isNotTold() {
        says("and is not TOLD");
        NewsHampers x = laid("p0,0,0,1;p0,0,3,1;h9;");
        x.pass(1);
        due("told on day 0", x.send(0), NO);
        x.pass(2);
        due("on the day of its news", x.send(1), 4);
        x.undo();
        x.pass(1);
        due("behind the day of its news", x.send(1), NO);
        x.undo();
        due("told no more", x.send(1), 4);
        x.pass(1);
        due("told, one being on its way", x.person(1, 7), 3);
        x.call(1);
        due("called back, but told", x.send(1), NO);
    }

    private static void oneADay() {
        says("one a DAY at most");
        NewsHampers x = laid("p0,40,40,1;p0,0,40,1;p0,0,40,1;h9;");
        due("the first", x.send(0), 5);
        due("a second", x.send(1), NO);
        due("a third", x.send(2), NO);
        x.pass(1);
        due("on the next day", x.send(1), 2);
        due("a second on it", x.send(2), NO);
        x.undo();
        due("the first being undone", x.send(2), 2);
        x.pass(1);
        x.undo();
        due("the day being undone", x.send(1), NO);
        x.keep();
        x.pass(1);
        x.back();
        due("back on the day", x.send(1), NO);
        says("one was SENT this DAY (CALLED back since, too)");
        due("call(2)", x.call(2), 8);
        due("the same", x.send(2), NO);
        due("another", x.send(1), NO);
        x.pass(1);
        due("on the next day", x.send(2), 3);
    }

    private static void oneLessInStock() {
        says("it is one less in STOCK .. NO: there is no STOCK");
        NewsHampers x = laid("p0,0,40,1;p0,0,40,1;p0,0,40,1;h2;");
        x.send(0);
        due("of two", x.count(2), 1);
        x.pass(1);
        due("the last", x.send(1), 2);
        due("of one", x.count(2), 0);
        x.pass(1);
        due("of none", x.send(2), NO);
        due("still none", x.count(2), 0);
        x.buy();
        due("of one again", x.send(2), 3);
        due("at first", laid("p0,0,40,1;h0;").send(0), NO);
    }

    private static void tenthOfTheMiles() {
        says("comes in on the DAY that is as many behind the one that is next as a tenth of the miles, cut, and 1");
        for (int miles = 0; miles <= 40; miles++) {
            for (int day = 0; day <= 3; day += 3) {
                NewsHampers x = laid("p0," + miles + ",40,1;");
                if (day > 0) {
                    x.pass(day);
                }
                int comes = day + (miles < 10 ? 1 : miles < 20 ? 2 : miles < 30 ? 3 : miles < 40 ? 4 : 5);
                due("send(0) from " + miles, x.send(0), comes);
                due("person(0, 5)", x.person(0, 5), comes);
                x.pass(comes - day);
                due("had ahead of it", x.person(0, 9), 0);
                due("on its way ahead of it", x.person(0, 4), 1);
                x.pass(1);
                due("had on it", x.person(0, 9), 1);
                due("on its way then", x.person(0, 4), 0);
            }
        }
    }

    private static void refusalsOfSend() {
        says("BAD; NO: it was sent one, is TOLD, there is no STOCK, one was SENT this DAY");
        NewsHampers x = laid("p0,0,40,1;p0,0,40,1;p0,0,0,1;h1;");
        x.pass(1);
        due("told alone", x.send(2), NO);
        due("send(-1)", x.send(-1), BAD);
        due("send(3)", x.send(3), BAD);
        due("send(0)", x.send(0), 2);
        x.buy();
        due("sent this day alone", x.send(1), NO);
        due("bad, and sent this day", x.send(3), BAD);
        due("bad, and sent this day", x.send(Integer.MIN_VALUE), BAD);
        x.pass(1);
        due("sent one alone", x.send(0), NO);
        x.undo();
        x.undo();
        x.pass(1);
        due("no stock alone", x.send(1), NO);
        due("bad, and no stock", x.send(3), BAD);
    }

    private static void personZeroFirst() {
        says("A DAY, each thing for PERSON 0 first");
        NewsHampers x = laid("p3,0,40,1;p3,10,40,1;h3;");
        x.send(1);
        x.pass(1);
        x.send(0);
        x.pass(2);
        due("the last in stock is person 0's", x.person(0, 4), 2);
        due("none for person 1", x.person(1, 4), 1);
        due("stock", x.count(2), 0);
        x = laid("p3,10,40,1;p3,0,40,1;h3;");
        x.send(0);
        x.pass(1);
        x.send(1);
        x.pass(2);
        due("person 0's, sent first", x.person(0, 4), 2);
        due("none for person 1", x.person(1, 4), 1);
        x = laid("p3,10,40,1;p3,0,40,1;h4;");
        x.send(0);
        x.pass(1);
        x.send(1);
        x.pass(2);
        due("enough for both", x.count(3), 4);
        due("stock", x.count(2), 0);
    }

    private static void comesInAheadOfTheNews() {
        says("(1) .. come in .. (2) Each whose NEWS is of this DAY .. does not EAT");
        NewsHampers x = laid("p2,0,1,5;p2,0,1,7;");
        x.send(0);
        x.pass(2);
        due("it eats on the day of its news", x.person(0, 7), NONE);
        due("the other does not", x.person(1, 7), 1);
        x.pass(1);
        due("told on the next day", x.person(0, 7), 2);
        due("softly", x.person(0, 8), 1);
        due("the other not", x.person(1, 8), 0);
    }

    private static void onlyCleverRefuses() {
        says("a CLEVER one that has REFUSED none so far REFUSES .. else one has it");
        for (int kind = 0; kind < 4; kind++) {
            NewsHampers x = laid("p" + kind + ",0,40,1;");
            x.send(0);
            x.pass(2);
            boolean clever = kind == 3;
            due("refused, kind " + kind, x.person(0, 10), clever ? 1 : 0);
            due("had, kind " + kind, x.person(0, 9), clever ? 0 : 1);
            due("on its way, kind " + kind, x.person(0, 4), clever ? 2 : 0);
            due("stock, kind " + kind, x.count(2), clever ? 1 : 2);
            due("count(7), kind " + kind, x.count(7), clever ? 1 : 0);
        }
    }

    private static void asTwoOrAsOne() {
        says("it is to come in on the next DAY, as two, if there is one in STOCK (that is one less), as one else");
        for (int stock = 1; stock <= 3; stock++) {
            NewsHampers x = laid("p3,20,40,1;h" + stock + ";");
            due("send(0)", x.send(0), 3);
            x.pass(3);
            due("one ahead of the day", x.person(0, 4), 1);
            due("not refused", x.person(0, 10), 0);
            x.pass(1);
            due("refused", x.person(0, 10), 1);
            due("on its way of stock " + stock, x.person(0, 4), stock == 1 ? 1 : 2);
            due("in stock of " + stock, x.count(2), stock == 1 ? 0 : stock - 2);
            due("on the next day", x.person(0, 5), 4);
            due("had none", x.person(0, 9), 0);
            x.pass(1);
            due("had", x.person(0, 9), 1);
            due("eats still", x.person(0, 6), stock == 1 ? 1 : 3);
        }
    }

    private static void refusesOnce() {
        says("REFUSED none so far");
        NewsHampers x = laid("p3,0,40,1;h9;");
        x.send(0);
        x.pass(3);
        due("count(7)", x.count(7), 1);
        due("stock", x.count(2), 7);
        due("it has it the second time", x.person(0, 9), 1);
        due("that it refused stays", x.person(0, 10), 1);
        x.pass(20);
        due("count(7)", x.count(7), 1);
    }

    private static void daysOfEating() {
        says("a PLAIN one, a CLEVER one 2 DAYS by each HAMPER; a SLOW one 2 DAYS more; a GREEDY one half as many");
        String[] texts = {"p0,0,40,1;h1;", "p1,0,40,1;h1;", "p2,0,40,1;h1;", "p3,0,40,1;h1;", "p3,0,40,1;h2;"};
        int[] comes = {1, 1, 1, 2, 2};
        int[] eats = {2, 4, 1, 2, 4};
        for (int i = 0; i < texts.length; i++) {
            NewsHampers x = laid(texts[i]);
            x.send(0);
            for (int day = 0; day < 9; day++) {
                x.pass(1);
                int left = day < comes[i] ? 0 : Math.max(0, comes[i] + eats[i] - 1 - day);
                due("eats still behind day " + day + " of " + texts[i], x.person(0, 6), left);
                due("who eat", x.count(4), left > 0 ? 1 : 0);
                due("behind(0, 0)", x.behind(0, 0), left > 0 ? 1 : 0);
            }
            x = laid(texts[i].replace("40", "" + comes[i]));
            x.send(0);
            due("is told when it has eaten, of " + texts[i], x.when(0), comes[i] + eats[i] + 1);
        }
    }

    private static void newsOfThisDayOrAheadOfIt() {
        says("whose NEWS is of this DAY, or of one ahead of it, who is not TOLD and does not EAT, is TOLD");
        for (int news = 0; news <= 40; news++) {
            NewsHampers x = laid("p0,0," + news + ",1;");
            passTo(x, news);
            due("not ahead of day " + news, x.person(0, 7), NONE);
            x.pass(1);
            due("on day " + news, x.person(0, 7), news);
        }
        for (int news = 0; news <= 7; news++) {
            NewsHampers x = laid("p1,0," + news + ",1;");
            x.send(0);
            x.pass(12);
            due("eats from day 1 to 4, news of " + news, x.person(0, 7), news >= 1 && news <= 4 ? 5 : news);
        }
    }

    private static void toldOnce() {
        says("who is not TOLD");
        NewsHampers x = laid("p0,0,2,1;");
        due("pass(3)", x.pass(3), 1);
        due("pass(20)", x.pass(20), 0);
        due("the day stays", x.person(0, 7), 2);
        x = laid("p0,30,2,1;");
        x.send(0);
        x.pass(3);
        due("told, the hamper on its way", x.person(0, 7), 2);
        due("one is on its way", x.count(3), 1);
        x.pass(2);
        due("it has it", x.person(0, 9), 1);
        due("it eats", x.person(0, 6), 1);
        x.pass(20);
        due("the day stays", x.person(0, 7), 2);
        due("not softly", x.person(0, 8), 0);
    }

    private static void softIfItHasHadOne() {
        says("SOFT, if one has had a HAMPER");
        for (int news = 0; news <= 9; news++) {
            NewsHampers x = laid("p0,20," + news + ",1;p3,20," + news + ",1;");
            x.send(0);
            x.pass(20);
            due("a plain one, news of " + news, x.person(0, 8), news >= 3 ? 1 : 0);
            due("count(6)", x.count(6), news >= 3 ? 1 : 0);
            x.lay();
            x.send(1);
            x.pass(20);
            due("a clever one, news of " + news, x.person(1, 8), news >= 4 ? 1 : 0);
        }
        NewsHampers x = laid("p0,0,40,1;");
        x.send(0);
        passTo(x, 41);
        due("long ago", x.person(0, 8), 1);
    }

    private static void eatsADayLess() {
        says("(3) Who EATS has a DAY less to");
        NewsHampers x = laid("p1,0,40,1;p2,0,40,1;h5;");
        x.send(0);
        x.pass(1);
        x.send(1);
        x.pass(1);
        due("person 0 of four", x.person(0, 6), 3);
        x.pass(1);
        due("person 0", x.person(0, 6), 2);
        due("person 1 of one", x.person(1, 6), 0);
        x.pass(20);
        due("never below 0", x.person(0, 6) + x.person(1, 6), 0);
    }

    private static void dayZeroIsNext() {
        says("Then it is the next DAY (DAY 0 is next at first)");
        NewsHampers x = new NewsHampers();
        due("at first", x.count(1), 0);
        for (int day = 1; day <= 5; day++) {
            x.pass(1);
            due("count(1)", x.count(1), day);
        }
        x.pass(20);
        due("count(1)", x.count(1), 25);
    }

    private static void calledBack() {
        says("A HAMPER on its way (one or two) may be CALLED back: as many are in STOCK again");
        NewsHampers x = laid("p3,10,40,1;h5;");
        x.send(0);
        due("one", x.call(0), 5);
        x.pass(1);
        x.send(0);
        x.pass(2);
        due("it comes in on the day that is next", x.call(0), 5);
        x.undo();
        x.pass(1);
        due("two", x.person(0, 4), 2);
        due("two, of a stock of 3", x.call(0), 5);
        persons(x, 0, 3, 10, 40, 1, 0, NONE, 0, NONE, 0, 0, 0);
        x.pass(5);
        due("nothing comes in", x.person(0, 9), 0);
        x = laid("p3,10,40,1;h1;");
        x.send(0);
        x.pass(3);
        due("refused, and one", x.call(0), 1);
    }

    private static void twentyAtMost() {
        says("(20 at most)");
        int[] bought = {0, 1, 2};
        for (int n : bought) {
            NewsHampers x = laid("p3,0,40,1;h20;");
            x.send(0);
            x.pass(2);
            due("two are on their way", x.count(2), 18);
            for (int i = 0; i < n; i++) {
                x.buy();
            }
            due("two to " + (18 + n), x.call(0), 20);
            due("count(2)", x.count(2), 20);
            due("count(3)", x.count(3), 0);
            x.undo();
            due("undone", x.count(2), 18 + n);
            due("undone", x.count(3), 2);
        }
        NewsHampers x = laid("p0,0,40,1;h20;");
        x.send(0);
        x.buy();
        due("one to 20", x.call(0), 20);
        x = laid("p3,0,40,1;h19;");
        x.send(0);
        x.pass(2);
        due("two to 17", x.call(0), 19);
    }

    private static void sentNoneRefusedNone() {
        says("the PERSON was sent none, REFUSED none");
        NewsHampers x = laid("p3,0,40,1;h9;");
        x.send(0);
        x.pass(2);
        x.call(0);
        due("refused", x.person(0, 10), 0);
        due("can be sent one", x.latest(0), 36);
        due("send(0)", x.send(0), 3);
        x.pass(2);
        due("it refuses again", x.person(0, 10), 1);
        due("as two", x.person(0, 4), 2);
        due("twice in all", x.count(7), 2);
    }

    private static void noneOnItsWay() {
        says("BAD; NO: none is on its way");
        NewsHampers x = laid("p0,0,40,1;p0,40,2,1;");
        due("sent none", x.call(0), NO);
        x.send(0);
        x.call(0);
        due("called back already", x.call(0), NO);
        x.pass(1);
        x.send(0);
        x.pass(2);
        due("it has come in", x.call(0), NO);
        due("call(-1)", x.call(-1), BAD);
        due("call(2)", x.call(2), BAD);
        due("call(MAX)", x.call(Integer.MAX_VALUE), BAD);
        due("told, none on its way", x.call(1), NO);
        x = laid("p0,40,2,1;");
        x.send(0);
        x.pass(4);
        due("told, one on its way", x.call(0), 3);
    }

    private static void bought() {
        says("BOUGHT: STOCK then. FULL: there are 20.");
        NewsHampers x = laid("p0,0,40,1;h0;");
        for (int stock = 1; stock <= 20; stock++) {
            due("buy()", x.buy(), stock);
        }
        due("of 20", x.buy(), FULL);
        due("count(2)", x.count(2), 20);
        due("no act", x.undo(), 7);
        due("the last that was bought is undone", x.count(2), 19);
        due("of 19", x.buy(), 20);
        x.send(0);
        due("one is on its way", x.buy(), 20);
        due("of 20", x.buy(), FULL);
        due("of h20;", laid("p0,0,40,1;h20;").buy(), FULL);
    }

    private static void daysThatGoBy() {
        says("n DAYS (1 to 20) go by .. BAD");
        for (int n = -2; n <= 23; n++) {
            NewsHampers x = new NewsHampers();
            boolean fine = n >= 1 && n <= 20;
            int told = n < 3 ? 0 : n < 6 ? 1 : n < 7 ? 2 : n < 9 ? 3 : n < 10 ? 4 : 5;
            due("pass(" + n + ")", x.pass(n), fine ? told : BAD);
            due("count(1)", x.count(1), fine ? n : 0);
            due("count(9)", x.count(9), fine ? 1 : 0);
        }
        NewsHampers x = new NewsHampers();
        due("pass(MIN)", x.pass(Integer.MIN_VALUE), BAD);
        due("pass(MAX)", x.pass(Integer.MAX_VALUE), BAD);
    }

    private static void toldOnThem() {
        says("how many are TOLD on them");
        NewsHampers x = laid("p0,0,0,1;p0,0,0,1;p0,0,1,1;p0,0,5,1;p0,0,5,1;p0,0,5,1;");
        due("day 0", x.pass(1), 2);
        due("day 1", x.pass(1), 1);
        due("days 2 to 4", x.pass(3), 0);
        due("day 5", x.pass(1), 3);
        due("all are told", x.pass(20), 0);
        due("all of them", laid("p0,0,19,1;p0,0,20,1;").pass(20), 1);
        due("softly or not", laid("p0,0,19,1;p0,0,18,1;").pass(20), 2);
    }

    private static void aboveTheLastDay() {
        says("NO: it would be above 999");
        NewsHampers x = new NewsHampers();
        passTo(x, 980);
        due("20 of 980", x.pass(20), NO);
        due("count(1)", x.count(1), 980);
        due("19 of 980", x.pass(19), 0);
        due("count(1)", x.count(1), 999);
        due("1 of 999", x.pass(1), NO);
        due("20 of 999", x.pass(20), NO);
        due("0 of 999", x.pass(0), BAD);
        due("21 of 999", x.pass(21), BAD);
        due("count(1)", x.count(1), 999);
        due("what was refused is no act", x.undo(), 7);
        due("count(1)", x.count(1), 980);
        due("20 of 980", x.pass(20), NO);
        due("buy() on the last day", x.buy(), 5);
        x = new NewsHampers();
        passTo(x, 979);
        due("20 of 979", x.pass(20), 0);
        due("count(1)", x.count(1), 999);
    }

    private static void theLastEight() {
        says("the last 8 can be");
        for (int acts = 0; acts <= 12; acts++) {
            NewsHampers x = laid("p0,0,40,1;h3;");
            for (int i = 0; i < acts; i++) {
                x.buy();
                due("count(9)", x.count(9), Math.min(i + 1, 8));
            }
            int can = Math.min(acts, 8);
            for (int left = can - 1; left >= 0; left--) {
                due("undo()", x.undo(), left);
                due("count(9)", x.count(9), left);
                due("count(2)", x.count(2), 3 + acts - can + left);
            }
            due("no more", x.undo(), NO);
            due("count(2)", x.count(2), 3 + acts - can);
        }
    }

    private static void eightAgainAndAgain() {
        says("the last 8 can be: by turns done and undone");
        NewsHampers x = laid("p0,0,40,1;h3;");
        int[] turns = {8, -3, 5, -8, 1, -1, 12, -8};
        int can = 0;
        int stock = 3;
        for (int turn : turns) {
            for (int i = 0; i < Math.abs(turn); i++) {
                if (turn > 0) {
                    stock++;
                    can = Math.min(8, can + 1);
                    due("buy()", x.buy(), stock);
                } else {
                    stock--;
                    can--;
                    due("undo()", x.undo(), can);
                }
                due("count(2)", x.count(2), stock);
                due("count(9)", x.count(9), can);
            }
        }
        due("undo()", x.undo(), NO);
    }

    private static void daysOfOneCallAtOnce() {
        says("of DAYS (all of one call at once)");
        NewsHampers x = new NewsHampers();
        x.pass(2);
        x.pass(20);
        x.pass(1);
        due("undo()", x.undo(), 2);
        due("one", x.count(1), 22);
        due("undo()", x.undo(), 1);
        due("twenty", x.count(1), 2);
        due("nobody is told", x.count(5), 0);
        due("undo()", x.undo(), 0);
        due("two", x.count(1), 0);
    }

    private static void nothingBecomesAnother() {
        says("such by which nothing becomes another, too");
        NewsHampers x = laid("p0,40,40,1;h20;");
        x.send(0);
        x.buy();
        due("no more in stock by it", x.call(0), 20);
        due("count(9)", x.count(9), 3);
        due("undo()", x.undo(), 2);
        due("on its way again", x.person(0, 5), 5);
        due("count(2)", x.count(2), 20);
        x = laid("p0,0,0,1;");
        x.pass(1);
        due("a day on which nothing is", x.pass(1), 0);
        due("undo()", x.undo(), 1);
        due("undo()", x.undo(), 0);
        due("undo()", x.undo(), NO);
    }

    private static void undoneIsAllOfIt() {
        says("UNDONE is the latest of HAMPERS SENT, CALLED back, BOUGHT, of DAYS");
        NewsHampers x = laid("p3,0,3,9;p1,0,40,1;p0,0,0,2;h3;");
        x.send(0);
        x.pass(1);
        x.send(1);
        x.pass(1);
        x.call(0);
        x.pass(2);
        counts(x, 3, 4, 2, 0, 1, 2, 0, 1, 0, 6, 0, 31);
        due("of days", x.undo(), 5);
        counts(x, 3, 2, 2, 1, 0, 1, 0, 1, 0, 5, 0, 31);
        due("of call", x.undo(), 4);
        counts(x, 3, 2, 0, 3, 0, 1, 0, 1, 0, 4, 0, 31);
        persons(x, 0, 3, 0, 3, 9, 2, 2, 0, NONE, 0, 0, 1);
        persons(x, 1, 1, 0, 40, 1, 1, 2, 0, NONE, 0, 0, 0);
        due("of a day", x.undo(), 3);
        counts(x, 3, 1, 1, 2, 0, 1, 0, 0, 0, 3, 0, 31);
        due("of send", x.undo(), 2);
        counts(x, 3, 1, 2, 1, 0, 1, 0, 0, 0, 2, 0, 31);
        due("of a day", x.undo(), 1);
        counts(x, 3, 0, 2, 1, 0, 0, 0, 0, 0, 1, 0, 31);
        persons(x, 2, 0, 0, 0, 2, 0, NONE, 0, NONE, 0, 0, 0);
        due("of send", x.undo(), 0);
        counts(x, 3, 0, 3, 0, 0, 0, 0, 0, 0, 0, 0, 31);
        x.send(1);
        x.pass(2);
        x.pass(20);
        x.undo();
        persons(x, 1, 1, 0, 40, 1, 0, NONE, 3, NONE, 0, 1, 0);
    }

    private static void whatIsNoAct() {
        says("the latest of HAMPERS SENT, CALLED back, BOUGHT, of DAYS: nothing else");
        NewsHampers x = new NewsHampers();
        put(x, "h1;");
        x.wipe();
        x.fault();
        x.lay();
        x.seen(0, 0, 0);
        x.forget();
        x.keep();
        x.order(-1);
        x.need();
        x.year(0, 60, 0);
        x.likely(0, 7, 5, 0);
        due("count(9)", x.count(9), 0);
        due("undo()", x.undo(), NO);
        x.buy();
        x.keep();
        x.seen(0, 0, 0);
        x.write('h');
        due("undo()", x.undo(), 0);
        due("count(2)", x.count(2), 4);
        due("seen stays", x.count(8), 1);
        due("kept stays", x.count(10), 2);
        due("THE TEXT stays", x.count(11), 1);
    }

    private static void howManyMore() {
        says("UNDONE: how many more can be. NO.");
        NewsHampers x = new NewsHampers();
        due("at first", x.undo(), NO);
        x.buy();
        x.buy();
        due("of two", x.undo(), 1);
        due("of one", x.undo(), 0);
        due("of none", x.undo(), NO);
        due("of none again", x.undo(), NO);
        x.buy();
        put(x, "p0,0,0,1;");
        x.lay();
        due("laid since", x.undo(), NO);
        x.keep();
        x.buy();
        x.back();
        due("back since", x.undo(), NO);
    }
}
