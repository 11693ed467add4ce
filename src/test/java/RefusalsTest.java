import java.util.ArrayList;
import java.util.List;
import java.util.function.Supplier;
import java.util.function.ToIntFunction;

/**
 * "Of several the first in this order; nothing changes then": each call that is
 * refused, in a state in which it is, leaves the object like a twin that was
 * not asked; and so does each question.
 */
public final class RefusalsTest extends EdgeChecks {
    private record Call(String name, ToIntFunction<NewsHampers> how, int want) {
    }

    public static void main(String[] args) {
        numbersThatAreNotTold();
        asThingsStandAtFirst();
        asThingsStandWhenAllIsFull();
        asThingsStandOnTheLastDay();
        asThingsStandWithoutStock();
        badIsFirst();
        questions();
        end();
    }

    private static NewsHampers busy() {
        NewsHampers x = laid("p3,0,40,3;p0,0,0,1;p1,0,1,2;p3,40,40,5;p2,9,7,9;h20;");
        x.send(2);
        x.pass(1);
        x.send(0);
        x.pass(1);
        x.keep();
        x.send(3);
        x.pass(1);
        x.buy();
        x.buy();
        x.keep();
        x.buy();
        x.pass(1);
        x.send(4);
        for (int i = 0; x.count(2) < 20 && i < 20; i++) {
            x.buy();
        }
        int[][] sights = {{3, 0, 0}, {0, 1, 1}, {40, 3, 1}, {2, 4, 0}, {9, 4, 1}, {0, 2, 0}};
        for (int[] s : sights) {
            x.seen(s[0], s[1], s[2]);
        }
        for (int length = x.count(11); length < 200; length++) {
            x.write('h');
        }
        counts(x, 5, 4, 20, 2, 2, 1, 0, 1, 6, 8, 2, 200);
        return x;
    }

    private static NewsHampers onTheLastDay() {
        NewsHampers x = new NewsHampers();
        passTo(x, 999);
        return x;
    }

    private static NewsHampers withoutStock() {
        NewsHampers x = laid("p0,0,40,3;p0,30,40,1;h1;");
        x.send(1);
        x.pass(1);
        return x;
    }

    /** All that can be seen of it, then of it with each act undone, then of what is kept. */
    private static List<Integer> inside(NewsHampers x) {
        List<Integer> all = new ArrayList<>();
        look(x, all);
        all.add(x.fault());
        all.add(x.gentle());
        for (int k = -1; k < 6; k++) {
            all.add(x.order(k));
        }
        all.add(x.send(0));
        for (int i = 0; i < 9; i++) {
            all.add(x.undo());
            all.add(x.count(1) * 100 + x.count(2));
        }
        look(x, all);
        all.add(x.back());
        all.add(x.count(1) * 100 + x.count(2));
        all.add(x.back());
        all.add(x.count(1) * 100 + x.count(2));
        all.add(x.wipe());
        all.add(x.kinds(0));
        all.add(x.days(0, 0));
        all.add(x.forget());
        return all;
    }

    private static void look(NewsHampers x, List<Integer> all) {
        for (int what = 0; what < 12; what++) {
            all.add(x.count(what));
        }
        for (int p = 0; p < x.count(0); p++) {
            for (int what = 0; what < 11; what++) {
                all.add(x.person(p, what));
            }
        }
    }

    /** In parts, that no object be asked more often than the document lets it. */
    private static void leavesAll(String state, Supplier<NewsHampers> maker, List<Call> calls) {
        for (int from = 0; from < calls.size(); from += 50) {
            leavesAllOfPart(state, maker, calls.subList(from, Math.min(calls.size(), from + 50)));
        }
    }

    private static void leavesAllOfPart(String state, Supplier<NewsHampers> maker, List<Call> calls) {
        NewsHampers x = maker.get();
        NewsHampers twin = maker.get();
        for (Call call : calls) {
            due(call.name + ", " + state, call.how.applyAsInt(x), call.want);
        }
        List<Integer> got = inside(x);
        List<Integer> want = inside(twin);
        for (int i = 0; i < want.size(); i++) {
            due("what is inside at " + i + ", " + state, got.get(i), want.get(i));
        }
    }

    private static void numbersThatAreNotTold() {
        says("BAD: a number is none that is told (PERSONS: such as there are) .. nothing changes then");
        leavesAll("persons", RefusalsTest::busy, badPersons());
        leavesAll("other numbers", RefusalsTest::busy, badNumbers());
        leavesAll("at first, persons", NewsHampers::new, badPersons());
        leavesAll("at first, other numbers", NewsHampers::new, badNumbers());
    }

    private static List<Call> badPersons() {
        List<Call> calls = new ArrayList<>();
        int[] nobody = {Integer.MIN_VALUE, -2, -1, 5, 6, 7, Integer.MAX_VALUE};
        for (int p : nobody) {
            calls.add(new Call("person(" + p + ", 0)", x -> x.person(p, 0), BAD));
            calls.add(new Call("send(" + p + ")", x -> x.send(p), BAD));
            calls.add(new Call("call(" + p + ")", x -> x.call(p), BAD));
            calls.add(new Call("when(" + p + ")", x -> x.when(p), BAD));
            calls.add(new Call("latest(" + p + ")", x -> x.latest(p), BAD));
            calls.add(new Call("seen(0, " + p + ", 0)", x -> x.seen(0, p, 0), BAD));
            calls.add(new Call("kinds(" + p + ")", x -> x.kinds(p), BAD));
            calls.add(new Call("days(" + p + ", 0)", x -> x.days(p, 0), BAD));
            calls.add(new Call("likely(" + p + ", 1, 1, 0)", x -> x.likely(p, 1, 1, 0), BAD));
        }
        return calls;
    }

    private static List<Call> badNumbers() {
        List<Call> calls = new ArrayList<>();
        for (int n : outOf(32, 126)) {
            calls.add(new Call("write(" + n + ")", x -> x.write(n), BAD));
        }
        for (int n : outOf(0, 10)) {
            calls.add(new Call("person(0, " + n + ")", x -> x.person(0, n), BAD));
            calls.add(new Call("likely(0, 1, " + n + ", 0)", x -> x.likely(0, 1, n, 0), BAD));
        }
        for (int n : outOf(1, 20)) {
            calls.add(new Call("pass(" + n + ")", x -> x.pass(n), BAD));
        }
        for (int n : outOf(0, 60)) {
            calls.add(new Call("behind(" + n + ", 0)", x -> x.behind(n, 0), BAD));
        }
        for (int n : outOf(0, 2)) {
            calls.add(new Call("behind(0, " + n + ")", x -> x.behind(0, n), BAD));
            calls.add(new Call("year(0, 1, " + n + ")", x -> x.year(0, 1, n), BAD));
        }
        for (int n : outOf(-1, 5)) {
            calls.add(new Call("order(" + n + ")", x -> x.order(n), BAD));
        }
        for (int n : outOf(0, 40)) {
            calls.add(new Call("seen(" + n + ", 0, 0)", x -> x.seen(n, 0, 0), BAD));
        }
        for (int n : outOf(0, 1)) {
            calls.add(new Call("seen(0, 0, " + n + ")", x -> x.seen(0, 0, n), BAD));
            calls.add(new Call("days(0, " + n + ")", x -> x.days(0, n), BAD));
            calls.add(new Call("likely(0, 1, 1, " + n + ")", x -> x.likely(0, 1, 1, n), BAD));
        }
        for (int n : outOf(0, 7)) {
            calls.add(new Call("likely(0, " + n + ", 1, 0)", x -> x.likely(0, n, 1, 0), BAD));
        }
        for (int n : outOf(0, 9999)) {
            calls.add(new Call("year(" + n + ", 1, 0)", x -> x.year(n, 1, 0), BAD));
        }
        for (int n : outOf(1, 60)) {
            calls.add(new Call("year(0, " + n + ", 0)", x -> x.year(0, n, 0), BAD));
        }
        for (int n : outOf(0, 11)) {
            calls.add(new Call("count(" + n + ")", x -> x.count(n), BAD));
        }
        return calls;
    }

    private static int[] outOf(int least, int most) {
        return new int[] {Integer.MIN_VALUE, least - 2, least - 1, most + 1, most + 2, Integer.MAX_VALUE};
    }

    private static void asThingsStandAtFirst() {
        says("NO: not as things stand .. nothing changes then: at first");
        leavesAll("at first", NewsHampers::new, List.of(
            new Call("lay()", x -> x.lay(), NO),
            new Call("call(0)", x -> x.call(0), NO),
            new Call("undo()", x -> x.undo(), NO),
            new Call("back()", x -> x.back(), NO),
            new Call("order(5)", x -> x.order(5), NONE),
            new Call("fault()", x -> x.fault(), NONE),
            new Call("person(0, 5)", x -> x.person(0, 5), NONE)));
    }

    private static void asThingsStandWhenAllIsFull() {
        says("FULL .. nothing changes then");
        leavesAll("all being full", RefusalsTest::busy, List.of(
            new Call("write(104)", x -> x.write('h'), FULL),
            new Call("buy()", x -> x.buy(), FULL),
            new Call("seen(0, 0, 1)", x -> x.seen(0, 0, 1), FULL),
            new Call("keep()", x -> x.keep(), FULL),
            new Call("lay()", x -> x.lay(), NO),
            new Call("send(0), which was sent one", x -> x.send(0), NO),
            new Call("send(1), which is told", x -> x.send(1), NO),
            new Call("call(1), to which none is on its way", x -> x.call(1), NO),
            new Call("latest(0), which was sent one", x -> x.latest(0), NO),
            new Call("latest(1), which is told", x -> x.latest(1), NO)));
    }

    private static void asThingsStandOnTheLastDay() {
        says("NO: it would be above 999 .. nothing changes then");
        leavesAll("on the last day", RefusalsTest::onTheLastDay, List.of(
            new Call("pass(1)", x -> x.pass(1), NO),
            new Call("pass(20)", x -> x.pass(20), NO),
            new Call("send(0)", x -> x.send(0), NO)));
    }

    private static void asThingsStandWithoutStock() {
        says("NO: there is no STOCK .. nothing changes then");
        leavesAll("without stock", RefusalsTest::withoutStock, List.of(
            new Call("send(0)", x -> x.send(0), NO),
            new Call("send(1)", x -> x.send(1), NO)));
    }

    private static void badIsFirst() {
        says("Of several the first in this order: BAD, NO, NONE, FULL");
        leavesAll("all being full", RefusalsTest::busy, List.of(
            new Call("write(127)", x -> x.write(127), BAD),
            new Call("seen(41, 0, 0)", x -> x.seen(41, 0, 0), BAD),
            new Call("send(5)", x -> x.send(5), BAD),
            new Call("order(6)", x -> x.order(6), BAD)));
        leavesAll("on the last day", RefusalsTest::onTheLastDay, List.of(
            new Call("pass(0)", x -> x.pass(0), BAD),
            new Call("pass(21)", x -> x.pass(21), BAD),
            new Call("latest(5)", x -> x.latest(5), BAD),
            new Call("call(5)", x -> x.call(5), BAD)));
        leavesAll("without stock", RefusalsTest::withoutStock, List.of(
            new Call("send(2)", x -> x.send(2), BAD),
            new Call("send(-1)", x -> x.send(-1), BAD)));
        NewsHampers x = laid("p0,40,1,1;");
        due("too late", x.latest(0), NONE);
        x.send(0);
        due("too late, and sent one", x.latest(0), NO);
    }

    private static void questions() {
        says("From now on, nothing else being done: a question changes nothing");
        List<Call> calls = new ArrayList<>();
        NewsHampers asked = busy();
        List<ToIntFunction<NewsHampers>> all = List.of(x -> x.fault(), x -> x.person(0, 6), x -> x.behind(60, 1),
            x -> x.when(3), x -> x.gentle(), x -> x.order(-1), x -> x.order(0), x -> x.need(), x -> x.kinds(3),
            x -> x.days(4, 0), x -> x.likely(3, 7, 5, 1), x -> x.year(77, 60, 2), x -> x.count(3));
        for (int i = 0; i < all.size(); i++) {
            calls.add(new Call("question " + i, all.get(i), all.get(i).applyAsInt(asked)));
        }
        leavesAll("busy", RefusalsTest::busy, calls);
        NewsHampers first = new NewsHampers();
        List<Call> latest = new ArrayList<>();
        for (int p = 0; p < 5; p++) {
            int whom = p;
            latest.add(new Call("latest(" + p + ")", x -> x.latest(whom), first.latest(p)));
            latest.add(new Call("when(" + p + ")", x -> x.when(whom), first.when(p)));
        }
        latest.add(new Call("need()", x -> x.need(), 5));
        latest.add(new Call("order(-1)", x -> x.order(-1), 23));
        leavesAll("at first", NewsHampers::new, latest);
    }
}
