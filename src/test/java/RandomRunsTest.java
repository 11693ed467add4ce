import java.util.Random;

/** Long runs of drawn calls, each answer against the plain model's. The draws are the same each time. */
public final class RandomRunsTest {
    private static final int RUNS = 400;
    private static final int CALLS = 400;

    private static final String[] NAMES = {"write", "wipe", "fault", "lay", "person", "send", "call", "buy", "pass",
        "undo", "behind", "when", "gentle", "latest", "order", "need", "seen", "forget", "kinds", "days", "likely",
        "year", "keep", "back", "count"};
    /** How often each is drawn, by the order of NAMES; the dear ones seldom. */
    private static final int[] OFTEN = {4, 1, 2, 0, 8, 40, 16, 8, 24,
        10, 8, 6, 8, 10, 2, 1, 6, 1, 8, 6, 6,
        8, 2, 2, 12};

    private final Random random;
    private final int run;
    private final NewsHampers x = new NewsHampers();
    private final PlainModel m = new PlainModel();
    private final StringBuilder story = new StringBuilder();
    private boolean wrong = false;

    private RandomRunsTest(int run) {
        this.run = run;
        this.random = new Random(run);
    }

    public static void main(String[] args) {
        int bad = 0;
        for (int run = 0; run < RUNS && bad < 5; run++) {
            RandomRunsTest test = new RandomRunsTest(run);
            test.go();
            bad += test.wrong ? 1 : 0;
        }
        System.out.println(bad == 0 ? RUNS + " runs are as the plain model's" : bad + " runs are not as due");
        if (bad != 0) {
            System.exit(1);
        }
    }

    private void go() {
        if (run % 4 != 0) {
            layDrawn();
        }
        for (int i = 0; i < CALLS && !wrong; i++) {
            if (random.nextInt(50) == 0) {
                layDrawn();
            } else {
                drawnCall();
            }
        }
    }

    private void check(String call, int got, int want) {
        story.append(call).append(" = ").append(got).append("\n");
        if (got != want && !wrong) {
            wrong = true;
            System.out.println("run " + run + ":\n" + story + "  due is " + want);
        }
    }

    private int upTo(int n) {
        return random.nextInt(n + 1);
    }

    /** Mostly from 0 to n, now and then one out of it. */
    private int about(int n) {
        int r = random.nextInt(40);
        return r == 0 ? -1 : r == 1 ? n + 1 : r == 2 ? random.nextInt() : upTo(n);
    }

    private void layDrawn() {
        check("wipe()", x.wipe(), m.wipe());
        String text = drawnText();
        for (int i = 0; i < text.length(); i++) {
            check("write(" + (int) text.charAt(i) + ")", x.write(text.charAt(i)), m.write(text.charAt(i)));
        }
        check("fault()", x.fault(), m.fault());
        check("lay()", x.lay(), m.lay());
        if (random.nextInt(10) == 0) {
            foresee("order");
            foresee("need");
        }
    }

    private String drawnText() {
        StringBuilder s = new StringBuilder();
        int persons = random.nextInt(10) == 0 ? upTo(8) : 1 + upTo(5);
        int mostMiles = random.nextBoolean() ? 40 : 15;
        int mostNews = random.nextBoolean() ? 40 : 9;
        boolean manyClever = random.nextInt(3) == 0;
        for (int i = 0; i < persons; i++) {
            int kind = manyClever && random.nextBoolean() ? 3 : upTo(3);
            s.append('p').append(kind).append(',').append(upTo(mostMiles)).append(',').append(upTo(mostNews))
                .append(',').append(1 + upTo(8)).append(';');
            if (random.nextInt(8) == 0) {
                s.append('h').append(upTo(20)).append(';');
            }
        }
        if (random.nextInt(4) != 0) {
            s.append(random.nextBoolean() ? "h" : "h0").append(upTo(7)).append(';');
        }
        if (random.nextInt(5) == 0 && s.length() > 0) {
            String signs = "ph,;0123456789 x";
            s.setCharAt(random.nextInt(s.length()), signs.charAt(random.nextInt(signs.length())));
        }
        return s.toString();
    }

    private void drawnCall() {
        int sum = 0;
        for (int often : OFTEN) {
            sum += often;
        }
        int r = random.nextInt(sum);
        int which = 0;
        while (r >= OFTEN[which]) {
            r -= OFTEN[which];
            which++;
        }
        if (NAMES[which].equals("pass")) {
            int n = random.nextInt(12) == 0 ? about(20) : 1 + upTo(2);
            check("pass(" + n + ")", x.pass(n), m.pass(n));
            return;
        }
        if (which < 10) {
            actOrFund(NAMES[which]);
        } else if (which < 16) {
            foresee(NAMES[which]);
        } else {
            rest(NAMES[which]);
        }
    }

    private void actOrFund(String name) {
        int p = about(5);
        int a = about(10);
        switch (name) {
            case "write" -> check("write(" + (a + 30) + ")", x.write(a + 30), m.write(a + 30));
            case "wipe" -> check("wipe()", x.wipe(), m.wipe());
            case "fault" -> check("fault()", x.fault(), m.fault());
            case "person" -> check("person(" + p + ", " + a + ")", x.person(p, a), m.person(p, a));
            case "send" -> check("send(" + p + ")", x.send(p), m.send(p));
            case "call" -> check("call(" + p + ")", x.call(p), m.call(p));
            case "buy" -> check("buy()", x.buy(), m.buy());
            case "undo" -> check("undo()", x.undo(), m.undo());
            default -> check("lay()", x.lay(), m.lay());
        }
    }

    private void foresee(String name) {
        int p = about(5);
        int n = random.nextBoolean() ? about(60) : upTo(10);
        int a = about(2);
        switch (name) {
            case "behind" -> check("behind(" + n + ", " + a + ")", x.behind(n, a), m.behind(n, a));
            case "when" -> check("when(" + p + ")", x.when(p), m.when(p));
            case "gentle" -> check("gentle()", x.gentle(), m.gentle());
            case "latest" -> check("latest(" + p + ")", x.latest(p), m.latest(p));
            case "order" -> {
                check("order(-1)", x.order(-1), m.order(-1));
                for (int k = 0; k < 6; k++) {
                    check("order(" + k + ")", x.order(k), m.order(k));
                }
            }
            default -> check("need()", x.need(), m.need());
        }
    }

    private void rest(String name) {
        int p = about(5);
        int n = random.nextBoolean() ? about(40) : upTo(10);
        int bit = about(1);
        int a = about(11);
        int f = about(7);
        int t = about(10);
        int z = about(9999);
        int d = 1 + about(59);
        int w = about(2);
        switch (name) {
            case "seen" -> {
                // mostly what will be so, that there be something to find
                boolean so = m.behind(n, 1) >= 0 && p >= 0 && p < 6 && (m.behind(n, 1) >> p & 1) == 1;
                int is = random.nextInt(3) == 0 ? bit : so ? 1 : 0;
                check("seen(" + n + ", " + p + ", " + is + ")", x.seen(n, p, is), m.seen(n, p, is));
            }
            case "forget" -> check("forget()", x.forget(), m.forget());
            case "kinds" -> check("kinds(" + p + ")", x.kinds(p), m.kinds(p));
            case "days" -> check("days(" + p + ", " + bit + ")", x.days(p, bit), m.days(p, bit));
            case "likely" -> check("likely(" + p + ", " + f + ", " + t + ", " + bit + ")",
                x.likely(p, f, t, bit), m.likely(p, f, t, bit));
            case "year" -> check("year(" + z + ", " + d + ", " + w + ")", x.year(z, d, w), m.year(z, d, w));
            case "keep" -> check("keep()", x.keep(), m.keep());
            case "back" -> check("back()", x.back(), m.back());
            default -> check("count(" + a + ")", x.count(a), m.count(a));
        }
    }
}
