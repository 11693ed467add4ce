/** What the tests of the edges have in common: one sentence of the document at a time, and what is due by it. */
abstract class EdgeChecks {
    static final int BAD = -1, NO = -2, FULL = -3, NONE = -4;

    private static int wrong = 0;
    private static int sentences = 0;
    private static String sentence = "";

    /** The words of the document that the checks behind it hold to. */
    static void says(String words) {
        sentence = words;
        sentences++;
    }

    static void due(String call, int got, int want) {
        if (got != want) {
            wrong++;
            System.out.println("\"" + sentence + "\": " + call + " answered " + got + ", due is " + want);
        }
    }

    static void end() {
        System.out.println(wrong == 0 ? sentences + " sentences hold" : wrong + " answers are not as due");
        if (wrong != 0) {
            System.exit(1);
        }
    }

    static void put(NewsHampers x, String text) {
        for (int i = 0; i < text.length(); i++) {
            x.write(text.charAt(i));
        }
    }

    static NewsHampers written(String text) {
        NewsHampers x = new NewsHampers();
        put(x, text);
        return x;
    }

    static NewsHampers laid(String text) {
        NewsHampers x = written(text);
        if (x.lay() < 1) {
            due("lay() of " + text, NO, 1);
        }
        return x;
    }

    /** The class takes 20 days a call at most. */
    static void passTo(NewsHampers x, int day) {
        for (int i = 0; i < 50 && x.count(1) < day; i++) {
            x.pass(Math.min(20, day - x.count(1)));
        }
        due("the day that is next", x.count(1), day);
    }

    static void persons(NewsHampers x, int p, int... want) {
        for (int what = 0; what < want.length; what++) {
            due("person(" + p + ", " + what + ")", x.person(p, what), want[what]);
        }
    }

    static void counts(NewsHampers x, int... want) {
        for (int what = 0; what < want.length; what++) {
            due("count(" + what + ")", x.count(what), want[what]);
        }
    }
}
