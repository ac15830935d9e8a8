/** What the tests share: they print every answer that is not the one that is due, and then exit with 1. */
final class Expect {
    /** A call of the face. */
    interface Call {
        long answer();
    }

    /** A call of the face on a yard that has been made for it alone. */
    interface YardCall {
        long answer(ButterflyYard yard);
    }

    interface Maker {
        ButterflyYard made();
    }

    private static int wrong = 0;
    private static int asked = 0;

    private Expect() {
    }

    static void answer(long due, String call, Call made) {
        asked++;
        String got = outcome(made);
        if (!got.equals(Long.toString(due))) {
            report(call, got, Long.toString(due));
        }
    }

    static void thrown(Class<? extends RuntimeException> due, String call, Call made) {
        asked++;
        String got = outcome(made);
        if (!got.equals("throws " + due.getSimpleName())) {
            report(call, got, "throws " + due.getSimpleName());
        }
    }

    static void same(String due, String got, String what) {
        asked++;
        if (!got.equals(due)) {
            report(what, got, due);
        }
    }

    /** The answer, or the very class of what was thrown: a class below it would be another one. */
    static String outcome(Call made) {
        try {
            return Long.toString(made.answer());
        } catch (RuntimeException e) {
            return "throws " + e.getClass().getSimpleName();
        }
    }

    static void fill(ButterflyYard yard, int row, int... values) {
        yard.clear(row);
        for (int value : values) {
            yard.append(row, value);
        }
    }

    /** Fills a row up, with numbers that rise by 1. */
    static void full(ButterflyYard yard, int row, int first) {
        yard.clear(row);
        for (int number = 0; number < 64; number++) {
            yard.append(row, first + number);
        }
    }

    static String row(ButterflyYard yard, int row) {
        StringBuilder text = new StringBuilder();
        int length = yard.length(row);
        for (int entry = 0; entry < length; entry++) {
            text.append(entry == 0 ? "" : " ").append(yard.at(row, entry));
        }
        return text.toString();
    }

    /** All that can be seen of a yard: what a call that throws must not change. */
    static String state(ButterflyYard yard) {
        StringBuilder text = new StringBuilder();
        for (int row = 0; row < 4; row++) {
            text.append('[').append(row(yard, row)).append(']');
        }
        int plans = yard.plans();
        text.append(plans);
        for (int plan = 0; plan < plans; plan++) {
            text.append('(').append(yard.root(plan)).append(' ').append(yard.ways(plan)).append(')');
        }
        return text.toString();
    }

    /** Each call gets yards of its own: after 512 calls the answers of a yard are free. */
    static void unchanged(Maker maker, Class<? extends RuntimeException> due, String call, YardCall made) {
        ButterflyYard yard = maker.made();
        thrown(due, call, () -> made.answer(yard));
        same(state(maker.made()), state(yard), "the state after " + call);
    }

    private static void report(String what, String got, String due) {
        wrong++;
        System.out.println(what + ": " + got + ", due is " + due);
    }

    static void finish() {
        System.out.println(asked + " checks, " + wrong + " wrong");
        if (wrong != 0 || asked == 0) {
            System.exit(1);
        }
    }
}
