import java.util.List;

/**
 * "What is refused answers as told and changes nothing.": each call that is refused, in each state in which it is,
 * and behind it a long row of calls that answers as in a house in which it was never made.
 */
public final class RefusedTest {
    private static final String OUT = "out of bounds";
    private static final int NO_LINE = -1_000_000_000;
    private static final List<List<Long>> UNTOUCHED = new java.util.ArrayList<>();

    private interface Call {
        long on(ScaleHouse house);
    }

    public static void main(String[] args) {
        for (int state = 0; state < Houses.STATES; state++) {
            UNTOUCHED.add(Houses.probe(Houses.make(state)));
        }
        for (int state = 0; state < Houses.STATES; state++) {
            tape(state);
            laws(state);
            logs(state);
            logsTold(state);
            payAndChecks(state);
            pairs(state);
            judging(state);
        }
        fullAlone();
        Due.close("RefusedTest");
    }

    private static void refused(int state, String name, long answer, Call call) {
        String where = Houses.NAMES[state] + ": ";
        ScaleHouse house = Houses.make(state);
        Due.is(where + name, call.on(house), answer);
        List<Long> want = UNTOUCHED.get(state);
        List<Long> got = Houses.probe(house);
        Due.is(where + "answers behind " + name, got.size(), want.size());
        for (int i = 0; i < want.size() && i < got.size(); i++) {
            Due.is(where + "behind " + name + ", answer " + i, got.get(i), want.get(i));
        }
    }

    private static long bit(boolean b) {
        return b ? 1 : 0;
    }

    private static void tape(int state) {
        int size = Houses.make(state).count(7);
        Due.promise(3, "False: n");
        for (int n : Due.outside(0, size)) {
            refused(state, "end(" + n + ")", 0, h -> bit(h.end(n)));
        }
        if (state == Houses.NEARLY_FULL) {
            Due.promise(2, "NONE: more than 120");
            refused(state, "two bytes", -1, h -> h.feed('+' << 24, 0, 0, 0, '1'));
            refused(state, "twenty bytes", -1, h -> Due.feedOnce(h, "+1+1+1+1+1+1+1+1+1+1"));
            refused(state, "the greatest ints", -1, h -> h.feed(Integer.MAX_VALUE, Integer.MAX_VALUE,
                    Integer.MAX_VALUE, Integer.MAX_VALUE, Integer.MAX_VALUE));
            refused(state, "the smallest ints", -1, h -> h.feed(Integer.MIN_VALUE, Integer.MIN_VALUE,
                    Integer.MIN_VALUE, Integer.MIN_VALUE, Integer.MIN_VALUE));
        }
    }

    private static void laws(int state) {
        Due.promise(5, "NONE: no such DAY");
        for (int x : Due.outside(0, 500)) {
            refused(state, "law(" + x + ")", -1, h -> h.law(x));
        }
        if (state == Houses.NEW || state == Houses.FAULTY_TAPE) {
            Due.promise(5, "NONE: a FAULT");
            refused(state, "law(0)", -1, h -> h.law(0));
            refused(state, "law(500)", -1, h -> h.law(500));
        }
        int laws = Houses.make(state).count(1);
        int now = Houses.make(state).count(0);
        Due.promise(6, "NoSuchElementException: no such LAW, d, l");
        for (int x : Due.outside(0, laws - 1)) {
            refused(state, "value of law " + x, Long.MIN_VALUE, h -> Houses.valueOrThrew(h, x, 5, 5));
        }
        for (int x : Due.outside(0, 1000)) {
            refused(state, "value by d " + x, Long.MIN_VALUE, h -> Houses.valueOrThrew(h, 0, x, 5));
            refused(state, "value by l " + x, Long.MIN_VALUE, h -> Houses.valueOrThrew(h, 0, 5, x));
        }
        Due.promise(7, "NONE: none, no such DAY, q");
        for (int x : Due.outside(0, 500)) {
            refused(state, "force(" + x + ", 0)", -1, h -> h.force(x, 0));
        }
        for (int q : Due.outside(0, now)) {
            refused(state, "force(0, " + q + ")", -1, h -> h.force(0, q));
        }
        Due.promise(8, "NONE: there is none, no such d, l");
        for (int x : Due.outside(0, 1000)) {
            refused(state, "most(" + x + ", 5)", -1, h -> h.most(x, 5));
            refused(state, "most(5, " + x + ")", -1, h -> h.most(5, x));
        }
    }

    private static void logs(int state) {
        Due.promise(9, "False: out of bounds");
        for (int x : Due.outside(0, 5)) {
            refused(state, "error(" + x + ", 30, 0)", 0, h -> bit(h.error(x, 30, 0)));
        }
        for (int x : Due.outside(-200, 200)) {
            refused(state, "error(0, " + x + ", 0)", 0, h -> bit(h.error(0, x, 0)));
        }
        for (int x : Due.outside(0, 500)) {
            refused(state, "error(0, 30, " + x + ")", 0, h -> bit(h.error(0, 30, x)));
        }
        Due.promise(10, "NONE: out of bounds");
        for (int x : Due.outside(0, 5)) {
            refused(state, "log(" + x + ", 0, 9, 9)", -1, h -> h.log(x, 0, 9, 9));
            refused(state, "log(0, " + x + ", 9, 9)", -1, h -> h.log(0, x, 9, 9));
        }
        for (int x : Due.outside(1, 99)) {
            refused(state, "log(0, 0, " + x + ", 9)", -1, h -> h.log(0, 0, x, 9));
        }
        for (int x : Due.outside(1, 60)) {
            refused(state, "log(0, 0, 9, " + x + ")", -1, h -> h.log(0, 0, 9, x));
        }
    }

    private static void logsTold(int state) {
        int logs = Houses.make(state).count(2);
        int now = Houses.make(state).count(0);
        Due.promise(11, "False: no such one, out of bounds");
        for (int x : Due.outside(0, logs - 1)) {
            refused(state, "defects(" + x + ", 7, 7)", 0, h -> bit(h.defects(x, 7, 7)));
        }
        for (int x : Due.outside(0, 99)) {
            refused(state, "defects(0, " + x + ", 7)", 0, h -> bit(h.defects(0, x, 7)));
        }
        for (int x : Due.outside(0, 90)) {
            refused(state, "defects(0, 7, " + x + ")", 0, h -> bit(h.defects(0, 7, x)));
        }
        Due.promise(12, "NONE: likewise, no such LOG, q");
        for (int x : Due.outside(0, logs - 1)) {
            refused(state, "scale(" + x + ", 0)", -1, h -> h.scale(x, 0));
        }
        Due.promise(13, "NONE: no such OWNER, q");
        for (int x : Due.outside(0, 5)) {
            refused(state, "sum(" + x + ", 0)", -1, h -> h.sum(x, 0));
        }
        for (int q : Due.outside(0, now)) {
            refused(state, "sum(0, " + q + ")", -1, h -> h.sum(0, q));
            refused(state, "scale(0, " + q + ")", -1, h -> h.scale(0, q));
        }
    }

    private static void payAndChecks(int state) {
        int logs = Houses.make(state).count(2);
        int lines = Houses.make(state).count(3);
        Due.promise(14, "False: " + OUT);
        for (int x : Due.outside(0, 5)) {
            refused(state, "price(" + x + ", 8)", 0, h -> bit(h.price(x, 8)));
        }
        for (int x : Due.outside(0, 20)) {
            for (int owner = 0; owner < 6; owner++) {
                int o = owner;
                refused(state, "price(" + o + ", " + x + ")", 0, h -> bit(h.price(o, x)));
            }
        }
        Due.promise(16, "-1,000,000,000 without, or for others");
        for (int x : Due.outside(0, lines - 1)) {
            refused(state, "line(" + x + ", 0)", NO_LINE, h -> h.line(x, 0));
        }
        for (int x : Due.outside(0, 2)) {
            refused(state, "line(0, " + x + ")", NO_LINE, h -> h.line(0, x));
        }
        Due.promise(17, "False: no such LOG, out of bounds");
        for (int x : Due.outside(0, logs - 1)) {
            refused(state, "check(" + x + ", 8)", 0, h -> bit(h.check(x, 8)));
        }
        for (int x : Due.outside(1, 99)) {
            refused(state, "check(0, " + x + ")", 0, h -> bit(h.check(0, x)));
            refused(state, "check(2, " + x + ")", 0, h -> bit(h.check(2, x)));
        }
        Due.promise(18, "NONE: no such STICK, what");
        for (int x : Due.outside(0, 5)) {
            refused(state, "habit(" + x + ", 0)", -1, h -> h.habit(x, 0));
        }
        for (int x : Due.outside(0, 1)) {
            refused(state, "habit(0, " + x + ")", -1, h -> h.habit(0, x));
        }
    }

    private static void pairs(int state) {
        int rows = Houses.make(state).count(5);
        Due.promise(19, "NONE: no such TALLY, out of bounds");
        for (int x : Due.outside(0, 1)) {
            refused(state, "row(" + x + ", 9, 9)", -1, h -> h.row(x, 9, 9));
        }
        for (int tally = 0; tally < 2; tally++) {
            int t = tally;
            for (int x : Due.outside(1, 99)) {
                refused(state, "row(" + t + ", " + x + ", 9)", -1, h -> h.row(t, x, 9));
            }
            for (int x : Due.outside(1, 60)) {
                refused(state, "row(" + t + ", 9, " + x + ")", -1, h -> h.row(t, 9, x));
            }
        }
        Due.promise(21, "False: " + OUT);
        for (int x : Due.outside(0, 20)) {
            refused(state, "allow(" + x + ", 4)", 0, h -> bit(h.allow(x, 4)));
            refused(state, "allow(4, " + x + ")", 0, h -> bit(h.allow(4, x)));
        }
        Due.promise(23, "NONE: none, no such row");
        for (int x : Due.outside(0, rows - 1)) {
            refused(state, "pair(" + x + ")", -1, h -> h.pair(x));
        }
    }

    private static void judging(int state) {
        Due.promise(24, "False: " + OUT);
        for (int x : Due.outside(0, 100)) {
            refused(state, "near(" + x + ")", 0, h -> bit(h.near(x)));
        }
        Due.promise(25, "NONE: " + OUT);
        for (int x : Due.outside(0, 1_000_000)) {
            refused(state, "judge(" + x + ", 50, 100)", -1, h -> h.judge(x, 50, 100));
            refused(state, "judge(50, " + x + ", 100)", -1, h -> h.judge(50, x, 100));
            refused(state, "judge(50, 50, " + x + ")", -1, h -> h.judge(50, 50, x));
        }
        Due.promise(26, "NONE for others");
        for (int x : Due.outside(0, 10)) {
            refused(state, "count(" + x + ")", -1, h -> h.count(x));
        }
    }

    /** What is refused for being full alone. */
    private static void fullAlone() {
        int state = Houses.FULL;
        Due.promise(2, "NONE: more than 120");
        refused(state, "a byte", -1, h -> h.feed(0, 0, 0, 0, '1'));
        refused(state, "twenty bytes", -1, h -> Due.feedOnce(h, "+1+1+1+1+1+1+1+1+1+1"));
        Due.promise(5, "NONE: there are 20");
        refused(state, "law(0)", -1, h -> h.law(0));
        refused(state, "law(500)", -1, h -> h.law(500));
        Due.promise(9, "False: there were 60");
        for (int stick = 0; stick < 6; stick++) {
            int s = stick;
            refused(state, "error(" + s + ", 30, 0)", 0, h -> bit(h.error(s, 30, 0)));
            refused(state, "error(" + s + ", 30, 2)", 0, h -> bit(h.error(s, 30, 2)));
        }
        Due.promise(10, "NONE: there are 100");
        refused(state, "log(0, 0, 9, 9)", -1, h -> h.log(0, 0, 9, 9));
        refused(state, "log(5, 5, 99, 60)", -1, h -> h.log(5, 5, 99, 60));
        Due.promise(19, "NONE: it has 20");
        refused(state, "row(0, 20, 20)", -1, h -> h.row(0, 20, 20));
        refused(state, "row(1, 20, 20)", -1, h -> h.row(1, 20, 20));
    }
}
