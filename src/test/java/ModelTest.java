import java.util.NoSuchElementException;
import java.util.Random;

/** All promises: long runs of mixed calls, each answer laid beside PlainHouse's. */
public final class ModelTest {
    private static final int RUNS = 1_000;
    // An object answers 512 calls; what one step makes at most stays free behind the last.
    private static final int CALLS = 512 - 14;
    private static final int LONGEST_TEXT = 160;

    private final Random random;
    private final ScaleHouse house = new ScaleHouse();
    private final PlainHouse plain = new PlainHouse();
    private final String run;
    // Which calls a run makes most of, so that some runs fill up and some get far in days.
    private final int[] weights = new int[25];
    private int allWeights = 0;
    private int clears = 0;

    private ModelTest(int seed) {
        random = new Random(seed);
        run = "run " + seed + ": ";
        for (int i = 0; i < weights.length; i++) {
            weights[i] = 1 + random.nextInt(random.nextInt(4) == 0 ? 60 : 8);
            allWeights += weights[i];
        }
    }

    public static void main(String[] args) {
        for (int seed = 0; seed < RUNS; seed++) {
            ModelTest test = new ModelTest(seed);
            int first = Due.asked();
            while (Due.asked() - first + test.clears < CALLS) {
                test.call(test.pick());
            }
        }
        smallTallies();
        Due.close("ModelTest");
    }

    private int pick() {
        int at = random.nextInt(allWeights);
        int which = 0;
        while (at >= weights[which]) {
            at -= weights[which];
            which++;
        }
        return which;
    }

    /** Mostly within low .. high, often at the edges, now and then beyond. */
    private int some(int low, int high) {
        switch (random.nextInt(24)) {
            case 0:
                return low - 1;
            case 1:
                return high + 1;
            case 2:
                return low;
            case 3:
                return high;
            case 4:
                return random.nextInt(6) == 0 ? random.nextInt() : low;
            default:
                return high < low ? low : low + random.nextInt(high - low + 1);
        }
    }

    private String expression(int depth) {
        StringBuilder text = new StringBuilder();
        int parts = 1 + random.nextInt(3);
        for (int i = 0; i < parts; i++) {
            if (i > 0) {
                text.append("+-*/".charAt(random.nextInt(4)));
            }
            text.append(random.nextInt(6) == 0 ? " " : "");
            switch (random.nextInt(depth < 8 ? 5 : 3)) {
                case 0:
                    text.append('d');
                    break;
                case 1:
                    text.append('l');
                    break;
                case 2:
                    text.append(random.nextInt(random.nextInt(3) == 0 ? 100_000 : 20));
                    break;
                default:
                    text.append('(').append(expression(depth + 1)).append(')');
                    break;
            }
            text.append(random.nextInt(6) == 0 ? " " : "");
        }
        return text.toString();
    }

    private String text() {
        if (random.nextInt(12) == 0) {
            StringBuilder nested = new StringBuilder();
            int depth = 6 + random.nextInt(4);
            nested.append("(".repeat(depth)).append(random.nextInt(200_000)).append(")".repeat(depth));
            return nested.toString();
        }
        StringBuilder text = new StringBuilder(expression(0));
        if (random.nextInt(3) == 0) {
            String signs = " dl()+-*/0123456789x";
            int at = random.nextInt(text.length());
            char sign = signs.charAt(random.nextInt(signs.length()));
            if (random.nextBoolean()) {
                text.setCharAt(at, sign);
            } else {
                text.insert(at, sign);
            }
        }
        return text.toString();
    }

    private void feed() {
        if (random.nextInt(6) == 0) {
            int[] w = random.ints(5).map(x -> random.nextInt(4) == 0 ? 0 : x).toArray();
            Due.is(run + "feed", house.feed(w[0], w[1], w[2], w[3], w[4]), plain.feed(w));
            return;
        }
        if (random.nextInt(3) != 0) {
            end(0);
        }
        String text = text();
        for (int at = 0; at < text.length() && at < LONGEST_TEXT; at += 20) {
            int[] w = new int[5];
            for (int i = 0; i < 5; i++) {
                w[i] = at + 4 * i < text.length() ? Due.word(text, at + 4 * i) : 0;
            }
            Due.is(run + "feed", house.feed(w[0], w[1], w[2], w[3], w[4]), plain.feed(w));
        }
        Due.is(run + "fault of '" + plain.tape + "'", house.fault(), plain.fault());
        if (random.nextBoolean()) {
            law(some(0, random.nextBoolean() ? 500 : plain.now + 1));
        }
    }

    private void end(int n) {
        Due.is(run + "end(" + n + ")", house.end(n) ? 1 : 0, plain.end(n) ? 1 : 0);
    }

    private void law(int from) {
        Due.is(run + "law(" + from + ")", house.law(from), plain.law(from));
    }

    private void value(int law, int d, int l) {
        long want;
        try {
            want = plain.value(law, d, l);
        } catch (NoSuchElementException e) {
            Due.noValue(house, law, d, l);
            return;
        }
        Due.is(run + "value(" + law + ", " + d + ", " + l + ")", house.value(law, d, l), want);
    }

    private void call(int which) {
        int a;
        int b;
        int c;
        switch (which) {
            case 0:
                feed();
                break;
            case 1:
                end(some(0, plain.tape.length()));
                break;
            case 2:
                Due.is(run + "fault()", house.fault(), plain.fault());
                break;
            case 3:
                law(some(0, 500));
                break;
            case 4:
                value(some(0, plain.laws.size() - 1), some(0, 1000), some(0, 1000));
                break;
            case 5:
                a = some(0, random.nextBoolean() ? 500 : plain.now);
                b = some(0, plain.now);
                Due.is(run + "force(" + a + ", " + b + ")", house.force(a, b), plain.force(a, b));
                break;
            case 6:
                a = some(0, 1000);
                b = some(0, 1000);
                Due.is(run + "most(" + a + ", " + b + ")", house.most(a, b), plain.most(a, b));
                break;
            case 7:
                a = some(0, 5);
                b = some(-200, 200);
                c = some(0, random.nextInt(3) == 0 ? 500 : plain.now);
                Due.is(run + "error(" + a + ", " + b + ", " + c + ")",
                        house.error(a, b, c) ? 1 : 0, plain.error(a, b, c) ? 1 : 0);
                break;
            case 8:
                a = some(0, 5);
                b = some(0, 5);
                c = some(1, 99);
                int length = some(1, 60);
                Due.is(run + "log(" + a + ", " + b + ", " + c + ", " + length + ")",
                        house.log(a, b, c, length), plain.log(a, b, c, length));
                break;
            case 9:
                a = some(0, plain.logs.size() - 1);
                b = some(0, random.nextBoolean() ? 99 : 9);
                c = some(0, 90);
                Due.is(run + "defects(" + a + ", " + b + ", " + c + ")",
                        house.defects(a, b, c) ? 1 : 0, plain.defects(a, b, c) ? 1 : 0);
                break;
            default:
                callLater(which);
                break;
        }
    }

    private void callLater(int which) {
        int a;
        int b;
        switch (which) {
            case 10:
                a = some(0, plain.logs.size() - 1);
                b = some(0, plain.now);
                Due.is(run + "scale(" + a + ", " + b + ")", house.scale(a, b), plain.scale(a, b));
                break;
            case 11:
                a = some(0, 5);
                b = some(0, plain.now);
                Due.is(run + "sum(" + a + ", " + b + ")", house.sum(a, b), plain.sum(a, b));
                break;
            case 12:
                a = some(0, 5);
                b = some(0, 20);
                Due.is(run + "price(" + a + ", " + b + ")",
                        house.price(a, b) ? 1 : 0, plain.price(a, b) ? 1 : 0);
                break;
            case 13:
                Due.is(run + "day()", house.day(), plain.day());
                break;
            case 14:
                a = some(0, plain.lines.size() - 1);
                b = some(0, 2);
                Due.is(run + "line(" + a + ", " + b + ")", house.line(a, b), plain.line(a, b));
                break;
            case 15:
                a = some(0, plain.logs.size() - 1);
                b = some(1, 99);
                Due.is(run + "check(" + a + ", " + b + ")",
                        house.check(a, b) ? 1 : 0, plain.check(a, b) ? 1 : 0);
                break;
            case 16:
                a = some(0, 5);
                b = some(0, 1);
                Due.is(run + "habit(" + a + ", " + b + ")", house.habit(a, b), plain.habit(a, b));
                break;
            default:
                callLast(which);
                break;
        }
    }

    private void callLast(int which) {
        int a;
        int b;
        int c;
        switch (which) {
            case 17:
                a = some(0, 1);
                b = random.nextInt(3) == 0 ? some(1, 99) : 30 + random.nextInt(10);
                c = random.nextInt(3) == 0 ? some(1, 60) : 30 + random.nextInt(4);
                Due.is(run + "row(" + a + ", " + b + ", " + c + ")", house.row(a, b, c), plain.row(a, b, c));
                break;
            case 18:
                if (random.nextInt(6) == 0) {
                    clears++;
                    house.clear();
                    plain.clear();
                }
                break;
            case 19:
                a = random.nextInt(3) == 0 ? some(0, 20) : random.nextInt(4);
                b = random.nextInt(3) == 0 ? some(0, 20) : random.nextInt(3);
                Due.is(run + "allow(" + a + ", " + b + ")",
                        house.allow(a, b) ? 1 : 0, plain.allow(a, b) ? 1 : 0);
                break;
            case 20:
                Due.is(run + "pairs()", house.pairs(), plain.pairs());
                break;
            case 21:
                a = some(0, plain.tallies.get(0).size() - 1);
                Due.is(run + "pair(" + a + ")", house.pair(a), plain.pair(a));
                break;
            case 22:
                a = some(0, 100);
                Due.is(run + "near(" + a + ")", house.near(a) ? 1 : 0, plain.near(a) ? 1 : 0);
                break;
            case 23:
                int greatest = random.nextBoolean() ? 1_000_000 : 100;
                a = some(0, greatest);
                b = some(0, greatest);
                c = some(0, greatest);
                Due.is(run + "judge(" + a + ", " + b + ", " + c + ")", house.judge(a, b, c), plain.judge(a, b, c));
                break;
            default:
                for (int what = -1; what <= 11; what++) {
                    Due.is(run + "count(" + what + ")", house.count(what), plain.count(what));
                }
                break;
        }
    }

    /** Every way of pairing is tried, so that neither the class's search nor PlainHouse's is taken on trust. */
    private static void smallTallies() {
        Random random = new Random(77);
        for (int run = 0; run < 2_000; run++) {
            ScaleHouse house = new ScaleHouse();
            PlainHouse plain = new PlainHouse();
            int td = random.nextInt(4);
            int tl = random.nextInt(3);
            house.allow(td, tl);
            plain.allow(td, tl);
            for (int i = random.nextInt(13); i > 0; i--) {
                int tally = random.nextInt(2);
                int d = 1 + random.nextInt(8);
                int l = 1 + random.nextInt(4);
                house.row(tally, d, l);
                plain.row(tally, d, l);
            }
            int rows = plain.tallies.get(0).size();
            int[] best = new int[rows];
            java.util.Arrays.fill(best, -1);
            best(plain, new int[rows], 0, 0, best);
            int many = 0;
            for (int row = 0; row < rows; row++) {
                many += best[row] == -1 ? 0 : 1;
                Due.is("small run " + run + ": pair(" + row + ")", house.pair(row), best[row]);
                Due.is("small run " + run + ": plain pair(" + row + ")", plain.pair(row), best[row]);
            }
            Due.is("small run " + run + ": pairs()", house.pairs(), many);
        }
    }

    private static void best(PlainHouse plain, int[] way, int row, int used, int[] best) {
        if (row == way.length) {
            if (isBetter(way, best)) {
                System.arraycopy(way, 0, best, 0, way.length);
            }
            return;
        }
        way[row] = -1;
        best(plain, way, row + 1, used, best);
        for (int other = 0; other < plain.tallies.get(1).size(); other++) {
            if ((used >> other & 1) == 0 && plain.agree(row, other)) {
                way[row] = other;
                best(plain, way, row + 1, used | 1 << other, best);
            }
        }
    }

    private static boolean isBetter(int[] way, int[] than) {
        int more = 0;
        for (int i = 0; i < way.length; i++) {
            more += (way[i] == -1 ? 0 : 1) - (than[i] == -1 ? 0 : 1);
        }
        for (int i = 0; more == 0 && i < way.length; i++) {
            if (way[i] != than[i]) {
                return than[i] == -1 || way[i] != -1 && way[i] < than[i];
            }
        }
        return more > 0;
    }
}
