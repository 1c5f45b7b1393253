import java.math.BigInteger;
import java.util.ArrayList;
import java.util.Arrays;
import java.util.List;
import java.util.NoSuchElementException;

/** The document once more, slow and plain, written apart from the class: everything is worked out anew. */
final class PlainHouse {
    record Told(int whose, int from, int told, String text, int parts) {
    }

    static final class Tree {
        int owner;
        int stick;
        int read;
        int length;
        int day;
        int rot;
        int bend;
        Integer check;
        long booked;
    }

    private static final BigInteger FAR = BigInteger.valueOf(1_000_000_000);

    int now = 0;
    String tape = "";
    final List<Told> laws = new ArrayList<>();
    final List<Told> errors = new ArrayList<>();
    final List<Tree> logs = new ArrayList<>();
    final long[] prices = {1, 1, 1, 1, 1, 1};
    final List<long[]> lines = new ArrayList<>();
    final List<List<int[]>> tallies = List.of(new ArrayList<>(), new ArrayList<>());
    int td = 0;
    int tl = 0;
    int allowance = 3;
    int stood = -1;
    int[] off = {0, 0};

    int feed(int... words) {
        StringBuilder more = new StringBuilder(tape);
        for (int word : words) {
            for (byte b : new byte[] {(byte) (word >> 24), (byte) (word >> 16), (byte) (word >> 8), (byte) word}) {
                if (b != 0) {
                    more.append((char) (b < 0 ? b + 256 : b));
                }
            }
        }
        if (more.length() > 120) {
            return -1;
        }
        tape = more.toString();
        return tape.length();
    }

    boolean end(int n) {
        if (n < 0 || n > tape.length()) {
            return false;
        }
        tape = tape.substring(0, n);
        return true;
    }

    int fault() {
        Reader reader = new Reader(tape, 1, 1);
        return reader.whole() == null ? reader.at : -1;
    }

    int law(int from) {
        if (fault() != -1 || from < 0 || from > 500 || laws.size() == 20) {
            return -1;
        }
        laws.add(new Told(0, from, now, tape, 0));
        tape = "";
        return laws.size() - 1;
    }

    long value(int law, int d, int l) {
        if (law < 0 || law >= laws.size() || d < 0 || d > 1000 || l < 0 || l > 1000) {
            throw new NoSuchElementException();
        }
        return new Reader(laws.get(law).text, d, l).whole().longValueExact();
    }

    int force(int day, int q) {
        return day < 0 || day > 500 || q < 0 || q > now ? -1 : inForce(laws, 0, day, q);
    }

    private static int inForce(List<Told> all, int whose, int day, int q) {
        for (int from = day; from >= 0; from--) {
            for (int i = all.size() - 1; i >= 0; i--) {
                Told t = all.get(i);
                if (t.whose == whose && t.from == from && t.told <= q) {
                    return i;
                }
            }
        }
        return -1;
    }

    int most(int d, int l) {
        if (d < 0 || d > 1000 || l < 0 || l > 1000) {
            return -1;
        }
        int best = -1;
        for (int i = laws.size() - 1; i >= 0; i--) {
            if (best == -1 || value(i, d, l) >= value(best, d, l)) {
                best = i;
            }
        }
        return best;
    }

    boolean error(int stick, int parts, int from) {
        if (stick < 0 || stick > 5 || parts < -200 || parts > 200 || from < 0 || from > 500 || errors.size() == 60) {
            return false;
        }
        errors.add(new Told(stick, from, now, "", parts));
        return true;
    }

    int log(int owner, int stick, int read, int length) {
        if (owner < 0 || owner > 5 || stick < 0 || stick > 5 || read < 1 || read > 99 || length < 1 || length > 60
                || logs.size() == 100) {
            return -1;
        }
        Tree t = new Tree();
        t.owner = owner;
        t.stick = stick;
        t.read = read;
        t.length = length;
        t.day = now;
        logs.add(t);
        return logs.size() - 1;
    }

    private boolean noLog(int log) {
        return log < 0 || log >= logs.size();
    }

    boolean defects(int log, int rot, int bend) {
        if (noLog(log) || rot < 0 || rot > 99 || bend < 0 || bend > 90) {
            return false;
        }
        logs.get(log).rot = rot;
        logs.get(log).bend = bend;
        return true;
    }

    int scale(int log, int q) {
        if (noLog(log) || q < 0 || q > now || logs.get(log).day > q) {
            return -1;
        }
        Tree t = logs.get(log);
        int law = inForce(laws, 0, t.day, q);
        if (law == -1) {
            return -1;
        }
        int error = inForce(errors, t.stick, t.day, q);
        int parts = error == -1 ? 0 : errors.get(error).parts;
        int d = t.read * 1000 / (1000 + parts) - t.rot;
        long worth = value(law, d < 0 ? 0 : d, t.length);
        worth = worth < 0 ? 0 : worth > 1_000_000 ? 1_000_000 : worth;
        return (int) (worth * (100 - t.bend) / 100);
    }

    int sum(int owner, int q) {
        if (owner < 0 || owner > 5 || q < 0 || q > now) {
            return -1;
        }
        int all = 0;
        for (int i = 0; i < logs.size(); i++) {
            int one = scale(i, q);
            all += logs.get(i).owner != owner || one == -1 ? 0 : one;
        }
        return all;
    }

    boolean price(int owner, int coins) {
        if (owner < 0 || owner > 5 || coins < 0 || coins > 20) {
            return false;
        }
        prices[owner] = coins;
        return true;
    }

    int day() {
        List<long[]> made = new ArrayList<>();
        for (int i = 0; i < logs.size(); i++) {
            int one = scale(i, now);
            long pay = (one == -1 ? 0 : one) * prices[logs.get(i).owner];
            if (pay != logs.get(i).booked) {
                made.add(new long[] {now, i, pay - logs.get(i).booked});
            }
        }
        if (now == 500 || lines.size() + made.size() > 20_000) {
            return -1;
        }
        for (long[] line : made) {
            logs.get((int) line[1]).booked += line[2];
        }
        lines.addAll(made);
        now++;
        return made.size();
    }

    int line(int i, int what) {
        boolean none = i < 0 || i >= lines.size() || what < 0 || what > 2;
        return none ? -1_000_000_000 : (int) lines.get(i)[what];
    }

    boolean check(int log, int d) {
        if (noLog(log) || d < 1 || d > 99) {
            return false;
        }
        logs.get(log).check = d;
        return true;
    }

    long habit(int stick, int what) {
        BigInteger above = BigInteger.ZERO;
        BigInteger below = BigInteger.ZERO;
        for (Tree t : logs) {
            if (t.stick == stick && t.check != null) {
                above = above.add(BigInteger.valueOf(t.read * t.check));
                below = below.add(BigInteger.valueOf(t.check * t.check));
            }
        }
        if (stick < 0 || stick > 5 || what < 0 || what > 1 || below.signum() == 0) {
            return -1;
        }
        return (what == 0 ? above : below).divide(above.gcd(below)).longValueExact();
    }

    int row(int tally, int d, int l) {
        if (tally < 0 || tally > 1 || d < 1 || d > 99 || l < 1 || l > 60 || tallies.get(tally).size() == 20) {
            return -1;
        }
        tallies.get(tally).add(new int[] {d, l});
        return tallies.get(tally).size() - 1;
    }

    void clear() {
        tallies.get(0).clear();
        tallies.get(1).clear();
    }

    boolean allow(int newTd, int newTl) {
        if (newTd < 0 || newTd > 20 || newTl < 0 || newTl > 20) {
            return false;
        }
        td = newTd;
        tl = newTl;
        return true;
    }

    boolean agree(int row, int other) {
        int[] a = tallies.get(0).get(row);
        int[] b = tallies.get(1).get(other);
        return Math.abs(a[0] - b[0]) <= td && Math.abs(a[1] - b[1]) <= tl;
    }

    int pairs() {
        return manyFrom(0, new boolean[20]);
    }

    /** How many pairs the rows from first on can have, with the seller's rows that are taken left out. */
    private int manyFrom(int first, boolean[] taken) {
        int[] holder = new int[20];
        Arrays.fill(holder, -1);
        int many = 0;
        for (int row = first; row < tallies.get(0).size(); row++) {
            many += place(row, holder, taken, new boolean[20]) ? 1 : 0;
        }
        return many;
    }

    private boolean place(int row, int[] holder, boolean[] taken, boolean[] seen) {
        for (int other = 0; other < tallies.get(1).size(); other++) {
            if (!taken[other] && !seen[other] && agree(row, other)) {
                seen[other] = true;
                if (holder[other] == -1 || place(holder[other], holder, taken, seen)) {
                    holder[other] = row;
                    return true;
                }
            }
        }
        return false;
    }

    /** Row by row: the lowest with which the rest can still have what is left to have. */
    int[] allPairs() {
        int[] has = new int[tallies.get(0).size()];
        boolean[] taken = new boolean[20];
        for (int row = 0; row < has.length; row++) {
            int left = manyFrom(row, taken);
            has[row] = -1;
            for (int other = 0; other < tallies.get(1).size() && has[row] == -1; other++) {
                if (!taken[other] && agree(row, other)) {
                    taken[other] = true;
                    if (manyFrom(row + 1, taken) + 1 == left) {
                        has[row] = other;
                    } else {
                        taken[other] = false;
                    }
                }
            }
        }
        return has;
    }

    int pair(int row) {
        return row < 0 || row >= tallies.get(0).size() ? -1 : allPairs()[row];
    }

    boolean near(int hundredths) {
        if (hundredths < 0 || hundredths > 100) {
            return false;
        }
        allowance = hundredths;
        return true;
    }

    int judge(int buyer, int seller, int third) {
        for (int x : new int[] {buyer, seller, third}) {
            if (x < 0 || x > 1_000_000) {
                return -1;
            }
        }
        boolean b = Math.abs((long) buyer - third) * 100 <= (long) third * allowance;
        boolean s = Math.abs((long) seller - third) * 100 <= (long) third * allowance;
        off[0] += b ? 0 : 1;
        off[1] += s ? 0 : 1;
        int verdict = b && s ? 0 : s ? 1 : b ? 2 : 3;
        stood = verdict == 1 ? seller : verdict == 2 ? buyer : third;
        return verdict;
    }

    int count(int what) {
        long coins = 0;
        for (long[] line : lines) {
            coins += line[2];
        }
        long[] all = {now, laws.size(), logs.size(), lines.size(), coins, tallies.get(0).size(),
            tallies.get(1).size(), tape.length(), stood, off[0], off[1]};
        return what < 0 || what > 10 ? -1 : (int) all[what];
    }

    /** Reads a text by its grammar; null where it is stuck, with at on that byte. */
    private static final class Reader {
        final String text;
        final int d;
        final int l;
        int at = 0;
        int deep = 0;

        Reader(String text, int d, int l) {
            this.text = text;
            this.d = d;
            this.l = l;
        }

        char next() {
            return at < text.length() ? text.charAt(at) : 0;
        }

        void blanks() {
            while (next() == 32) {
                at++;
            }
        }

        BigInteger whole() {
            BigInteger v = sum();
            return v != null && at < text.length() ? null : v;
        }

        BigInteger sum() {
            BigInteger v = product();
            while (v != null && (next() == '+' || next() == '-')) {
                char sign = next();
                at++;
                BigInteger w = product();
                v = w == null ? null : cut(sign == '+' ? v.add(w) : v.subtract(w));
            }
            return v;
        }

        BigInteger product() {
            BigInteger v = factor();
            while (v != null && (next() == '*' || next() == '/')) {
                char sign = next();
                at++;
                BigInteger w = factor();
                v = w == null ? null : cut(sign == '*' ? v.multiply(w) : quotient(v, w));
            }
            return v;
        }

        BigInteger factor() {
            blanks();
            BigInteger v = null;
            if (next() == 'd' || next() == 'l') {
                v = BigInteger.valueOf(next() == 'd' ? d : l);
                at++;
            } else if (next() >= '0' && next() <= '9') {
                int first = at;
                while (next() >= '0' && next() <= '9' && at < first + 5) {
                    at++;
                }
                if (next() >= '0' && next() <= '9') {
                    return null;
                }
                v = new BigInteger(text.substring(first, at));
            } else if (next() == '(' && deep < 8) {
                at++;
                deep++;
                v = sum();
                deep--;
                if (v == null || next() != ')') {
                    return null;
                }
                at++;
            }
            if (v != null) {
                blanks();
            }
            return v;
        }

        static BigInteger quotient(BigInteger a, BigInteger b) {
            if (b.signum() == 0) {
                return BigInteger.ZERO;
            }
            BigInteger[] both = a.divideAndRemainder(b);
            boolean down = both[1].signum() != 0 && a.signum() * b.signum() < 0;
            return down ? both[0].subtract(BigInteger.ONE) : both[0];
        }

        static BigInteger cut(BigInteger v) {
            return v.min(FAR).max(FAR.negate());
        }
    }
}
