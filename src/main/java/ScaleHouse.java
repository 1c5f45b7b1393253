import java.util.Arrays;
import java.util.NoSuchElementException;

public final class ScaleHouse {
    public static final int NONE = -1;

    private static final int LAST_DAY = 500;
    private static final int MOST_BYTES = 120;
    private static final int MOST_DIGITS = 5;
    private static final int DEEPEST = 8;
    private static final int MOST_LAWS = 20;
    private static final int MOST_SIZE_BY_LAW = 1_000;
    private static final int OWNERS = 6;
    private static final int STICKS = 6;
    private static final int MOST_ERRORS = 60;
    private static final int FARTHEST_ERROR = 200;
    private static final int MOST_LOGS = 100;
    private static final int MOST_D = 99;
    private static final int MOST_L = 60;
    private static final int MOST_ROT = 99;
    private static final int MOST_BEND = 90;
    private static final int MOST_SCALE = 1_000_000;
    private static final int MOST_PRICE = 20;
    private static final int MOST_LINES = 20_000;
    private static final int FIRST_LINES = 32;
    private static final int NO_LINE = -1_000_000_000;
    private static final int MOST_ROWS = 20;
    private static final int FARTHEST_APART = 20;
    private static final int MOST_ALLOWANCE = 100;
    // All laws are entered in their register under one name; errors are under their stick's number.
    private static final int THE_LAW = 0;

    private final Tape tape = new Tape();
    private final Reckoner reckoner = new Reckoner();
    private final Register lawDays = new Register(MOST_LAWS);
    private final Law[] laws = new Law[MOST_LAWS];
    private final Register errorDays = new Register(MOST_ERRORS);
    private final int[] errorParts = new int[MOST_ERRORS];
    private final Log[] logs = new Log[MOST_LOGS];
    private final int[] prices = new int[OWNERS];
    // A row made once, since a day that is refused must not have booked anything yet.
    private final int[] pays = new int[MOST_LOGS];
    private final Ledger ledger = new Ledger();
    private final Pairing pairing = new Pairing();
    private final Court court = new Court();
    private int logCount = 0;
    private int now = 0;

    public ScaleHouse() {
        Arrays.fill(prices, 1);
    }

    public int feed(int a, int b, int c, int d, int e) {
        int more = Tape.bytesIn(a) + Tape.bytesIn(b) + Tape.bytesIn(c) + Tape.bytesIn(d) + Tape.bytesIn(e);
        if (tape.size + more > MOST_BYTES) {
            return NONE;
        }
        tape.append(a);
        tape.append(b);
        tape.append(c);
        tape.append(d);
        tape.append(e);
        return tape.size;
    }

    public boolean end(int n) {
        if (!within(n, 0, tape.size)) {
            return false;
        }
        tape.size = n;
        return true;
    }

    public int fault() {
        return tape.firstFault();
    }

    public int law(int from) {
        if (!isDay(from) || lawDays.isFull() || tape.firstFault() != NONE) {
            return NONE;
        }
        int number = lawDays.enter(THE_LAW, from, now);
        laws[number] = new Law(tape.tokens());
        tape.size = 0;
        return number;
    }

    public long value(int law, int d, int l) throws NoSuchElementException {
        if (!within(law, 0, lawDays.size - 1) || !isSizeByLaw(d) || !isSizeByLaw(l)) {
            throw new NoSuchElementException();
        }
        return reckoner.reckon(laws[law].tokens, d, l);
    }

    public int force(int day, int q) {
        if (!isDay(day) || !isKnown(q)) {
            return NONE;
        }
        return lawDays.inForce(THE_LAW, day, q);
    }

    public int most(int d, int l) {
        if (!isSizeByLaw(d) || !isSizeByLaw(l)) {
            return NONE;
        }
        int best = NONE;
        long bestWorth = 0;
        for (int i = 0; i < lawDays.size; i++) {
            long worth = reckoner.reckon(laws[i].tokens, d, l);
            if (best == NONE || worth > bestWorth) {
                best = i;
                bestWorth = worth;
            }
        }
        return best;
    }

    public boolean error(int stick, int parts, int from) {
        if (!isStick(stick) || !within(parts, -FARTHEST_ERROR, FARTHEST_ERROR) || !isDay(from)
                || errorDays.isFull()) {
            return false;
        }
        int number = errorDays.enter(stick, from, now);
        errorParts[number] = parts;
        return true;
    }

    public int log(int owner, int stick, int read, int length) {
        if (!isOwner(owner) || !isStick(stick) || !within(read, 1, MOST_D) || !within(length, 1, MOST_L)
                || logCount >= MOST_LOGS) {
            return NONE;
        }
        logs[logCount] = new Log(owner, stick, read, length, now);
        return logCount++;
    }

    public boolean defects(int log, int rot, int bend) {
        if (!isLog(log) || !within(rot, 0, MOST_ROT) || !within(bend, 0, MOST_BEND)) {
            return false;
        }
        logs[log].rot = rot;
        logs[log].bend = bend;
        return true;
    }

    public int scale(int log, int q) {
        if (!isLog(log) || !isKnown(q)) {
            return NONE;
        }
        return scaleOf(logs[log], q);
    }

    public int sum(int owner, int q) {
        if (!isOwner(owner) || !isKnown(q)) {
            return NONE;
        }
        int all = 0;
        for (int i = 0; i < logCount; i++) {
            if (logs[i].owner == owner) {
                all += scaleOrNothing(logs[i], q);
            }
        }
        return all;
    }

    public boolean price(int owner, int coins) {
        if (!isOwner(owner) || !within(coins, 0, MOST_PRICE)) {
            return false;
        }
        prices[owner] = coins;
        return true;
    }

    public int day() {
        if (now >= LAST_DAY) {
            return NONE;
        }
        int changed = reckonPays();
        if (ledger.size + changed > MOST_LINES) {
            return NONE;
        }
        bookPays();
        now++;
        return changed;
    }

    public int line(int i, int what) {
        if (!within(i, 0, ledger.size - 1)) {
            return NO_LINE;
        }
        switch (what) {
            case 0:
                return ledger.days[i];
            case 1:
                return ledger.logs[i];
            case 2:
                return ledger.coins[i];
            default:
                return NO_LINE;
        }
    }

    public boolean check(int log, int d) {
        if (!isLog(log) || !within(d, 1, MOST_D)) {
            return false;
        }
        logs[log].checked = d;
        return true;
    }

    public long habit(int stick, int what) {
        if (!isStick(stick) || !within(what, 0, 1)) {
            return NONE;
        }
        long above = 0;
        long below = 0;
        for (int i = 0; i < logCount; i++) {
            Log log = logs[i];
            // A log without a check has 0 there, and so adds nothing to either sum.
            if (log.stick == stick) {
                above += log.read * log.checked;
                below += log.checked * log.checked;
            }
        }
        long common = commonDivisor(above, below);
        if (common == 0) {
            return NONE;
        }
        return (what == 0 ? above : below) / common;
    }

    public int row(int tally, int d, int l) {
        if (!within(tally, 0, 1) || !within(d, 1, MOST_D) || !within(l, 1, MOST_L)) {
            return NONE;
        }
        return pairing.addRow(tally, d, l);
    }

    public void clear() {
        pairing.removeRows();
    }

    public boolean allow(int td, int tl) {
        if (!within(td, 0, FARTHEST_APART) || !within(tl, 0, FARTHEST_APART)) {
            return false;
        }
        pairing.setApart(td, tl);
        return true;
    }

    public int pairs() {
        pairing.settle();
        return pairing.found;
    }

    public int pair(int row) {
        if (!within(row, 0, pairing.buyer.size - 1)) {
            return NONE;
        }
        pairing.settle();
        return pairing.sellerOf[row];
    }

    public boolean near(int hundredths) {
        if (!within(hundredths, 0, MOST_ALLOWANCE)) {
            return false;
        }
        court.allowance = hundredths;
        return true;
    }

    public int judge(int buyer, int seller, int third) {
        if (!isScale(buyer) || !isScale(seller) || !isScale(third)) {
            return NONE;
        }
        return court.decide(buyer, seller, third);
    }

    public int count(int what) {
        switch (what) {
            case 0:
                return now;
            case 1:
                return lawDays.size;
            case 2:
                return logCount;
            case 3:
                return ledger.size;
            case 4:
                return ledger.allCoins;
            case 5:
                return pairing.buyer.size;
            case 6:
                return pairing.seller.size;
            case 7:
                return tape.size;
            case 8:
                return court.stood;
            case 9:
                return court.buyerOff;
            case 10:
                return court.sellerOff;
            default:
                return NONE;
        }
    }

    private static boolean within(int x, int least, int greatest) {
        return x >= least && x <= greatest;
    }

    private static boolean isDay(int x) {
        return within(x, 0, LAST_DAY);
    }

    private static boolean isOwner(int x) {
        return within(x, 0, OWNERS - 1);
    }

    private static boolean isStick(int x) {
        return within(x, 0, STICKS - 1);
    }

    private static boolean isSizeByLaw(int x) {
        return within(x, 0, MOST_SIZE_BY_LAW);
    }

    private static boolean isScale(int x) {
        return within(x, 0, MOST_SCALE);
    }

    private boolean isKnown(int q) {
        return within(q, 0, now);
    }

    private boolean isLog(int x) {
        return within(x, 0, logCount - 1);
    }

    private int scaleOf(Log log, int q) {
        if (log.day > q) {
            return NONE;
        }
        int law = lawDays.inForce(THE_LAW, log.day, q);
        if (law == NONE) {
            return NONE;
        }
        long worth = reckoner.reckon(laws[law].tokens, trueD(log, q), log.length);
        int sound = (int) Math.max(0, Math.min(MOST_SCALE, worth));
        return sound * (100 - log.bend) / 100;
    }

    private int trueD(Log log, int q) {
        int entry = errorDays.inForce(log.stick, log.day, q);
        int parts = entry == NONE ? 0 : errorParts[entry];
        return Math.max(0, log.read * 1_000 / (1_000 + parts) - log.rot);
    }

    private int scaleOrNothing(Log log, int q) {
        int scale = scaleOf(log, q);
        return scale == NONE ? 0 : scale;
    }

    private int reckonPays() {
        int changed = 0;
        for (int i = 0; i < logCount; i++) {
            pays[i] = scaleOrNothing(logs[i], now) * prices[logs[i].owner];
            if (pays[i] != logs[i].booked) {
                changed++;
            }
        }
        return changed;
    }

    private void bookPays() {
        for (int i = 0; i < logCount; i++) {
            int difference = pays[i] - logs[i].booked;
            if (difference != 0) {
                ledger.write(now, i, difference);
                logs[i].booked = pays[i];
            }
        }
    }

    private static long commonDivisor(long a, long b) {
        long greater = a;
        long lesser = b;
        for (int step = 0; step < 100 && lesser != 0; step++) {
            long rest = greater % lesser;
            greater = lesser;
            lesser = rest;
        }
        return greater;
    }

    /** The bytes fed and not yet made a law. */
    private static final class Tape {
        private final int[] bytes = new int[MOST_BYTES];
        private int size = 0;

        static int bytesIn(int four) {
            int all = 0;
            for (int shift = 24; shift >= 0; shift -= 8) {
                if (((four >>> shift) & 255) != 0) {
                    all++;
                }
            }
            return all;
        }

        void append(int four) {
            for (int shift = 24; shift >= 0; shift -= 8) {
                int one = (four >>> shift) & 255;
                if (one != 0 && size < MOST_BYTES) {
                    bytes[size] = one;
                    size++;
                }
            }
        }

        int firstFault() {
            boolean wantsFactor = true;
            int depth = 0;
            int digits = 0;
            for (int i = 0; i < size; i++) {
                int one = bytes[i];
                if (isDigit(one)) {
                    if (!wantsFactor && (digits == 0 || digits == MOST_DIGITS)) {
                        return i;
                    }
                    digits++;
                    wantsFactor = false;
                    continue;
                }
                digits = 0;
                if (one == ' ') {
                    continue;
                }
                if (!fits(one, wantsFactor, depth)) {
                    return i;
                }
                if (one == '(') {
                    depth++;
                } else if (one == ')') {
                    depth--;
                } else {
                    wantsFactor = !wantsFactor;
                }
            }
            return wantsFactor || depth > 0 ? size : NONE;
        }

        private static boolean fits(int sign, boolean wantsFactor, int depth) {
            switch (sign) {
                case 'd':
                case 'l':
                    return wantsFactor;
                case '(':
                    return wantsFactor && depth < DEEPEST;
                case ')':
                    return !wantsFactor && depth > 0;
                case '+':
                case '-':
                case '*':
                case '/':
                    return !wantsFactor;
                default:
                    return false;
            }
        }

        /** Numbers as they are, other signs below 0, so that a law's digits are read but once. */
        int[] tokens() {
            int[] found = new int[size];
            int length = 0;
            boolean inNumber = false;
            for (int i = 0; i < size; i++) {
                int one = bytes[i];
                if (!isDigit(one)) {
                    inNumber = false;
                    if (one != ' ') {
                        found[length] = -one;
                        length++;
                    }
                } else if (inNumber && length > 0) {
                    found[length - 1] = found[length - 1] * 10 + one - '0';
                } else {
                    found[length] = one - '0';
                    length++;
                    inNumber = true;
                }
            }
            return Arrays.copyOf(found, length);
        }

        private static boolean isDigit(int one) {
            return one >= '0' && one <= '9';
        }
    }

    private static final class Law {
        private final int[] tokens;

        Law(int[] tokens) {
            this.tokens = tokens;
        }
    }

    /** Works out a law without faults; its rows are made once, since a day ends with up to 100 such. */
    private static final class Reckoner {
        private static final long FARTHEST = 1_000_000_000L;

        // At each depth of brackets: the sum so far, the product so far, and the sign ahead of what comes.
        private final long[] sums = new long[DEEPEST + 1];
        private final long[] products = new long[DEEPEST + 1];
        private final int[] sumSigns = new int[DEEPEST + 1];
        private final int[] productSigns = new int[DEEPEST + 1];
        private int depth = 0;

        long reckon(int[] tokens, int d, int l) {
            depth = 0;
            begin();
            for (int i = 0; i < tokens.length; i++) {
                int token = tokens[i];
                switch (-token) {
                    case 'd':
                        takeFactor(d);
                        break;
                    case 'l':
                        takeFactor(l);
                        break;
                    case '(':
                        if (depth < DEEPEST) {
                            depth++;
                            begin();
                        }
                        break;
                    case ')':
                        if (depth > 0) {
                            long inner = wholeSum();
                            depth--;
                            takeFactor(inner);
                        }
                        break;
                    case '+':
                    case '-':
                        sums[depth] = wholeSum();
                        sumSigns[depth] = -token;
                        beginProduct();
                        break;
                    case '*':
                    case '/':
                        productSigns[depth] = -token;
                        break;
                    default:
                        takeFactor(token);
                        break;
                }
            }
            return wholeSum();
        }

        // 0 + and 1 * ahead of the first change nothing, so first and later ones need no telling apart.
        private void begin() {
            sums[depth] = 0;
            sumSigns[depth] = '+';
            beginProduct();
        }

        private void beginProduct() {
            products[depth] = 1;
            productSigns[depth] = '*';
        }

        private void takeFactor(long factor) {
            long product = products[depth];
            if (productSigns[depth] == '*') {
                products[depth] = bounded(product * factor);
            } else if (factor == 0) {
                products[depth] = 0;
            } else {
                products[depth] = bounded(Math.floorDiv(product, factor));
            }
        }

        private long wholeSum() {
            long product = products[depth];
            return bounded(sumSigns[depth] == '+' ? sums[depth] + product : sums[depth] - product);
        }

        private static long bounded(long x) {
            if (x > FARTHEST) {
                return FARTHEST;
            }
            return x < -FARTHEST ? -FARTHEST : x;
        }
    }

    /** What was told, on which day and from which day on: laws and errors come into force alike. */
    private static final class Register {
        private final int[] names;
        private final int[] froms;
        private final int[] tolds;
        private int size = 0;

        Register(int most) {
            names = new int[most];
            froms = new int[most];
            tolds = new int[most];
        }

        boolean isFull() {
            return size >= names.length;
        }

        int enter(int name, int from, int told) {
            names[size] = name;
            froms[size] = from;
            tolds[size] = told;
            return size++;
        }

        int inForce(int name, int day, int q) {
            int best = NONE;
            for (int i = 0; i < size; i++) {
                boolean counts = names[i] == name && tolds[i] <= q && froms[i] <= day;
                if (counts && (best == NONE || froms[i] >= froms[best])) {
                    best = i;
                }
            }
            return best;
        }
    }

    private static final class Log {
        private final int owner;
        private final int stick;
        private final int read;
        private final int length;
        private final int day;
        private int rot = 0;
        private int bend = 0;
        private int checked = 0;
        private int booked = 0;

        Log(int owner, int stick, int read, int length, int day) {
            this.owner = owner;
            this.stick = stick;
            this.read = read;
            this.length = length;
            this.day = day;
        }
    }

    /** The lines; their rows grow, since few houses come near the 20,000 that there may be. */
    private static final class Ledger {
        private int[] days = new int[FIRST_LINES];
        private int[] logs = new int[FIRST_LINES];
        private int[] coins = new int[FIRST_LINES];
        private int size = 0;
        private int allCoins = 0;

        void write(int day, int log, int difference) {
            if (size >= days.length) {
                grow();
            }
            days[size] = day;
            logs[size] = log;
            coins[size] = difference;
            size++;
            allCoins += difference;
        }

        private void grow() {
            int room = Math.min(MOST_LINES, days.length * 2);
            days = Arrays.copyOf(days, room);
            logs = Arrays.copyOf(logs, room);
            coins = Arrays.copyOf(coins, room);
        }
    }

    private static final class Tally {
        private final int[] ds = new int[MOST_ROWS];
        private final int[] ls = new int[MOST_ROWS];
        private int size = 0;

        int add(int d, int l) {
            if (size >= MOST_ROWS) {
                return NONE;
            }
            ds[size] = d;
            ls[size] = l;
            return size++;
        }
    }

    /** The two tallies and their pairs, which are looked for only when asked after a change. */
    private static final class Pairing {
        private final Tally buyer = new Tally();
        private final Tally seller = new Tally();
        private final int[] sellerOf = new int[MOST_ROWS];
        private final int[] buyerOf = new int[MOST_ROWS];
        // For each buyer's row the seller's rows that agree with it, a bit each.
        private final int[] agreeing = new int[MOST_ROWS];
        private final int[] reachedFrom = new int[MOST_ROWS];
        private final int[] waiting = new int[MOST_ROWS];
        private int td = 0;
        private int tl = 0;
        private int found = 0;
        private boolean settled = false;

        int addRow(int tally, int d, int l) {
            settled = false;
            return tally == 0 ? buyer.add(d, l) : seller.add(d, l);
        }

        void removeRows() {
            settled = false;
            buyer.size = 0;
            seller.size = 0;
        }

        void setApart(int newTd, int newTl) {
            settled = false;
            td = newTd;
            tl = newTl;
        }

        void settle() {
            if (settled) {
                return;
            }
            compareRows();
            findAsManyAsCanBe();
            for (int row = 0; row < buyer.size; row++) {
                takeLowest(row);
            }
            settled = true;
        }

        private void compareRows() {
            for (int row = 0; row < buyer.size; row++) {
                agreeing[row] = 0;
                for (int other = 0; other < seller.size; other++) {
                    if (Math.abs(buyer.ds[row] - seller.ds[other]) <= td
                            && Math.abs(buyer.ls[row] - seller.ls[other]) <= tl) {
                        agreeing[row] |= 1 << other;
                    }
                }
            }
        }

        private void findAsManyAsCanBe() {
            Arrays.fill(sellerOf, NONE);
            Arrays.fill(buyerOf, NONE);
            found = 0;
            while (found < MOST_ROWS && pairOneMore(0)) {
                found++;
            }
        }

        /** Gives the row the lowest that leaves as many pairs, with all rows ahead of it kept as they are. */
        private void takeLowest(int row) {
            for (int other = 0; other < seller.size; other++) {
                boolean agrees = (agreeing[row] >> other & 1) != 0;
                if (agrees && !isKept(other, row) && moveTo(row, other)) {
                    return;
                }
            }
        }

        private boolean isKept(int other, int firstFree) {
            return buyerOf[other] != NONE && buyerOf[other] < firstFree;
        }

        private boolean moveTo(int row, int other) {
            int left = sellerOf[row];
            int robbed = buyerOf[other];
            if (left == other) {
                return true;
            }
            if (left != NONE) {
                buyerOf[left] = NONE;
            }
            if (robbed != NONE) {
                sellerOf[robbed] = NONE;
            }
            join(row, other);
            // A pair was lost only where both of them had one before.
            if (left == NONE || robbed == NONE || pairOneMore(row + 1)) {
                return true;
            }
            join(row, left);
            join(robbed, other);
            return false;
        }

        private void join(int row, int other) {
            sellerOf[row] = other;
            buyerOf[other] = row;
        }

        /** Looks for a way from a row without a pair to another such, changing no row ahead of firstFree. */
        private boolean pairOneMore(int firstFree) {
            Arrays.fill(reachedFrom, NONE);
            int length = 0;
            for (int row = firstFree; row < buyer.size; row++) {
                if (sellerOf[row] == NONE) {
                    waiting[length] = row;
                    length++;
                }
            }
            for (int i = 0; i < length && i < MOST_ROWS; i++) {
                int row = waiting[i];
                for (int other = 0; other < seller.size; other++) {
                    boolean agrees = (agreeing[row] >> other & 1) != 0;
                    if (!agrees || reachedFrom[other] != NONE || isKept(other, firstFree)) {
                        continue;
                    }
                    reachedFrom[other] = row;
                    if (buyerOf[other] == NONE) {
                        joinBackFrom(other);
                        return true;
                    }
                    if (length < MOST_ROWS) {
                        waiting[length] = buyerOf[other];
                        length++;
                    }
                }
            }
            return false;
        }

        private void joinBackFrom(int end) {
            int other = end;
            for (int step = 0; step < MOST_ROWS && other != NONE; step++) {
                int row = reachedFrom[other];
                int left = sellerOf[row];
                join(row, other);
                other = left;
            }
        }
    }

    private static final class Court {
        private int allowance = 3;
        private int stood = NONE;
        private int buyerOff = 0;
        private int sellerOff = 0;

        int decide(int buyer, int seller, int third) {
            boolean buyerNear = isNear(buyer, third);
            boolean sellerNear = isNear(seller, third);
            if (!buyerNear) {
                buyerOff++;
            }
            if (!sellerNear) {
                sellerOff++;
            }
            if (buyerNear == sellerNear) {
                stood = third;
                return buyerNear ? 0 : 3;
            }
            stood = sellerNear ? seller : buyer;
            return sellerNear ? 1 : 2;
        }

        private boolean isNear(int scale, int third) {
            return Math.abs(scale - third) * 100 <= third * allowance;
        }
    }
}
