import java.util.ArrayList;
import java.util.List;
import java.util.NoSuchElementException;

/** Houses in several states, and what a long row of later calls answers there; 512 calls at most in all. */
final class Houses {
    static final int NEW = 0;
    static final int FEW = 1;
    static final int FAULTY_TAPE = 2;
    static final int NEARLY_FULL = 3;
    static final int FULL = 4;
    static final int STATES = 5;
    static final String[] NAMES = {"new", "few", "faulty tape", "nearly full", "full"};

    private static final long THREW = Long.MIN_VALUE;

    private Houses() {
    }

    static ScaleHouse make(int state) {
        switch (state) {
            case NEW:
                return new ScaleHouse();
            case FEW:
                return few("d*(l+3)");
            case FAULTY_TAPE:
                return few("d*(l+3))+1");
            case NEARLY_FULL:
                return many(0);
            default:
                return many(1);
        }
    }

    private static ScaleHouse few(String tape) {
        ScaleHouse house = new ScaleHouse();
        Due.law(house, "d*l/2+7", 0);
        Due.law(house, "d*d-l", 1);
        house.error(0, 50, 0);
        house.error(1, -100, 1);
        house.log(0, 0, 30, 10);
        house.log(0, 1, 40, 20);
        house.price(0, 3);
        house.day();
        house.log(1, 0, 50, 30);
        house.log(5, 5, 60, 40);
        house.defects(0, 3, 10);
        house.check(0, 28);
        house.check(1, 44);
        house.check(3, 59);
        house.day();
        // Told, and not yet booked.
        house.error(0, -20, 1);
        house.price(5, 4);
        house.defects(1, 5, 50);
        Due.law(house, "d+l", 2);
        house.row(0, 10, 10);
        house.row(0, 12, 11);
        house.row(1, 11, 10);
        house.row(1, 14, 12);
        house.allow(2, 1);
        house.near(5);
        house.judge(90, 96, 100);
        Due.feed(house, tape);
        return house;
    }

    /** All but one of what there may be, or with one more all. */
    private static ScaleHouse many(int more) {
        ScaleHouse house = new ScaleHouse();
        for (int i = 0; i < 19 + more; i++) {
            Due.feedOnce(house, "d*l+" + i);
            house.law(i % 4 * 2);
        }
        for (int i = 0; i < 59 + more; i++) {
            house.error(i % 6, i * 37 % 401 - 200, i % 3);
        }
        for (int i = 0; i < 99 + more; i++) {
            house.log(i % 6, i * 5 % 6, 1 + i * 7 % 99, 1 + i * 11 % 60);
            if (i == 50) {
                house.day();
            }
        }
        house.price(1, 20);
        house.price(2, 0);
        house.day();
        house.defects(0, 0, 20);
        house.defects(98, 1, 0);
        for (int i = 0; i < 4; i++) {
            house.check(i * 32, 50 - i);
        }
        house.price(4, 9);
        for (int i = 0; i < 19 + more; i++) {
            house.row(0, 20 + i * 3 % 40, 20 + i * 2 % 10);
            house.row(1, 20 + i * 7 % 40, 20 + i * 4 % 10);
        }
        house.allow(3, 2);
        house.near(5);
        house.judge(94, 95, 100);
        Due.feed(house, "1+".repeat(59) + (more == 0 ? "1" : "1 "));
        return house;
    }

    /** What later calls answer: first those that ask alone, then such as tell more and so show what none asks for. */
    static List<Long> probe(ScaleHouse house) {
        List<Long> told = new ArrayList<>();
        askCounts(house, told);
        askLaws(house, told);
        askLogs(house, told);
        askPairs(house, told);
        tellJudgings(house, told);
        tellRows(house, told);
        tellTape(house, told);
        tellLogs(house, told);
        tellErrors(house, told);
        tellDay(house, told);
        return told;
    }

    private static void askCounts(ScaleHouse house, List<Long> told) {
        for (int what = 0; what <= 10; what++) {
            told.add((long) house.count(what));
        }
        told.add((long) house.fault());
    }

    static long valueOrThrew(ScaleHouse house, int law, int d, int l) {
        try {
            return house.value(law, d, l);
        } catch (NoSuchElementException e) {
            return THREW;
        }
    }

    private static void askLaws(ScaleHouse house, List<Long> told) {
        for (int law = 0; law <= 20; law++) {
            told.add(valueOrThrew(house, law, 30, 7));
        }
        for (int day : new int[] {0, 1, 2, 3, 6, 500}) {
            told.add((long) house.force(day, 0));
            told.add((long) house.force(day, house.count(0)));
        }
        told.add((long) house.most(0, 0));
        told.add((long) house.most(30, 7));
    }

    private static void askLogs(ScaleHouse house, List<Long> told) {
        int now = house.count(0);
        for (int log : new int[] {0, 1, 2, 3, 49, 98, 99, 100}) {
            told.add((long) house.scale(log, 0));
            told.add((long) house.scale(log, now));
        }
        for (int one = 0; one < 6; one++) {
            told.add((long) house.sum(one, now));
            told.add(house.habit(one, 0));
            told.add(house.habit(one, 1));
        }
        for (int what = 0; what <= 2; what++) {
            told.add((long) house.line(0, what));
            told.add((long) house.line(house.count(3) - 1, what));
        }
    }

    private static void askPairs(ScaleHouse house, List<Long> told) {
        told.add((long) house.pairs());
        for (int row : new int[] {0, 1, 2, 7, 13, 18, 19, 20}) {
            told.add((long) house.pair(row));
        }
    }

    private static void tellJudgings(ScaleHouse house, List<Long> told) {
        int[][] quarrels = {{95, 106, 100}, {94, 105, 100}, {97, 104, 100}, {96, 103, 100}};
        for (int[] q : quarrels) {
            told.add((long) house.judge(q[0], q[1], q[2]));
            told.add((long) house.count(8));
        }
        told.add((long) house.count(9));
        told.add((long) house.count(10));
    }

    /** A row at each tally, then pairs that are just within what is allowed and just beyond. */
    private static void tellRows(ScaleHouse house, List<Long> told) {
        for (int i = 0; i < 2; i++) {
            told.add((long) house.row(0, 90, 50));
            told.add((long) house.row(1, 90 + i, 50));
        }
        told.add((long) house.pairs());
        house.clear();
        for (int i = 0; i < 5; i++) {
            told.add((long) house.row(0, 10 * i + 10, 30));
            told.add((long) house.row(1, 10 * i + 10 + i, 30));
        }
        for (int i = 0; i < 5; i++) {
            told.add((long) house.row(0, 10 * i + 10, 10));
            told.add((long) house.row(1, 10 * i + 10, 10 + i));
        }
        for (int row = 0; row < 10; row++) {
            told.add((long) house.pair(row));
        }
    }

    private static void tellTape(ScaleHouse house, List<Long> told) {
        for (int i = 0; i < 2; i++) {
            told.add((long) house.feed(0, 0, ' ', 0, 0));
            told.add((long) house.fault());
            told.add((long) house.law(0));
            told.add((long) house.count(7));
            told.add(valueOrThrew(house, house.count(1) - 1, 5, 9));
        }
        for (int n : new int[] {7, 5, 1}) {
            told.add(house.end(n) ? 1L : 0L);
            told.add((long) house.fault());
        }
        told.add((long) Due.law(house, "d*100+l", 0));
    }

    /** A log of each owner and each stick, where there is room for them. */
    private static void tellLogs(ScaleHouse house, List<Long> told) {
        for (int i = 0; i < 6; i++) {
            int log = house.log(i, 5 - i, 50 + i, 30);
            told.add((long) log);
            told.add((long) house.scale(log, house.count(0)));
            told.add(house.check(log, 45) ? 1L : 0L);
            told.add(house.habit(5 - i, 0));
        }
    }

    private static void tellErrors(ScaleHouse house, List<Long> told) {
        for (int stick = 0; stick < 2; stick++) {
            told.add(house.error(stick, 77, 0) ? 1L : 0L);
        }
    }

    private static void tellDay(ScaleHouse house, List<Long> told) {
        int first = house.count(3);
        told.add((long) house.day());
        told.add((long) house.count(0));
        told.add((long) house.count(3));
        told.add((long) house.count(4));
        for (int i = first; i < first + 6; i++) {
            told.add((long) house.line(i, 0));
            told.add((long) house.line(i, 1));
            told.add((long) house.line(i, 2));
        }
        for (int owner = 0; owner < 6; owner++) {
            told.add((long) house.sum(owner, house.count(0)));
        }
        told.add((long) house.day());
        told.add((long) house.count(4));
    }
}
