/** The boundary cases of promises 24 near, 25 judge, 26 count. */
public final class BoundsJudgeTest {
    private static final int MILLION = 1_000_000;

    public static void main(String[] args) {
        nearArguments();
        nearEach();
        judgeArguments();
        judgeEdges();
        judgeOfZero();
        judgeCounts();
        countArguments();
        countFull();
        countLatest();
        Due.close("BoundsJudgeTest");
    }

    private static void judge(ScaleHouse house, int buyer, int seller, int third, int verdict, int stands) {
        String call = "judge(" + buyer + ", " + seller + ", " + third + ")";
        Due.is(call, house.judge(buyer, seller, third), verdict);
        Due.is("what stands behind " + call, house.count(8), stands);
    }

    private static void nearArguments() {
        Due.promise(24, "False: out of bounds");
        ScaleHouse house = new ScaleHouse();
        for (int x : Due.outside(0, 100)) {
            Due.no("near(" + x + ")", house.near(x));
            judge(house, 97, 104, 100, 2, 97);
            judge(house, 96, 103, 100, 1, 103);
        }
        Due.yes("near(50)", house.near(50));
        for (int x : Due.outside(0, 100)) {
            Due.no("near(" + x + ")", house.near(x));
            judge(house, 50, 151, 100, 2, 50);
            judge(house, 49, 150, 100, 1, 150);
        }
        Due.yes("near(0)", house.near(0));
        judge(house, 100, 101, 100, 2, 100);
        judge(house, 99, 100, 100, 1, 100);
        judge(house, 99, 101, 100, 3, 100);
        Due.yes("near(100)", house.near(100));
        judge(house, 0, 200, 100, 0, 100);
        judge(house, 0, 201, 100, 2, 0);
        judge(house, 201, 0, 100, 1, 0);
    }

    private static void nearEach() {
        Due.promise(24, "an ALLOWANCE (0 .. 100; 3 at first)");
        ScaleHouse house = new ScaleHouse();
        Due.is("at first, 3 above and below", house.judge(103, 97, 100), 0);
        Due.is("at first, 4 above and below", house.judge(104, 96, 100), 3);
        for (int allowance = 0; allowance <= 100; allowance++) {
            Due.yes("near(" + allowance + ")", house.near(allowance));
            Due.is("just near", house.judge(100 - allowance, 100 + allowance, 100), 0);
            Due.is("the seller's just not", house.judge(100 + allowance, 101 + allowance, 100), 2);
            Due.is("the buyer's just not", house.judge(101 + allowance, 100 + allowance, 100), 1);
        }
    }

    private static void judgeArguments() {
        Due.promise(25, "NONE: out of bounds");
        ScaleHouse house = new ScaleHouse();
        for (int round = 0; round < 2; round++) {
            for (int x : Due.outside(0, MILLION)) {
                Due.is("judge(" + x + ", 0, 0)", house.judge(x, 0, 0), -1);
                Due.is("judge(0, " + x + ", 0)", house.judge(0, x, 0), -1);
                Due.is("judge(0, 0, " + x + ")", house.judge(0, 0, x), -1);
                Due.is("judge(" + x + " thrice)", house.judge(x, x, x), -1);
            }
            Due.is("what stood", house.count(8), round == 0 ? -1 : 7);
            Due.is("the buyer's not near", house.count(9), round);
            Due.is("the seller's not near", house.count(10), 0);
            judge(house, 8, 7, 7, 1, 7);
        }
    }

    private static void judgeEdges() {
        Due.promise(25, "a third one (0 .. 1,000,000 each)");
        ScaleHouse house = new ScaleHouse();
        judge(house, MILLION, MILLION, MILLION, 0, MILLION);
        judge(house, MILLION, 0, MILLION, 2, MILLION);
        judge(house, 0, MILLION, MILLION, 1, MILLION);
        judge(house, 0, 0, MILLION, 3, MILLION);
        judge(house, 970_000, 969_999, MILLION, 2, 970_000);
        judge(house, 969_999, 970_000, MILLION, 1, 970_000);
        judge(house, MILLION, MILLION, 970_874, 0, 970_874);
        judge(house, MILLION, MILLION, 970_873, 3, 970_873);
        house.near(100);
        judge(house, MILLION, MILLION, 500_000, 0, 500_000);
        judge(house, MILLION, 0, 499_999, 1, 0);
        judge(house, 0, 0, MILLION, 0, MILLION);
        judge(house, MILLION, MILLION, 0, 3, 0);
        house.near(99);
        judge(house, 10_000, 9_999, MILLION, 2, 10_000);
        judge(house, 9_999, 10_000, MILLION, 1, 10_000);
        Due.promise(25, "times 100, is at most the third one times ALLOWANCE");
        house.near(3);
        judge(house, 32, 34, 33, 3, 33);
        judge(house, 33, 35, 34, 0, 34);
        judge(house, 32, 36, 34, 3, 34);
    }

    private static void judgeOfZero() {
        Due.promise(25, "a SCALE is near");
        ScaleHouse house = new ScaleHouse();
        for (int allowance : new int[] {0, 3, 100}) {
            house.near(allowance);
            judge(house, 0, 0, 0, 0, 0);
            judge(house, 1, 0, 0, 1, 0);
            judge(house, 0, 1, 0, 2, 0);
            judge(house, 1, 1, 0, 3, 0);
        }
        house.near(3);
        judge(house, 0, 0, 1, 3, 1);
        judge(house, 1, 2, 1, 2, 1);
    }

    private static void judgeCounts() {
        Due.promise(25, "how often each of them was not near is counted");
        ScaleHouse house = new ScaleHouse();
        int[][] quarrels = {{100, 100, 0, 0}, {90, 100, 1, 0}, {100, 90, 0, 1}, {90, 90, 1, 1}};
        int buyer = 0;
        int seller = 0;
        for (int i = 0; i < 100; i++) {
            int[] q = quarrels[i % 4];
            house.judge(q[0], q[1], 100);
            buyer += q[2];
            seller += q[3];
            Due.is("count(9) behind " + (i + 1), house.count(9), buyer);
            Due.is("count(10) behind " + (i + 1), house.count(10), seller);
        }
    }

    private static void countArguments() {
        Due.promise(26, "NONE for others");
        for (int state = 0; state < Houses.STATES; state++) {
            ScaleHouse house = Houses.make(state);
            for (int what : Due.outside(0, 10)) {
                Due.is(Houses.NAMES[state] + ": count(" + what + ")", house.count(what), -1);
            }
        }
    }

    private static void countFull() {
        Due.promise(26, "0 NOW, 1 LAWS, 2 LOGS, 3 LINES, 5, 6 rows of TALLY 0, 1, 7 bytes of the TAPE");
        ScaleHouse house = Houses.make(Houses.FULL);
        int[] want = {2, 20, 100, house.count(3), house.count(4), 20, 20, 120, 95, 1, 0};
        for (int what = 0; what <= 10; what++) {
            Due.is("full: count(" + what + ")", house.count(what), want[what]);
        }
        long coins = 0;
        for (int i = 0; i < house.count(3); i++) {
            coins += house.line(i, 2);
        }
        Due.is("coins of all LINES", house.count(4), coins);
        ScaleHouse one = new ScaleHouse();
        Due.feedOnce(one, "d");
        Due.is("one byte", one.count(7), 1);
        one.law(0);
        Due.is("one law", one.count(1), 1);
        Due.is("no byte", one.count(7), 0);
        one.log(0, 0, 10, 1);
        Due.is("one log", one.count(2), 1);
        Due.is("no line yet", one.count(3), 0);
        one.day();
        Due.is("one line", one.count(3), 1);
        Due.is("its coins", one.count(4), 10);
        Due.is("one day", one.count(0), 1);
        one.row(0, 1, 1);
        Due.is("one row of the buyer's", one.count(5), 1);
        Due.is("none of the seller's", one.count(6), 0);
        one.row(1, 1, 1);
        Due.is("one row of the seller's", one.count(6), 1);
    }

    private static void countLatest() {
        Due.promise(26, "what stood by the latest JUDGING (NONE)");
        ScaleHouse house = new ScaleHouse();
        Due.is("none yet", house.count(8), -1);
        Due.is("one out of bounds", house.judge(0, 0, -1), -1);
        Due.is("none still", house.count(8), -1);
        judge(house, 0, 0, 0, 0, 0);
        judge(house, MILLION, MILLION, MILLION, 0, MILLION);
        judge(house, 50, 98, 100, 1, 98);
        judge(house, 98, 50, 100, 2, 98);
        judge(house, 50, 50, 100, 3, 100);
        Due.is("one out of bounds", house.judge(MILLION + 1, 0, 0), -1);
        Due.is("the latest that was one", house.count(8), 100);
    }
}
