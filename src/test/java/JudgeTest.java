/** Promises 24 near, 25 judge, 26 count. */
public final class JudgeTest {
    public static void main(String[] args) {
        verdicts();
        allowance();
        refused();
        counts();
        Due.close("JudgeTest");
    }

    private static void verdicts() {
        ScaleHouse house = new ScaleHouse();
        judge(house, 100, 100, 100, 0, 100);
        judge(house, 97, 103, 100, 0, 100);
        judge(house, 96, 103, 100, 1, 103);
        judge(house, 97, 104, 100, 2, 97);
        judge(house, 96, 104, 100, 3, 100);
        judge(house, 104, 97, 100, 1, 97);
        judge(house, 0, 0, 0, 0, 0);
        judge(house, 1, 0, 0, 1, 0);
        judge(house, 0, 1, 0, 2, 0);
        judge(house, 1, 1, 0, 3, 0);
        judge(house, 1_000_000, 0, 1_000_000, 2, 1_000_000);
        judge(house, 970_000, 969_999, 1_000_000, 2, 970_000);
        judge(house, 33, 32, 33, 2, 33);
        judge(house, 33, 33, 34, 0, 34);
        Due.is("the buyer's off", house.count(9), 5);
        Due.is("the seller's off", house.count(10), 7);
    }

    private static void judge(ScaleHouse house, int buyer, int seller, int third, int verdict, int stands) {
        Due.is("judge(" + buyer + ", " + seller + ", " + third + ")", house.judge(buyer, seller, third), verdict);
        Due.is("what stands", house.count(8), stands);
    }

    private static void allowance() {
        ScaleHouse house = new ScaleHouse();
        Due.no("-1", house.near(-1));
        Due.no("101", house.near(101));
        judge(house, 96, 97, 100, 1, 97);
        Due.yes("0", house.near(0));
        judge(house, 100, 101, 100, 2, 100);
        judge(house, 99, 100, 100, 1, 100);
        Due.yes("100", house.near(100));
        judge(house, 0, 200, 100, 0, 100);
        judge(house, 201, 200, 100, 1, 200);
        judge(house, 0, 1_000_000, 500_000, 0, 500_000);
        Due.no("refused", house.near(-5));
        judge(house, 0, 201, 100, 2, 0);
        Due.yes("4", house.near(4));
        judge(house, 96, 105, 100, 2, 96);
    }

    private static void refused() {
        ScaleHouse house = new ScaleHouse();
        int[][] off = {{-1, 0, 0}, {1_000_001, 0, 0}, {0, -1, 0}, {0, 1_000_001, 0}, {0, 0, -1}, {0, 0, 1_000_001}};
        for (int[] o : off) {
            Due.is("judge out of bounds", house.judge(o[0], o[1], o[2]), -1);
            Due.is("count(8)", house.count(8), -1);
        }
        judge(house, 5, 9, 5, 2, 5);
        for (int[] o : off) {
            Due.is("judge out of bounds", house.judge(o[0], o[1], o[2]), -1);
            Due.is("count(8)", house.count(8), 5);
        }
        Due.is("count(9)", house.count(9), 0);
        Due.is("count(10)", house.count(10), 1);
    }

    private static void counts() {
        ScaleHouse house = new ScaleHouse();
        Due.law(house, "d*l", 0);
        Due.law(house, "d", 0);
        for (int i = 0; i < 3; i++) {
            house.log(0, 0, 10 + i, 2);
        }
        house.day();
        house.defects(0, 1, 0);
        house.day();
        Due.days(house, 3);
        for (int i = 0; i < 6; i++) {
            house.row(0, 1, 1);
        }
        for (int i = 0; i < 7; i++) {
            house.row(1, 1, 1);
        }
        Due.feed(house, "d*l+d*l+");
        house.judge(50, 60, 100);
        house.judge(100, 60, 100);
        house.judge(100, 99, 90);
        house.judge(9, 99, 99);
        int[] want = {5, 2, 3, 4, 32, 6, 7, 8, 99, 3, 3, -1};
        for (int what = 0; what < want.length; what++) {
            Due.is("count(" + what + ")", house.count(what), want[what]);
        }
        Due.is("count(-1)", house.count(-1), -1);
        Due.is("count(MIN)", house.count(Integer.MIN_VALUE), -1);
        Due.is("count(MAX)", house.count(Integer.MAX_VALUE), -1);
        house.judge(100, 99, 20);
        Due.is("count(9)", house.count(9), 4);
        Due.is("count(10)", house.count(10), 4);
        house.judge(99, 50, 99);
        Due.is("count(9)", house.count(9), 4);
        Due.is("count(10)", house.count(10), 5);
    }
}
