/** Promises 14 price, 15 day, 16 line. */
public final class PayTest {
    private static final int NO_LINE = -1_000_000_000;

    public static void main(String[] args) {
        prices();
        lines();
        lastDay();
        greatestCoins();
        manyLines();
        exactlyTwentyThousand();
        Due.close("PayTest");
    }

    private static void prices() {
        ScaleHouse house = new ScaleHouse();
        Due.law(house, "d", 0);
        house.log(0, 0, 10, 1);
        house.log(5, 0, 30, 1);
        Due.no("owner -1", house.price(-1, 5));
        Due.no("owner 6", house.price(6, 5));
        Due.no("coins -1", house.price(0, -1));
        Due.no("coins 21", house.price(0, 21));
        Due.is("1 at first", house.day(), 2);
        Due.is("log 0", house.line(0, 2), 10);
        Due.is("log 1", house.line(1, 2), 30);
        Due.yes("20", house.price(5, 20));
        Due.is("one line", house.day(), 1);
        Due.is("of log 1", house.line(2, 1), 1);
        Due.is("the difference", house.line(2, 2), 570);
        Due.yes("0", house.price(5, 0));
        Due.is("one line", house.day(), 1);
        Due.is("all back", house.line(3, 2), -600);
        Due.is("count(4)", house.count(4), 10);
        Due.yes("as it is now", house.price(0, 7));
        Due.yes("told last", house.price(0, 1));
        Due.is("no line", house.day(), 0);
    }

    private static void lines() {
        ScaleHouse house = new ScaleHouse();
        house.log(0, 0, 10, 1);
        house.log(0, 1, 20, 1);
        Due.is("no law, no pay", house.day(), 0);
        Due.is("count(0)", house.count(0), 1);
        Due.law(house, "d", 1);
        house.log(0, 1, 30, 1);
        Due.is("a law for log 2 alone", house.day(), 1);
        Due.is("its day", house.line(0, 0), 1);
        Due.is("its log", house.line(0, 1), 2);
        Due.is("its coins", house.line(0, 2), 30);
        Due.law(house, "d*2", 0);
        house.defects(2, 30, 0);
        Due.is("three lines", house.day(), 3);
        int[][] want = {{2, 0, 20}, {2, 1, 40}, {2, 2, -30}};
        for (int i = 0; i < 3; i++) {
            for (int what = 0; what < 3; what++) {
                Due.is("line(" + (i + 1) + ", " + what + ")", house.line(i + 1, what), want[i][what]);
            }
        }
        Due.is("line(4, 0)", house.line(4, 0), NO_LINE);
        Due.is("line(-1, 0)", house.line(-1, 0), NO_LINE);
        Due.is("line(0, 3)", house.line(0, 3), NO_LINE);
        Due.is("line(0, -1)", house.line(0, -1), NO_LINE);
        Due.is("line(MAX, 2)", house.line(Integer.MAX_VALUE, 2), NO_LINE);
        Due.is("count(3)", house.count(3), 4);
        Due.is("count(4)", house.count(4), 60);
        house.error(1, 100, 0);
        Due.is("known now, of a day gone by", house.day(), 1);
        Due.is("40 to 36", house.line(4, 2), -4);
        Due.is("nothing new", house.day(), 0);
        Due.is("count(0)", house.count(0), 5);
        Due.is("count(3)", house.count(3), 5);
    }

    private static void lastDay() {
        ScaleHouse house = new ScaleHouse();
        Due.law(house, "d", 500);
        for (int i = 0; i < 500; i++) {
            Due.is("day " + i, house.day(), 0);
        }
        Due.is("count(0)", house.count(0), 500);
        house.log(0, 0, 9, 9);
        Due.is("scale on day 500", house.scale(0, 500), 9);
        Due.is("day 500 never ends", house.day(), -1);
        Due.is("count(0)", house.count(0), 500);
        Due.is("no line of it", house.count(3), 0);
    }

    private static void greatestCoins() {
        ScaleHouse house = new ScaleHouse();
        Due.law(house, "99999*99999", 0);
        for (int i = 0; i < 100; i++) {
            house.log(2, 0, 1, 1);
        }
        house.price(2, 20);
        Due.is("100 lines", house.day(), 100);
        Due.is("20 millions each", house.line(99, 2), 20_000_000);
        Due.is("all coins", house.count(4), 2_000_000_000);
        house.price(2, 0);
        house.day();
        Due.is("all taken back", house.line(199, 2), -20_000_000);
        Due.is("no coins", house.count(4), 0);
    }

    private static ScaleHouse withLogs(int logs) {
        ScaleHouse house = new ScaleHouse();
        Due.law(house, "d", 0);
        for (int i = 0; i < logs; i++) {
            house.log(0, 0, 1 + i % 99, 1);
        }
        return house;
    }

    /** 100 logs make 19,900 lines in 199 days, so that some of the 512 calls are left to look at them. */
    private static void manyLines() {
        ScaleHouse house = withLogs(100);
        for (int i = 0; i < 199; i++) {
            house.price(0, 1 + i % 2);
            Due.is("day " + i, house.day(), 100);
        }
        Due.is("count(3)", house.count(3), 19_900);
        Due.is("the last one's day", house.line(19_899, 0), 198);
        Due.is("the last one's log", house.line(19_899, 1), 99);
        Due.is("the last one's coins", house.line(19_899, 2), -1);
        Due.is("line 9,900's log", house.line(9_900, 1), 0);
        Due.is("line 9,999's day", house.line(9_999, 0), 99);
        Due.is("line 9,998's coins", house.line(9_998, 2), 99);
        Due.is("nothing behind", house.line(19_900, 0), NO_LINE);
    }

    private static void exactlyTwentyThousand() {
        ScaleHouse house = withLogs(100);
        for (int i = 0; i < 200; i++) {
            house.price(0, 1 + i % 2);
            Due.is("day " + i, house.day(), 100);
        }
        Due.is("count(3)", house.count(3), 20_000);
        house.price(0, 1);
        Due.is("100 more", house.day(), -1);
        Due.is("count(0)", house.count(0), 200);
    }
}
