/** The boundary cases of promises 14 price, 15 day, 16 line, 17 check, 18 habit. */
public final class BoundsPayTest {
    private static final int NO_LINE = -1_000_000_000;
    private static final int MIN = Integer.MIN_VALUE;
    private static final int MAX = Integer.MAX_VALUE;

    public static void main(String[] args) {
        priceArguments();
        priceLeastAndMost();
        dayOfNothing();
        dayOfNoDifference();
        lastDay();
        lastLines();
        tooManyAtOnce();
        greatestCoins();
        lineArguments();
        checkArguments();
        habitArguments();
        habitLowestTerms();
        habitOfAll();
        Due.close("BoundsPayTest");
    }

    private static ScaleHouse six() {
        ScaleHouse house = new ScaleHouse();
        Due.law(house, "d", 0);
        for (int i = 0; i < 6; i++) {
            house.log(i, i, 10 + i, 1);
        }
        return house;
    }

    private static void priceArguments() {
        Due.promise(14, "False: out of bounds");
        ScaleHouse house = six();
        for (int owner : Due.outside(0, 5)) {
            Due.no("price(" + owner + ", 9)", house.price(owner, 9));
        }
        for (int owner = 0; owner < 6; owner++) {
            for (int coins : Due.outside(0, 20)) {
                Due.no("price(" + owner + ", " + coins + ")", house.price(owner, coins));
            }
        }
        Due.is("1 at first, as before", house.day(), 6);
        for (int i = 0; i < 6; i++) {
            Due.is("line " + i, house.line(i, 2), 10 + i);
        }
        Due.is("count(4)", house.count(4), 75);
    }

    private static void priceLeastAndMost() {
        Due.promise(14, "PRICE of its OWNER (0 .. 20)");
        for (int owner = 0; owner < 6; owner++) {
            ScaleHouse house = six();
            Due.yes("price(" + owner + ", 20)", house.price(owner, 20));
            house.day();
            Due.is("20 coins each", house.line(owner, 2), 20 * (10 + owner));
            Due.is("the others 1", house.count(4), 75 + 19 * (10 + owner));
            Due.no("21", house.price(owner, 21));
            Due.no("-1", house.price(owner, -1));
            Due.is("as before", house.day(), 0);
            Due.yes("price(" + owner + ", 0)", house.price(owner, 0));
            Due.is("one line", house.day(), 1);
            Due.is("all of it back", house.line(6, 2), -20 * (10 + owner));
            Due.is("its log", house.line(6, 1), owner);
            Due.yes("19", house.price(owner, 19));
            Due.yes("as it is now", house.price(owner, 1));
            Due.is("one line", house.day(), 1);
            Due.is("1 coin each", house.line(7, 2), 10 + owner);
        }
    }

    private static void dayOfNothing() {
        Due.promise(15, "how many LINES it made");
        ScaleHouse house = new ScaleHouse();
        Due.is("no logs", house.day(), 0);
        house.log(0, 0, 50, 5);
        Due.is("no law", house.day(), 0);
        Due.law(house, "d", 2);
        Due.is("no law on its day", house.day(), 0);
        Due.law(house, "d-d", 1);
        Due.is("a scale of 0", house.day(), 0);
        Due.law(house, "d-d-1", 1);
        Due.is("a value below 0", house.day(), 0);
        house.price(0, 0);
        Due.law(house, "d", 1);
        Due.is("a price of 0", house.day(), 0);
        Due.is("count(3)", house.count(3), 0);
        Due.is("count(0)", house.count(0), 6);
        house.price(0, 1);
        Due.is("one at last", house.day(), 1);
        Due.is("its day", house.line(0, 0), 6);
        Due.is("its coins", house.line(0, 2), 50);
    }

    private static void dayOfNoDifference() {
        Due.promise(15, "another than what was BOOKED for it");
        ScaleHouse house = six();
        Due.is("all", house.day(), 6);
        Due.is("none", house.day(), 0);
        house.defects(2, 1, 0);
        Due.is("one less", house.day(), 1);
        Due.is("-1", house.line(6, 2), -1);
        house.defects(2, 0, 0);
        Due.is("one more", house.day(), 1);
        Due.is("1", house.line(7, 2), 1);
        house.defects(2, 5, 5);
        house.defects(2, 0, 0);
        Due.is("and back within a day", house.day(), 0);
        house.defects(0, 5, 0);
        house.price(0, 2);
        Due.is("half the scale at twice the price, the same pay", house.day(), 0);
        Due.is("lines", house.count(3), 8);
        Due.law(house, "d*0", 0);
        Due.is("all back", house.day(), 6);
        for (int i = 0; i < 6; i++) {
            Due.is("line " + (8 + i) + " is of", house.line(8 + i, 1), i);
            Due.is("line " + (8 + i) + " coins", house.line(8 + i, 2), -10 - i);
        }
        Due.is("count(4)", house.count(4), 0);
    }

    private static void lastDay() {
        Due.promise(15, "NONE, and nothing happens: NOW is 500");
        ScaleHouse house = new ScaleHouse();
        Due.feedOnce(house, "d");
        house.law(0);
        house.log(0, 0, 30, 1);
        for (int i = 0; i < 499; i++) {
            Due.is("day " + i, house.day(), i == 0 ? 1 : 0);
        }
        Due.is("NOW", house.count(0), 499);
        house.price(0, 3);
        Due.is("day 499 ends", house.day(), 1);
        Due.is("its day", house.line(1, 0), 499);
        house.price(0, 5);
        Due.is("day 500 does not", house.day(), -1);
        Due.is("NOW", house.count(0), 500);
        Due.is("lines", house.count(3), 2);
        Due.is("coins", house.count(4), 90);
        Due.is("no line", house.line(2, 2), NO_LINE);
    }

    /** 512 calls: 19,999 lines, then two more are too many, and one is not. */
    private static void lastLines() {
        Due.promise(15, "there would be more than 20,000 in all");
        ScaleHouse house = new ScaleHouse();
        Due.feedOnce(house, "d");
        house.law(0);
        for (int i = 0; i < 100; i++) {
            house.log(0, 0, 2 + i % 98, 1);
        }
        Due.is("day 0", house.day(), 100);
        for (int i = 1; i < 199; i++) {
            house.price(0, 1 + i % 2);
            Due.is("day " + i, house.day(), 100);
        }
        house.price(0, 2);
        house.defects(0, 1, 0);
        Due.is("19,999: log 0 has half the scale at twice the price", house.day(), 99);
        house.defects(5, 1, 0);
        house.defects(7, 1, 0);
        Due.is("20,001", house.day(), -1);
        Due.is("NOW as before", house.count(0), 200);
        Due.is("coins as before", house.count(4), 9906);
        house.defects(5, 0, 0);
        Due.is("20,000", house.day(), 1);
        Due.is("the last one's log", house.line(19_999, 1), 7);
        Due.is("lines", house.count(3), 20_000);
        Due.is("no line 20,000", house.line(20_000, 0), NO_LINE);
    }

    /** 20,000 lines; then a hundred more, one more, none. */
    private static void tooManyAtOnce() {
        Due.promise(15, "there would be more than 20,000 in all");
        ScaleHouse house = new ScaleHouse();
        Due.feedOnce(house, "7");
        house.law(0);
        for (int i = 0; i < 100; i++) {
            house.log(0, 0, 1, 1);
        }
        house.day();
        for (int i = 1; i < 200; i++) {
            house.price(0, 1 + i % 2);
            house.day();
        }
        house.price(0, 20);
        Due.is("20,100", house.day(), -1);
        Due.is("lines", house.count(3), 20_000);
        house.price(0, 2);
        Due.is("nothing was booked: none more", house.day(), 0);
        Due.is("NOW", house.count(0), 201);
        house.defects(99, 0, 90);
        Due.is("20,001", house.day(), -1);
        Due.is("NOW as before", house.count(0), 201);
        Due.is("coins as before", house.count(4), 1_400);
    }

    private static void greatestCoins() {
        Due.promise(15, "a LINE with the difference");
        ScaleHouse house = new ScaleHouse();
        Due.law(house, "99999*11", 0);
        for (int i = 0; i < 100; i++) {
            house.log(i % 6, 0, 1, 1);
        }
        for (int owner = 0; owner < 6; owner++) {
            house.price(owner, 20);
        }
        Due.is("100 lines", house.day(), 100);
        for (int i = 0; i < 100; i++) {
            Due.is("line " + i, house.line(i, 2), 20_000_000);
        }
        Due.is("all coins", house.count(4), 2_000_000_000);
        Due.law(house, "0-1", 0);
        Due.is("100 lines", house.day(), 100);
        for (int i = 100; i < 200; i++) {
            Due.is("line " + i, house.line(i, 2), -20_000_000);
        }
        Due.is("no coins", house.count(4), 0);
    }

    private static void lineArguments() {
        Due.promise(16, "-1,000,000,000 without, or for others");
        ScaleHouse house = six();
        int[] far = {-2, -1, 0, 1, 2, 3, MIN, MAX};
        for (int i : far) {
            for (int what : far) {
                Due.is("no lines: line(" + i + ", " + what + ")", house.line(i, what), NO_LINE);
            }
        }
        house.day();
        for (int i : Due.outside(0, 5)) {
            for (int what = 0; what <= 2; what++) {
                Due.is("line(" + i + ", " + what + ")", house.line(i, what), NO_LINE);
            }
        }
        for (int what : Due.outside(0, 2)) {
            Due.is("line(0, " + what + ")", house.line(0, what), NO_LINE);
            Due.is("line(5, " + what + ")", house.line(5, what), NO_LINE);
        }
        for (int i = 0; i < 6; i++) {
            Due.is("line(" + i + ", 0)", house.line(i, 0), 0);
            Due.is("line(" + i + ", 1)", house.line(i, 1), i);
            Due.is("line(" + i + ", 2)", house.line(i, 2), 10 + i);
        }
        house.defects(3, 1, 0);
        Due.is("not ahead of the day's end", house.line(6, 0), NO_LINE);
        house.day();
        Due.is("line(6, 0)", house.line(6, 0), 1);
        Due.is("line(6, 1)", house.line(6, 1), 3);
        Due.is("line(6, 2)", house.line(6, 2), -1);
        Due.is("line(7, 0)", house.line(7, 0), NO_LINE);
    }

    private static void checkArguments() {
        Due.promise(17, "False: no such LOG, out of bounds");
        ScaleHouse house = new ScaleHouse();
        for (int log : new int[] {-1, 0, 1, MIN, MAX}) {
            Due.no("no logs: check(" + log + ", 5)", house.check(log, 5));
        }
        house.log(0, 0, 50, 1);
        house.log(0, 1, 50, 1);
        for (int log : Due.outside(0, 1)) {
            Due.no("check(" + log + ", 5)", house.check(log, 5));
        }
        for (int d : Due.outside(1, 99)) {
            Due.no("check(0, " + d + ")", house.check(0, d));
            Due.no("check(1, " + d + ")", house.check(1, d));
        }
        habit(house, 0, -1, -1);
        habit(house, 1, -1, -1);
        Due.yes("check(0, 1)", house.check(0, 1));
        habit(house, 0, 50, 1);
        habit(house, 1, -1, -1);
        Due.yes("check(1, 99)", house.check(1, 99));
        habit(house, 1, 50, 99);
        for (int d : Due.outside(1, 99)) {
            Due.no("check(0, " + d + ")", house.check(0, d));
            Due.no("check(1, " + d + ")", house.check(1, d));
        }
        habit(house, 0, 50, 1);
        habit(house, 1, 50, 99);
        Due.yes("as told last", house.check(0, 99));
        habit(house, 0, 50, 99);
        for (int i = 2; i < 100; i++) {
            house.log(0, 2, 99, 1);
        }
        Due.yes("log 99", house.check(99, 98));
        Due.no("log 100", house.check(100, 98));
        habit(house, 2, 99, 98);
    }

    private static void habit(ScaleHouse house, int stick, long above, long below) {
        Due.is("habit(" + stick + ", 0)", house.habit(stick, 0), above);
        Due.is("habit(" + stick + ", 1)", house.habit(stick, 1), below);
    }

    private static void habitArguments() {
        Due.promise(18, "NONE: no such STICK, what; no CHECKS");
        ScaleHouse house = new ScaleHouse();
        for (int stick = 0; stick < 6; stick++) {
            habit(house, stick, -1, -1);
            house.log(5 - stick, stick, 60 + stick, 1);
            habit(house, stick, -1, -1);
        }
        for (int stick = 0; stick < 6; stick++) {
            house.check(stick, 60);
            for (int other = stick + 1; other < 6; other++) {
                habit(house, other, -1, -1);
            }
        }
        for (int stick : Due.outside(0, 5)) {
            habit(house, stick, -1, -1);
        }
        for (int what : Due.outside(0, 1)) {
            Due.is("habit(0, " + what + ")", house.habit(0, what), -1);
            Due.is("habit(5, " + what + ")", house.habit(5, what), -1);
        }
        habit(house, 0, 1, 1);
        habit(house, 1, 61, 60);
        habit(house, 2, 31, 30);
        habit(house, 3, 21, 20);
        habit(house, 4, 16, 15);
        habit(house, 5, 13, 12);
    }

    private static void habitLowestTerms() {
        Due.promise(18, "as a fraction in lowest terms");
        int[][] want = {{1, 1, 1, 1}, {99, 1, 99, 1}, {1, 99, 1, 99}, {99, 99, 1, 1}, {98, 99, 98, 99},
            {66, 99, 2, 3}, {99, 66, 3, 2}, {97, 89, 97, 89}, {64, 48, 4, 3}};
        for (int[] w : want) {
            ScaleHouse house = new ScaleHouse();
            house.log(0, 4, w[0], 1);
            house.check(0, w[1]);
            habit(house, 4, w[2], w[3]);
        }
    }

    private static void habitOfAll() {
        Due.promise(18, "over its LOGS with a CHECK");
        ScaleHouse house = new ScaleHouse();
        long above = 0;
        long below = 0;
        for (int i = 0; i < 100; i++) {
            house.log(0, 3, 99, 1);
            Due.yes("check " + i, house.check(i, i < 99 ? 99 : 98));
            above += 99 * (i < 99 ? 99 : 98);
            below += i < 99 ? 99 * 99 : 98 * 98;
        }
        // 99 * 9,899 by 979,903, which have no divisor in common: the greatest fraction there may be
        habit(house, 3, above, below);
        ScaleHouse half = new ScaleHouse();
        half.log(0, 3, 10, 1);
        half.log(0, 3, 99, 1);
        half.log(0, 2, 50, 1);
        half.check(0, 5);
        half.check(2, 40);
        habit(half, 3, 2, 1);
        habit(half, 2, 5, 4);
    }
}
