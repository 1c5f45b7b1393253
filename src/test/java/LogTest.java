/** Promises 9 error, 10 log, 11 defects, 12 scale, 13 sum. */
public final class LogTest {
    public static void main(String[] args) {
        errors();
        sixtyErrors();
        logs();
        defects();
        scales();
        scaleByDays();
        sums();
        Due.close("LogTest");
    }

    private static void errors() {
        ScaleHouse house = new ScaleHouse();
        Due.law(house, "d", 0);
        house.log(0, 2, 99, 1);
        Due.no("stick -1", house.error(-1, 0, 0));
        Due.no("stick 6", house.error(6, 0, 0));
        Due.no("parts -201", house.error(2, -201, 0));
        Due.no("parts 201", house.error(2, 201, 0));
        Due.no("from -1", house.error(2, 5, -1));
        Due.no("from 501", house.error(2, 5, 501));
        Due.is("nothing of these", house.scale(0, 0), 99);
        Due.yes("another stick", house.error(3, 200, 0));
        Due.is("another stick's", house.scale(0, 0), 99);
        Due.yes("parts 200", house.error(2, 200, 0));
        Due.is("99,000 by 1,200, cut", house.scale(0, 0), 82);
        Due.yes("from 1", house.error(2, -100, 1));
        Due.is("not from 1 on", house.scale(0, 0), 82);
        Due.yes("parts -200", house.error(2, -200, 0));
        Due.is("the one told last", house.scale(0, 0), 123);
        Due.yes("parts -1", house.error(2, -1, 0));
        Due.is("99,000 by 999, cut", house.scale(0, 0), 99);
        Due.yes("parts -10", house.error(2, -10, 0));
        Due.is("99,000 by 990, just", house.scale(0, 0), 100);
        Due.yes("parts 1", house.error(2, 1, 0));
        Due.is("99,000 by 1,001, cut", house.scale(0, 0), 98);
        Due.yes("from 500", house.error(5, 1, 500));
        Due.yes("stick 0", house.error(0, -1, 0));
    }

    private static void sixtyErrors() {
        ScaleHouse house = new ScaleHouse();
        Due.law(house, "d", 0);
        house.log(0, 5, 90, 1);
        for (int i = 0; i < 60; i++) {
            Due.yes("error " + i, house.error(i % 6, i - 30, 0));
        }
        Due.no("a 61st", house.error(5, -100, 0));
        Due.is("the 60th", house.scale(0, 0), 90_000 / 1_029);
    }

    private static void logs() {
        ScaleHouse house = new ScaleHouse();
        int[][] off = {{-1, 0, 1, 1}, {6, 0, 1, 1}, {0, -1, 1, 1}, {0, 6, 1, 1}, {0, 0, 0, 1}, {0, 0, 100, 1},
            {0, 0, 1, 0}, {0, 0, 1, 61}, {Integer.MIN_VALUE, 0, 1, 1}, {0, 0, Integer.MAX_VALUE, 1}};
        for (int[] o : off) {
            Due.is("log out of bounds", house.log(o[0], o[1], o[2], o[3]), -1);
        }
        Due.is("count(2)", house.count(2), 0);
        Due.is("the greatest", house.log(5, 5, 99, 60), 0);
        Due.is("the least", house.log(0, 0, 1, 1), 1);
        for (int i = 2; i < 100; i++) {
            Due.is("log " + i, house.log(i % 6, 0, 1 + i % 99, 1 + i % 60), i);
        }
        Due.is("a 101st", house.log(0, 0, 1, 1), -1);
        Due.is("count(2)", house.count(2), 100);
        Due.law(house, "d*100+l", 0);
        Due.is("log 0's", house.scale(0, 0), 9960);
        Due.is("log 1's", house.scale(1, 0), 101);
        for (int i = 2; i < 100; i++) {
            Due.is("log " + i + "'s", house.scale(i, 0), (1 + i % 99) * 100 + 1 + i % 60);
        }
        Due.is("log 100's", house.scale(100, 0), -1);
    }

    private static void defects() {
        ScaleHouse house = new ScaleHouse();
        Due.law(house, "d*1000+l", 0);
        Due.no("no logs", house.defects(0, 0, 0));
        house.log(0, 0, 50, 10);
        house.log(0, 0, 50, 10);
        Due.yes("rot and bend", house.defects(0, 7, 10));
        Due.is("scale", house.scale(0, 0), 43_010 * 90 / 100);
        Due.is("the other's", house.scale(1, 0), 50_010);
        Due.no("log -1", house.defects(-1, 1, 1));
        Due.no("log 2", house.defects(2, 1, 1));
        Due.no("rot -1", house.defects(0, -1, 1));
        Due.no("rot 100", house.defects(0, 100, 1));
        Due.no("bend -1", house.defects(0, 1, -1));
        Due.no("bend 91", house.defects(0, 1, 91));
        Due.is("as before", house.scale(0, 0), 43_010 * 90 / 100);
        Due.yes("the greatest", house.defects(0, 99, 90));
        Due.is("d at least 0", house.scale(0, 0), 1);
        Due.yes("the least", house.defects(0, 0, 0));
        Due.is("as told last", house.scale(0, 0), 50_010);
        Due.days(house, 2);
        Due.yes("told later", house.defects(0, 49, 50));
        Due.is("for all q", house.scale(0, 0), 505);
        Due.is("for all q", house.scale(0, 2), 505);
    }

    private static void scales() {
        ScaleHouse house = new ScaleHouse();
        house.log(0, 0, 99, 60);
        Due.is("without a law", house.scale(0, 0), -1);
        Due.law(house, "d*d*d*d", 0);
        Due.is("at most", house.scale(0, 0), 1_000_000);
        house.defects(0, 0, 1);
        Due.is("bounded ahead of the bend", house.scale(0, 0), 990_000);
        house.defects(0, 0, 90);
        Due.is("bend 90", house.scale(0, 0), 100_000);
        Due.law(house, "0-d", 0);
        Due.is("at least 0", house.scale(0, 0), 0);
        Due.law(house, "199", 0);
        house.defects(0, 0, 1);
        Due.is("199 times 99 by 100, cut", house.scale(0, 0), 197);
        Due.law(house, "l*100+d", 0);
        house.defects(0, 0, 0);
        Due.is("d and l", house.scale(0, 0), 6099);
        house.error(0, 7, 0);
        Due.is("99,000 by 1,007, cut", house.scale(0, 0), 6098);
        house.defects(0, 98, 0);
        Due.is("rot behind the stick", house.scale(0, 0), 6000);
        house.error(0, -200, 0);
        house.defects(0, 99, 0);
        Due.is("d above 99", house.scale(0, 0), 6024);
        Due.is("no log -1", house.scale(-1, 0), -1);
        Due.is("no log 1", house.scale(1, 0), -1);
        Due.is("no q -1", house.scale(0, -1), -1);
        Due.is("no q 1", house.scale(0, 1), -1);
    }

    private static void scaleByDays() {
        ScaleHouse house = new ScaleHouse();
        Due.law(house, "d", 2);
        Due.days(house, 1);
        house.log(0, 0, 40, 1);
        Due.is("no law on its day", house.scale(0, 1), -1);
        Due.days(house, 1);
        house.log(0, 0, 40, 1);
        Due.is("a law on its day", house.scale(1, 2), 40);
        Due.is("not told by 1", house.scale(1, 1), -1);
        house.error(0, 100, 2);
        Due.is("error from its day on", house.scale(1, 2), 36);
        Due.days(house, 1);
        house.error(0, -100, 2);
        house.error(0, 200, 3);
        Due.law(house, "d*10", 1);
        Due.is("known in 2: the older error", house.scale(1, 2), 36);
        Due.is("known in 3: the newer error", house.scale(1, 3), 44);
        Due.is("known in 2: none for log 0", house.scale(0, 2), -1);
        Due.is("known in 3: a law told later", house.scale(0, 3), 400);
        Due.is("known in 0: not told", house.scale(0, 0), -1);
        Due.is("q 4", house.scale(0, 4), -1);
    }

    private static void sums() {
        ScaleHouse house = new ScaleHouse();
        house.log(3, 0, 10, 1);
        Due.is("none has a scale", house.sum(3, 0), 0);
        Due.law(house, "d", 0);
        house.log(3, 1, 20, 1);
        house.log(4, 1, 40, 1);
        Due.is("two of 3", house.sum(3, 0), 30);
        Due.is("one of 4", house.sum(4, 0), 40);
        Due.is("none of 0", house.sum(0, 0), 0);
        Due.is("none of 5", house.sum(5, 0), 0);
        Due.is("owner -1", house.sum(-1, 0), -1);
        Due.is("owner 6", house.sum(6, 0), -1);
        Due.is("q -1", house.sum(3, -1), -1);
        Due.is("q 1", house.sum(3, 1), -1);
        house.day();
        house.log(3, 1, 50, 1);
        Due.is("not yet told in 0", house.sum(3, 0), 30);
        Due.is("told in 1", house.sum(3, 1), 80);
        ScaleHouse great = new ScaleHouse();
        Due.law(great, "99999*99999", 0);
        for (int i = 0; i < 100; i++) {
            great.log(0, 0, 1, 1);
        }
        Due.is("the greatest sum", great.sum(0, 0), 100_000_000);
    }
}
