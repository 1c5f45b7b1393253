/** The boundary cases of promises 9 error, 10 log, 11 defects, 12 scale, 13 sum. */
public final class BoundsLogTest {
    public static void main(String[] args) {
        errorArguments();
        errorParts();
        errorDays();
        sixtyErrors(0);
        sixtyErrors(1);
        logArguments();
        hundredLogs();
        logOnLastDay();
        defectsArguments();
        defectsOfAll();
        scaleArguments();
        scaleOfRot();
        scaleOfBend();
        scaleAtLeastAtMost();
        scaleNone();
        sumArguments();
        sumOfNoneAndAll();
        Due.close("BoundsLogTest");
    }

    /** A house with the law d, and a log of d 99 on each stick. */
    private static ScaleHouse six() {
        ScaleHouse house = new ScaleHouse();
        Due.law(house, "d", 0);
        for (int i = 0; i < 6; i++) {
            house.log(i, i, 99, 60);
        }
        return house;
    }

    private static void scales(ScaleHouse house, int... want) {
        for (int i = 0; i < want.length; i++) {
            Due.is("scale(" + i + ", " + house.count(0) + ")", house.scale(i, house.count(0)), want[i]);
        }
    }

    private static void errorArguments() {
        Due.promise(9, "False: out of bounds");
        ScaleHouse house = six();
        for (int stick : Due.outside(0, 5)) {
            Due.no("error(" + stick + ", 100, 0)", house.error(stick, 100, 0));
        }
        for (int stick = 0; stick < 6; stick++) {
            for (int parts : Due.outside(-200, 200)) {
                Due.no("error(" + stick + ", " + parts + ", 0)", house.error(stick, parts, 0));
            }
            for (int from : Due.outside(0, 500)) {
                Due.no("error(" + stick + ", 100, " + from + ")", house.error(stick, 100, from));
            }
        }
        scales(house, 99, 99, 99, 99, 99, 99);
        Due.yes("stick 0", house.error(0, 100, 0));
        scales(house, 90, 99, 99, 99, 99, 99);
        Due.yes("stick 5", house.error(5, -100, 0));
        scales(house, 90, 99, 99, 99, 99, 110);
    }

    private static void errorParts() {
        Due.promise(9, "an ERROR (-200 .. 200)");
        ScaleHouse house = six();
        for (int parts = -200; parts <= 200; parts += 8) {
            Due.yes("error(1, " + parts + ", 0)", house.error(1, parts, 0));
            Due.is("by " + parts, house.scale(1, 0), 99_000 / (1_000 + parts));
        }
        ScaleHouse more = six();
        int[][] want = {{-200, 123}, {-199, 123}, {-10, 100}, {-1, 99}, {0, 99}, {1, 98}, {199, 82}, {200, 82}};
        for (int[] w : want) {
            Due.yes("error(0, " + w[0] + ", 0)", more.error(0, w[0], 0));
            scales(more, w[1]);
        }
        Due.no("-201", more.error(0, -201, 0));
        Due.no("201", more.error(0, 201, 0));
        scales(more, 82);
    }

    private static void errorDays() {
        Due.promise(9, "from a DAY on (0 .. 500)");
        ScaleHouse house = six();
        Due.is("no error", house.scale(0, 0), 99);
        Due.yes("from 1", house.error(0, 200, 1));
        Due.is("not on 0", house.scale(0, 0), 99);
        Due.yes("from 500", house.error(0, 200, 500));
        Due.is("not on 0", house.scale(0, 0), 99);
        house.day();
        house.log(0, 0, 99, 60);
        Due.is("on 1", house.scale(6, 1), 82);
        Due.yes("from 0, told on 1", house.error(0, -100, 0));
        Due.is("on 0, known in 1", house.scale(0, 1), 110);
        Due.is("on 0, known in 0", house.scale(0, 0), 99);
        Due.is("the one from the greatest DAY", house.scale(6, 1), 82);
        Due.yes("from 1 again", house.error(0, 0, 1));
        Due.is("of several the one told last", house.scale(6, 1), 99);
        ScaleHouse late = new ScaleHouse();
        late.error(0, 100, 499);
        late.error(0, 200, 500);
        Due.days(late, 499);
        late.log(0, 0, 99, 60);
        late.day();
        late.log(0, 0, 99, 60);
        Due.feedOnce(late, "d");
        late.law(0);
        Due.is("on 499", late.scale(0, 500), 90);
        Due.is("on 500", late.scale(1, 500), 82);
    }

    /** 60 of one stick, or of all. */
    private static void sixtyErrors(int sticks) {
        Due.promise(9, "60 in all at most; False: there were 60");
        ScaleHouse house = six();
        for (int i = 0; i < 60; i++) {
            Due.no("what is refused is not counted", house.error(0, 201, 0));
            Due.yes("error " + i, house.error(i * sticks % 6, 100, 0));
        }
        int[] before = new int[6];
        for (int i = 0; i < 6; i++) {
            before[i] = house.scale(i, 0);
            Due.is("scale " + i, before[i], i == 0 || sticks == 1 ? 90 : 99);
        }
        for (int stick = 0; stick < 6; stick++) {
            Due.no("a 61st", house.error(stick, -100, 0));
            Due.no("a 61st", house.error(stick, 0, 0));
            Due.is("as before", house.scale(stick, 0), before[stick]);
        }
        house.day();
        Due.no("nor on another day", house.error(0, -100, 0));
        Due.is("as before", house.scale(0, 1), before[0]);
    }

    private static void logArguments() {
        Due.promise(10, "NONE: out of bounds");
        ScaleHouse house = new ScaleHouse();
        Due.law(house, "d*100+l", 0);
        for (int x : Due.outside(0, 5)) {
            Due.is("log(" + x + ", 0, 1, 1)", house.log(x, 0, 1, 1), -1);
            Due.is("log(0, " + x + ", 1, 1)", house.log(0, x, 1, 1), -1);
        }
        for (int x : Due.outside(1, 99)) {
            Due.is("log(0, 0, " + x + ", 1)", house.log(0, 0, x, 1), -1);
        }
        for (int x : Due.outside(1, 60)) {
            Due.is("log(0, 0, 1, " + x + ")", house.log(0, 0, 1, x), -1);
        }
        Due.is("no log", house.count(2), 0);
        Due.is("no scale", house.scale(0, 0), -1);
        Due.is("the least", house.log(0, 0, 1, 1), 0);
        Due.is("the greatest", house.log(5, 5, 99, 60), 1);
        Due.is("0, 5", house.log(0, 5, 1, 60), 2);
        Due.is("5, 0", house.log(5, 0, 99, 1), 3);
        Due.is("count(2)", house.count(2), 4);
        scales(house, 101, 9960, 160, 9901);
        Due.is("owner 0's", house.sum(0, 0), 261);
        Due.is("owner 5's", house.sum(5, 0), 19_861);
        house.error(5, 200, 0);
        scales(house, 101, 8260, 60, 9901);
    }

    private static void hundredLogs() {
        Due.promise(10, "NONE: there are 100");
        ScaleHouse house = new ScaleHouse();
        Due.law(house, "d*100+l", 0);
        for (int i = 0; i < 100; i++) {
            Due.is("what is refused is not counted", house.log(0, 0, 100, 1), -1);
            Due.is("log " + i, house.log(3, 2, 1 + i % 99, 1 + i % 60), i);
        }
        Due.is("a 101st", house.log(0, 0, 1, 1), -1);
        Due.is("a 101st", house.log(5, 5, 99, 60), -1);
        Due.is("count(2)", house.count(2), 100);
        for (int i = 0; i < 100; i++) {
            Due.is("log " + i + "'s", house.scale(i, 0), (1 + i % 99) * 100 + 1 + i % 60);
        }
        Due.is("no log 100", house.scale(100, 0), -1);
        Due.is("owner 0 has none", house.sum(0, 0), 0);
        Due.is("100 lines", house.day(), 100);
        Due.is("nor on another day", house.log(0, 0, 1, 1), -1);
    }

    private static void logOnLastDay() {
        Due.promise(10, "A LOG of today");
        ScaleHouse house = new ScaleHouse();
        Due.feedOnce(house, "d");
        house.law(500);
        Due.days(house, 499);
        Due.is("on 499", house.log(0, 0, 44, 1), 0);
        Due.is("no law then", house.scale(0, 499), -1);
        house.day();
        Due.is("on 500", house.log(0, 0, 55, 1), 1);
        Due.is("known in 500", house.scale(1, 500), 55);
        Due.is("not in 499", house.scale(1, 499), -1);
        Due.is("log 0", house.scale(0, 500), -1);
        Due.is("sum", house.sum(0, 500), 55);
        Due.is("no q 501", house.sum(0, 501), -1);
    }

    private static void defectsArguments() {
        Due.promise(11, "False: no such one, out of bounds");
        ScaleHouse house = new ScaleHouse();
        Due.law(house, "d*1000", 0);
        for (int log : new int[] {-1, 0, 1, Integer.MIN_VALUE, Integer.MAX_VALUE}) {
            Due.no("no logs: defects(" + log + ", 0, 0)", house.defects(log, 0, 0));
        }
        house.log(0, 0, 99, 60);
        house.log(0, 0, 99, 60);
        Due.yes("some", house.defects(1, 9, 10));
        for (int log : Due.outside(0, 1)) {
            Due.no("defects(" + log + ", 1, 1)", house.defects(log, 1, 1));
        }
        for (int log = 0; log < 2; log++) {
            for (int rot : Due.outside(0, 99)) {
                Due.no("defects(" + log + ", " + rot + ", 1)", house.defects(log, rot, 1));
            }
            for (int bend : Due.outside(0, 90)) {
                Due.no("defects(" + log + ", 1, " + bend + ")", house.defects(log, 1, bend));
            }
        }
        scales(house, 99_000, 81_000);
        Due.yes("rot 98", house.defects(0, 98, 0));
        scales(house, 1_000, 81_000);
        Due.yes("rot 99", house.defects(0, 99, 0));
        scales(house, 0, 81_000);
        Due.yes("bend 90", house.defects(0, 0, 90));
        scales(house, 9_900, 81_000);
        Due.yes("both", house.defects(0, 98, 90));
        scales(house, 100, 81_000);
        Due.yes("none", house.defects(0, 0, 0));
        scales(house, 99_000, 81_000);
    }

    private static void defectsOfAll() {
        Due.promise(11, "0 at first, as told last, for all q");
        ScaleHouse house = new ScaleHouse();
        Due.law(house, "d*10", 0);
        for (int i = 0; i < 100; i++) {
            house.log(0, 0, 99, 1);
        }
        Due.no("no log 100", house.defects(100, 1, 1));
        for (int i = 0; i < 100; i++) {
            Due.is("at first", house.scale(i, 0), 990);
            Due.yes("defects of " + i, house.defects(i, i % 100, 0));
            Due.is("then", house.scale(i, 0), 990 - 10 * i);
        }
        house.day();
        Due.yes("told last", house.defects(99, 1, 50));
        Due.is("known in 0", house.scale(99, 0), 490);
        Due.is("known in 1", house.scale(99, 1), 490);
    }

    private static void scaleArguments() {
        Due.promise(12, "NONE: likewise, no such LOG, q");
        ScaleHouse house = new ScaleHouse();
        Due.law(house, "d", 0);
        for (int log : new int[] {-1, 0, 1, Integer.MIN_VALUE, Integer.MAX_VALUE}) {
            Due.is("no logs: scale(" + log + ", 0)", house.scale(log, 0), -1);
        }
        for (int now = 0; now < 4; now++) {
            house.log(0, 0, 10 + now, 1);
            for (int log : Due.outside(0, now)) {
                Due.is("scale(" + log + ", " + now + ")", house.scale(log, now), -1);
            }
            for (int q : Due.outside(0, now)) {
                Due.is("scale(0, " + q + ")", house.scale(0, q), -1);
            }
            for (int log = 0; log <= now; log++) {
                for (int q = 0; q <= now; q++) {
                    Due.is("scale(" + log + ", " + q + ")", house.scale(log, q), q < log ? -1 : 10 + log);
                }
            }
            house.day();
        }
    }

    private static void scaleOfRot() {
        Due.promise(12, "cut, less ROT, at least 0");
        ScaleHouse house = new ScaleHouse();
        Due.law(house, "d*1000+l", 0);
        house.log(0, 0, 40, 7);
        int[][] want = {{0, 40_007}, {1, 39_007}, {38, 2_007}, {39, 1_007}, {40, 7}, {41, 7}, {99, 7}};
        for (int[] w : want) {
            house.defects(0, w[0], 0);
            Due.is("rot " + w[0], house.scale(0, 0), w[1]);
        }
        // 40,000 by 1,007 is 39.7: cut ahead of the rot
        house.error(0, 7, 0);
        int[][] less = {{0, 39_007}, {38, 1_007}, {39, 7}, {40, 7}};
        for (int[] w : less) {
            house.defects(0, w[0], 0);
            Due.is("rot " + w[0] + " of 39", house.scale(0, 0), w[1]);
        }
        ScaleHouse small = new ScaleHouse();
        Due.law(small, "d*1000+l", 0);
        small.log(0, 0, 1, 1);
        Due.is("read 1", small.scale(0, 0), 1_001);
        small.error(0, 1, 0);
        Due.is("1,000 by 1,001", small.scale(0, 0), 1);
        small.error(0, -200, 0);
        Due.is("1,000 by 800", small.scale(0, 0), 1_001);
        small.log(0, 0, 99, 1);
        small.defects(1, 99, 0);
        Due.is("99,000 by 800 less 99", small.scale(1, 0), 24_001);
    }

    private static void scaleOfBend() {
        Due.promise(12, "that times (100 less BEND) by 100, cut");
        ScaleHouse house = new ScaleHouse();
        Due.law(house, "d", 0);
        house.log(0, 0, 99, 1);
        for (int bend = 0; bend <= 90; bend++) {
            house.defects(0, 0, bend);
            Due.is("bend " + bend, house.scale(0, 0), 99 * (100 - bend) / 100);
        }
        ScaleHouse one = new ScaleHouse();
        Due.law(one, "d", 0);
        one.log(0, 0, 1, 1);
        one.defects(0, 0, 1);
        Due.is("99 by 100", one.scale(0, 0), 0);
        one.defects(0, 0, 0);
        Due.is("100 by 100", one.scale(0, 0), 1);
    }

    private static void scaleOf(String text, int bend, int want) {
        ScaleHouse house = new ScaleHouse();
        house.log(0, 0, 10, 60);
        house.defects(0, 0, bend);
        Due.is("law of '" + text + "'", Due.law(house, text, 0), 0);
        Due.is("scale by '" + text + "', bend " + bend, house.scale(0, 0), want);
        Due.is("sum", house.sum(0, 0), want);
    }

    private static void scaleAtLeastAtMost() {
        Due.promise(12, "at least 0, at most 1,000,000");
        String million = "d*d*d*d*d*d";
        scaleOf(million + "-1", 0, 999_999);
        scaleOf(million, 0, 1_000_000);
        scaleOf(million + "+1", 0, 1_000_000);
        scaleOf(million + "*d*d*d*d", 0, 1_000_000);
        scaleOf("d-d+1", 0, 1);
        scaleOf("d-d", 0, 0);
        scaleOf("d-d-1", 0, 0);
        scaleOf("d-l", 0, 0);
        scaleOf("0-" + million + "*d*d*d", 0, 0);
        scaleOf(million + "-1", 1, 989_999);
        scaleOf(million, 1, 990_000);
        scaleOf(million + "*2", 1, 990_000);
        scaleOf(million + "*2", 50, 500_000);
        scaleOf(million + "*d*d*d", 90, 100_000);
        scaleOf("0-1", 90, 0);
        scaleOf("d-1", 90, 0);
        scaleOf("d", 90, 1);
    }

    private static void scaleNone() {
        Due.promise(12, "NONE: there is no such LAW, or the LOG was not told by q");
        ScaleHouse house = new ScaleHouse();
        house.log(0, 0, 50, 5);
        Due.is("no law at all", house.scale(0, 0), -1);
        Due.law(house, "d", 1);
        Due.is("a law from the next day on", house.scale(0, 0), -1);
        house.day();
        house.log(0, 0, 60, 5);
        Due.is("on its first day", house.scale(1, 1), 60);
        Due.is("not told by 0", house.scale(1, 0), -1);
        Due.is("still none on day 0", house.scale(0, 1), -1);
        Due.law(house, "l", 0);
        Due.is("told on 1, known in 1", house.scale(0, 1), 5);
        Due.is("not known in 0", house.scale(0, 0), -1);
        Due.is("the law from 1 on stays", house.scale(1, 1), 60);
        Due.law(house, "d+l", 1);
        Due.is("of several the one told last", house.scale(1, 1), 65);
    }

    private static void sumArguments() {
        Due.promise(13, "NONE: no such OWNER, q");
        ScaleHouse house = six();
        house.day();
        for (int owner : Due.outside(0, 5)) {
            Due.is("sum(" + owner + ", 0)", house.sum(owner, 0), -1);
            Due.is("sum(" + owner + ", 1)", house.sum(owner, 1), -1);
        }
        for (int q : Due.outside(0, 1)) {
            Due.is("sum(0, " + q + ")", house.sum(0, q), -1);
            Due.is("sum(5, " + q + ")", house.sum(5, q), -1);
        }
        for (int owner = 0; owner < 6; owner++) {
            Due.is("sum(" + owner + ", 0)", house.sum(owner, 0), 99);
            Due.is("sum(" + owner + ", 1)", house.sum(owner, 1), 99);
        }
    }

    private static void sumOfNoneAndAll() {
        Due.promise(13, "0 for those that have none");
        ScaleHouse house = new ScaleHouse();
        Due.is("no logs", house.sum(0, 0), 0);
        house.log(4, 0, 50, 1);
        house.log(4, 0, 60, 1);
        Due.is("none has one", house.sum(4, 0), 0);
        Due.law(house, "d", 1);
        house.day();
        house.log(4, 0, 70, 1);
        Due.is("one of three has one", house.sum(4, 1), 70);
        Due.is("not told by 0", house.sum(4, 0), 0);
        house.log(3, 0, 80, 1);
        Due.is("others' are not in it", house.sum(4, 1), 70);
        ScaleHouse full = new ScaleHouse();
        Due.law(full, "99999*11", 0);
        for (int i = 0; i < 100; i++) {
            full.log(5, 0, 1, 1);
            Due.is("of " + (i + 1), full.sum(5, 0), (i + 1) * 1_000_000);
        }
    }
}
