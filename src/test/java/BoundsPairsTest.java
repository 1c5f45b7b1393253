/** The boundary cases of promises 19 row, 20 clear, 21 allow, 22 pairs, 23 pair. */
public final class BoundsPairsTest {
    public static void main(String[] args) {
        rowArguments();
        twentyRowsEach();
        clearEmptyAndFull();
        clearKeepsTheRest();
        allowArguments();
        allowJustSoFar();
        pairsOfNone();
        pairsOfAll();
        pairsAsManyAsCan();
        pairArguments();
        pairRatherThanNot();
        pairOfTheFull();
        pairLowestThatLeavesAsMany();
        Due.close("BoundsPairsTest");
    }

    private static void rowArguments() {
        Due.promise(19, "NONE: no such TALLY, out of bounds");
        ScaleHouse house = new ScaleHouse();
        for (int tally : Due.outside(0, 1)) {
            Due.is("row(" + tally + ", 50, 30)", house.row(tally, 50, 30), -1);
        }
        for (int tally = 0; tally < 2; tally++) {
            for (int d : Due.outside(1, 99)) {
                Due.is("row(" + tally + ", " + d + ", 30)", house.row(tally, d, 30), -1);
            }
            for (int l : Due.outside(1, 60)) {
                Due.is("row(" + tally + ", 50, " + l + ")", house.row(tally, 50, l), -1);
            }
        }
        counts(house, 0, 0);
        int[][] edges = {{1, 1}, {99, 60}, {1, 60}, {99, 1}};
        for (int i = 0; i < 4; i++) {
            Due.is("row " + i, house.row(0, edges[i][0], edges[i][1]), i);
            counts(house, i + 1, i);
            Due.is("row " + i, house.row(1, edges[3 - i][0], edges[3 - i][1]), i);
            counts(house, i + 1, i + 1);
        }
        Due.is("pairs()", house.pairs(), 4);
        for (int i = 0; i < 4; i++) {
            Due.is("pair(" + i + ")", house.pair(i), 3 - i);
        }
    }

    private static void counts(ScaleHouse house, int buyers, int sellers) {
        Due.is("count(5)", house.count(5), buyers);
        Due.is("count(6)", house.count(6), sellers);
    }

    private static void twentyRowsEach() {
        Due.promise(19, "20 each at most; NONE: it has 20");
        for (int full = 0; full < 2; full++) {
            ScaleHouse house = new ScaleHouse();
            for (int i = 0; i < 20; i++) {
                Due.is("refused, not counted", house.row(full, 100, 1), -1);
                Due.is("row " + i, house.row(full, 10 + i, 20), i);
            }
            Due.is("a 21st", house.row(full, 99, 60), -1);
            Due.is("a 21st", house.row(full, 10, 20), -1);
            counts(house, full == 0 ? 20 : 0, full == 0 ? 0 : 20);
            for (int i = 0; i < 20; i++) {
                Due.is("the other's " + i, house.row(1 - full, 29 - i, 20), i);
                Due.is("pairs()", house.pairs(), i + 1);
            }
            Due.is("a 21st", house.row(0, 99, 60), -1);
            Due.is("a 21st", house.row(1, 99, 60), -1);
            counts(house, 20, 20);
            Due.is("pairs()", house.pairs(), 20);
            for (int i = 0; i < 20; i++) {
                Due.is("pair(" + i + ")", house.pair(i), 19 - i);
            }
        }
    }

    private static void clearEmptyAndFull() {
        Due.promise(20, "Both TALLIES are empty");
        ScaleHouse house = new ScaleHouse();
        house.clear();
        counts(house, 0, 0);
        for (int round = 0; round < 3; round++) {
            for (int i = 0; i < 20; i++) {
                Due.is("row " + i, house.row(0, 50, 30), i);
                Due.is("row " + i, house.row(1, 50, 30), i);
            }
            Due.is("no more", house.row(0, 50, 30), -1);
            Due.is("pairs()", house.pairs(), 20);
            house.clear();
            counts(house, 0, 0);
            Due.is("pairs()", house.pairs(), 0);
            Due.is("pair(0)", house.pair(0), -1);
            Due.is("pair(19)", house.pair(19), -1);
        }
        Due.is("one of the buyer's", house.row(0, 50, 30), 0);
        Due.is("no old row of the seller's", house.pair(0), -1);
        house.clear();
        Due.is("one of the seller's", house.row(1, 50, 30), 0);
        Due.is("no old row of the buyer's", house.pairs(), 0);
        house.clear();
        house.clear();
        counts(house, 0, 0);
    }

    private static void clearKeepsTheRest() {
        Due.promise(20, "Both TALLIES are empty");
        ScaleHouse house = new ScaleHouse();
        Due.law(house, "d", 0);
        house.log(0, 0, 50, 1);
        house.day();
        Due.feedOnce(house, "l");
        house.allow(20, 0);
        house.judge(5, 9, 5);
        house.row(0, 30, 30);
        house.row(1, 50, 30);
        house.clear();
        int[] want = {1, 1, 1, 1, 50, 0, 0, 1, 5, 0, 1};
        for (int what = 0; what <= 10; what++) {
            Due.is("count(" + what + ")", house.count(what), want[what]);
        }
        house.row(0, 30, 30);
        house.row(1, 50, 30);
        Due.is("TD and TL stay", house.pairs(), 1);
    }

    private static void allowArguments() {
        Due.promise(21, "False: out of bounds");
        ScaleHouse house = new ScaleHouse();
        house.row(0, 30, 30);
        house.row(1, 37, 35);
        Due.yes("7, 5", house.allow(7, 5));
        Due.is("pairs()", house.pairs(), 1);
        for (int x : Due.outside(0, 20)) {
            Due.no("allow(" + x + ", 0)", house.allow(x, 0));
            Due.is("pairs()", house.pairs(), 1);
            Due.no("allow(0, " + x + ")", house.allow(0, x));
            Due.is("pairs()", house.pairs(), 1);
            Due.no("allow(" + x + ", " + x + ")", house.allow(x, x));
            Due.is("pairs()", house.pairs(), 1);
        }
        Due.yes("6, 5", house.allow(6, 5));
        Due.is("pairs()", house.pairs(), 0);
        for (int x : Due.outside(0, 20)) {
            Due.no("allow(" + x + ", 20)", house.allow(x, 20));
            Due.no("allow(20, " + x + ")", house.allow(20, x));
            Due.is("pairs()", house.pairs(), 0);
        }
        Due.yes("7, 4", house.allow(7, 4));
        Due.is("pairs()", house.pairs(), 0);
        Due.yes("20, 20", house.allow(20, 20));
        Due.is("pairs()", house.pairs(), 1);
        Due.yes("0, 0", house.allow(0, 0));
        Due.is("pairs()", house.pairs(), 0);
    }

    private static void allowJustSoFar() {
        Due.promise(21, "d at most TD apart, and l at most TL (both 0 .. 20)");
        for (int far = 0; far <= 20; far++) {
            for (int sign = -1; sign <= 1; sign += 2) {
                agree(far, 0, sign * far, 0, true);
                agree(far, 0, sign * (far + 1), 0, false);
                agree(0, far, 0, sign * far, true);
                agree(0, far, 0, sign * (far + 1), false);
                agree(far, 20 - far, sign * far, -sign * (20 - far), true);
                agree(far, 20 - far, sign * far, -sign * (21 - far), false);
            }
        }
    }

    private static void agree(int td, int tl, int d, int l, boolean want) {
        ScaleHouse house = new ScaleHouse();
        house.row(0, 50, 30);
        house.row(1, 50 + d, 30 + l);
        Due.yes("allow(" + td + ", " + tl + ")", house.allow(td, tl));
        Due.is(d + ", " + l + " apart", house.pairs(), want ? 1 : 0);
        Due.is("pair(0)", house.pair(0), want ? 0 : -1);
    }

    private static void pairsOfNone() {
        Due.promise(22, "How many PAIRS");
        ScaleHouse house = new ScaleHouse();
        house.allow(20, 20);
        Due.is("both empty", house.pairs(), 0);
        for (int i = 0; i < 20; i++) {
            house.row(0, 50, 30);
            Due.is("the seller's empty", house.pairs(), 0);
        }
        Due.is("row 0 has none", house.pair(0), -1);
        Due.is("row 19 has none", house.pair(19), -1);
        house.clear();
        for (int i = 0; i < 20; i++) {
            house.row(1, 50, 30);
            Due.is("the buyer's empty", house.pairs(), 0);
        }
        house.row(0, 71, 30);
        Due.is("none agrees", house.pairs(), 0);
        house.row(0, 70, 30);
        Due.is("one agrees", house.pairs(), 1);
    }

    private static void pairsOfAll() {
        Due.promise(22, "each row in one at most");
        ScaleHouse house = new ScaleHouse();
        for (int i = 0; i < 20; i++) {
            house.row(0, 50, 30);
        }
        for (int i = 0; i < 20; i++) {
            house.row(1, 50, 30);
            Due.is("pairs() with " + (i + 1), house.pairs(), i + 1);
            Due.is("pair(" + i + ")", house.pair(i), i);
            Due.is("pair(" + (i + 1) + ")", house.pair(i + 1), -1);
        }
        Due.is("pair(20)", house.pair(20), -1);
    }

    /** Row i agrees with the seller's i and i + 1 alone; the last that comes agrees with the first alone. */
    private static void pairsAsManyAsCan() {
        Due.promise(22, "as many as can be");
        ScaleHouse house = new ScaleHouse();
        house.allow(1, 0);
        for (int i = 0; i < 20; i++) {
            house.row(1, 2 + 2 * i, 1);
        }
        for (int i = 0; i < 19; i++) {
            house.row(0, 3 + 2 * i, 1);
        }
        Due.is("19 rows", house.pairs(), 19);
        Due.is("pair(0)", house.pair(0), 0);
        Due.is("pair(18)", house.pair(18), 18);
        house.row(0, 1, 1);
        Due.is("20 rows, all moved on by one", house.pairs(), 20);
        for (int i = 0; i < 20; i++) {
            Due.is("pair(" + i + ")", house.pair(i), (i + 1) % 20);
        }
    }

    private static void pairArguments() {
        Due.promise(23, "NONE: none, no such row");
        ScaleHouse house = new ScaleHouse();
        for (int row : new int[] {-1, 0, 1, 19, 20, Integer.MIN_VALUE, Integer.MAX_VALUE}) {
            Due.is("empty: pair(" + row + ")", house.pair(row), -1);
        }
        for (int i = 0; i < 20; i++) {
            house.row(1, 50, 30);
            Due.is("the seller's rows are not the buyer's", house.pair(i), -1);
        }
        for (int i = 0; i < 20; i++) {
            house.row(0, 50, 30);
            for (int row : Due.outside(0, i)) {
                Due.is("of " + (i + 1) + ": pair(" + row + ")", house.pair(row), -1);
            }
            Due.is("of " + (i + 1) + ": pair(0)", house.pair(0), 0);
            Due.is("of " + (i + 1) + ": pair(" + i + ")", house.pair(i), i);
        }
        ScaleHouse none = new ScaleHouse();
        none.row(0, 50, 30);
        none.row(0, 60, 30);
        none.row(1, 60, 30);
        Due.is("row 0 has none", none.pair(0), -1);
        Due.is("row 1 has", none.pair(1), 0);
        Due.is("no row 2", none.pair(2), -1);
    }

    private static void pairRatherThanNot() {
        Due.promise(23, "has a pair rather than not, then the lower row of TALLY 1");
        ScaleHouse house = new ScaleHouse();
        for (int i = 0; i < 20; i++) {
            house.row(0, 50, 30);
        }
        house.row(1, 50, 30);
        Due.is("the first has it", house.pair(0), 0);
        for (int i = 1; i < 20; i++) {
            Due.is("pair(" + i + ")", house.pair(i), -1);
        }
        house.clear();
        house.row(0, 50, 30);
        for (int i = 0; i < 20; i++) {
            house.row(1, 50, 30);
            Due.is("the lowest of " + (i + 1), house.pair(0), 0);
        }
        house.clear();
        house.row(0, 50, 30);
        for (int i = 0; i < 19; i++) {
            house.row(1, 51, 30);
        }
        house.row(1, 50, 30);
        Due.is("the last alone agrees", house.pair(0), 19);
        house.allow(1, 0);
        Due.is("now the first does", house.pair(0), 0);
        house.row(0, 52, 30);
        Due.is("both, in their order", house.pair(1), 1);
        house.clear();
        house.row(0, 51, 30);
        house.row(0, 49, 30);
        house.row(1, 50, 30);
        house.row(1, 52, 30);
        Due.is("the number of pairs is ahead of the lower row", house.pair(0), 1);
        Due.is("row 1 has the lower", house.pair(1), 0);
    }

    /** Row i agrees with the seller's 0 .. 20 - i: once row 0 has 0, row 19 must have 1, row 18 then 2, and so on. */
    private static void pairOfTheFull() {
        Due.promise(23, "the first row of TALLY 0 that differs");
        ScaleHouse house = new ScaleHouse();
        house.allow(20, 20);
        for (int i = 0; i < 20; i++) {
            house.row(0, 50 - i, 1);
            house.row(1, 50 + i, 21);
        }
        Due.is("all", house.pairs(), 20);
        for (int i = 0; i < 20; i++) {
            Due.is("pair(" + i + ")", house.pair(i), i == 0 ? 0 : 20 - i);
        }
        house.allow(19, 20);
        Due.is("row 19 agrees with the seller's 0 alone", house.pairs(), 20);
        for (int i = 0; i < 20; i++) {
            Due.is("pair(" + i + ")", house.pair(i), 19 - i);
        }
        house.allow(18, 20);
        Due.is("row 19 agrees with none, row 0 not with 19", house.pairs(), 19);
        for (int i = 0; i < 20; i++) {
            Due.is("pair(" + i + ")", house.pair(i), 18 - i);
        }
        house.allow(0, 20);
        Due.is("the first two alone", house.pairs(), 1);
        house.allow(20, 19);
        Due.is("l too far", house.pairs(), 0);
    }

    private static void pairLowestThatLeavesAsMany() {
        Due.promise(23, "as many as can be; then the lower row of TALLY 1");
        pairs(1, new int[] {2, 2, 1}, new int[] {2, 3, 3}, 1, 2, 0);
        pairs(1, new int[] {6, 4, 6}, new int[] {5, 7, 7}, 1, 0, 2);
        pairs(2, new int[] {8, 4, 1, 11, 3, 9, 12}, new int[] {6, 10, 4, 9, 7}, 0, 2, -1, 3, -1, 4, 1);
        pairs(3, new int[] {3, 5, 10, 12, 1, 2, 11}, new int[] {2, 12, 3, 7, 12, 6}, 0, 5, 3, 1, 2, -1, 4);
    }

    private static void pairs(int td, int[] buyers, int[] sellers, int... want) {
        ScaleHouse house = new ScaleHouse();
        house.allow(td, 0);
        for (int d : buyers) {
            house.row(0, d, 1);
        }
        for (int d : sellers) {
            house.row(1, d, 1);
        }
        int many = 0;
        for (int i = 0; i < want.length; i++) {
            many += want[i] == -1 ? 0 : 1;
            Due.is("pair(" + i + ")", house.pair(i), want[i]);
        }
        Due.is("pairs()", house.pairs(), many);
    }
}
