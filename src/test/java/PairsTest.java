/** Promises 19 row, 20 clear, 21 allow, 22 pairs, 23 pair. */
public final class PairsTest {
    public static void main(String[] args) {
        rows();
        allowing();
        nothingApartAtFirst();
        clearing();
        lowest();
        rowRatherThanNot();
        longWays();
        full();
        Due.close("PairsTest");
    }

    private static void rows() {
        ScaleHouse house = new ScaleHouse();
        int[][] off = {{-1, 1, 1}, {2, 1, 1}, {0, 0, 1}, {0, 100, 1}, {0, 1, 0}, {0, 1, 61}, {1, 0, 1}, {1, 1, 61}};
        for (int[] o : off) {
            Due.is("row out of bounds", house.row(o[0], o[1], o[2]), -1);
        }
        Due.is("count(5)", house.count(5), 0);
        Due.is("count(6)", house.count(6), 0);
        for (int i = 0; i < 20; i++) {
            Due.is("row " + i, house.row(0, 99, 60), i);
        }
        Due.is("a 21st", house.row(0, 1, 1), -1);
        Due.is("count(5)", house.count(5), 20);
        Due.is("count(6)", house.count(6), 0);
        Due.is("no pairs", house.pairs(), 0);
        Due.is("of the other", house.row(1, 1, 1), 0);
        Due.is("no pairs", house.pairs(), 0);
        Due.is("one that agrees", house.row(1, 99, 60), 1);
        Due.is("a pair", house.pairs(), 1);
        Due.is("row 0 has it", house.pair(0), 1);
        Due.is("row 1 has not", house.pair(1), -1);
        Due.is("row 19 has not", house.pair(19), -1);
        Due.is("no row 20", house.pair(20), -1);
        Due.is("no row -1", house.pair(-1), -1);
        Due.is("no row MAX", house.pair(Integer.MAX_VALUE), -1);
        Due.is("count(6)", house.count(6), 2);
    }

    private static void allowing() {
        ScaleHouse house = new ScaleHouse();
        house.row(0, 30, 30);
        house.row(1, 50, 10);
        Due.is("0 at first", house.pairs(), 0);
        Due.no("td -1", house.allow(-1, 20));
        Due.no("td 21", house.allow(21, 20));
        Due.no("tl -1", house.allow(20, -1));
        Due.no("tl 21", house.allow(20, 21));
        Due.is("as before", house.pairs(), 0);
        Due.yes("19, 20", house.allow(19, 20));
        Due.is("d too far", house.pairs(), 0);
        Due.yes("20, 19", house.allow(20, 19));
        Due.is("l too far", house.pairs(), 0);
        Due.yes("20, 20", house.allow(20, 20));
        Due.is("both near", house.pairs(), 1);
        Due.is("pair(0)", house.pair(0), 0);
        Due.no("refused", house.allow(0, 21));
        Due.is("both near still", house.pairs(), 1);
        Due.yes("0, 0", house.allow(0, 0));
        Due.is("no more", house.pairs(), 0);
        Due.is("no more", house.pair(0), -1);
        house.row(1, 30, 30);
        Due.is("the same", house.pair(0), 1);
    }

    private static void nothingApartAtFirst() {
        ScaleHouse house = new ScaleHouse();
        house.row(0, 30, 30);
        house.row(1, 30, 31);
        house.row(1, 31, 30);
        house.row(1, 29, 30);
        house.row(1, 30, 29);
        Due.is("none of the same d and l", house.pairs(), 0);
        house.row(1, 30, 30);
        Due.is("the same d and l", house.pair(0), 4);
    }

    private static void clearing() {
        ScaleHouse house = new ScaleHouse();
        house.allow(5, 5);
        house.row(0, 10, 10);
        house.row(1, 10, 10);
        Due.is("one", house.pairs(), 1);
        house.clear();
        Due.is("none", house.pairs(), 0);
        Due.is("none", house.pair(0), -1);
        Due.is("count(5)", house.count(5), 0);
        Due.is("count(6)", house.count(6), 0);
        Due.is("row 0 again", house.row(0, 20, 20), 0);
        Due.is("none yet", house.pairs(), 0);
        Due.is("pair(0)", house.pair(0), -1);
        Due.is("row 0 again", house.row(1, 25, 15), 0);
        Due.is("what is allowed stays", house.pairs(), 1);
        Due.is("pair(0)", house.pair(0), 0);
    }

    private static void lowest() {
        ScaleHouse house = new ScaleHouse();
        for (int i = 0; i < 5; i++) {
            house.row(0, 10, 10);
            house.row(1, 10, 10);
        }
        for (int i = 0; i < 5; i++) {
            Due.is("pair(" + i + ")", house.pair(i), i);
        }
        house.row(0, 10, 10);
        Due.is("one too many", house.pairs(), 5);
        Due.is("the last has none", house.pair(5), -1);
        Due.is("the first has", house.pair(0), 0);
        house.row(1, 9, 10);
        house.row(1, 10, 10);
        Due.is("now it has", house.pair(5), 6);
        Due.is("six", house.pairs(), 6);
    }

    /** As many pairs with row 0 or without: row 0 has one; and it takes the lowest, though row 1 then has none. */
    private static void rowRatherThanNot() {
        ScaleHouse house = new ScaleHouse();
        house.allow(1, 20);
        house.row(0, 10, 1);
        house.row(0, 10, 1);
        house.row(1, 11, 1);
        expect(house, 1, 0, -1);
        house.clear();
        house.allow(2, 20);
        house.row(0, 20, 1);
        house.row(0, 18, 1);
        house.row(0, 24, 1);
        house.row(1, 19, 1);
        house.row(1, 22, 1);
        // rows 0 to both, 1 to seller's 0, 2 to seller's 1
        expect(house, 2, 0, -1, 1);
        house.clear();
        house.row(0, 20, 1);
        house.row(0, 18, 1);
        house.row(1, 22, 1);
        house.row(1, 19, 1);
        expect(house, 2, 0, 1);
        house.clear();
        house.row(0, 20, 1);
        house.row(0, 18, 1);
        house.row(1, 19, 1);
        house.row(1, 22, 1);
        expect(house, 2, 1, 0);
        house.clear();
        // row 0 agrees with all, row 1 with seller's 0 alone: row 0 has neither that nor the last
        house.row(0, 20, 1);
        house.row(0, 17, 1);
        house.row(1, 19, 1);
        house.row(1, 21, 1);
        house.row(1, 22, 1);
        expect(house, 2, 1, 0);
        house.clear();
        // row 0 agrees with all; the others need seller's 0 and 1
        house.row(0, 20, 1);
        house.row(0, 17, 1);
        house.row(0, 17, 1);
        house.row(1, 18, 1);
        house.row(1, 19, 1);
        house.row(1, 21, 1);
        house.row(1, 22, 1);
        expect(house, 3, 2, 0, 1);
    }

    private static void expect(ScaleHouse house, int many, int... want) {
        Due.is("pairs()", house.pairs(), many);
        for (int i = 0; i < want.length; i++) {
            Due.is("pair(" + i + ")", house.pair(i), want[i]);
        }
    }

    /** A chain in which each new buyer's row moves all the others on by one. */
    private static void longWays() {
        ScaleHouse house = new ScaleHouse();
        house.allow(1, 0);
        for (int i = 0; i < 20; i++) {
            house.row(1, 2 + 2 * i, 1);
        }
        for (int i = 0; i < 19; i++) {
            house.row(0, 3 + 2 * i, 1);
        }
        for (int i = 0; i < 19; i++) {
            Due.is("pair(" + i + ")", house.pair(i), i);
        }
        house.row(0, 1, 1);
        Due.is("all", house.pairs(), 20);
        Due.is("the last has the first", house.pair(19), 0);
        for (int i = 0; i < 19; i++) {
            Due.is("pair(" + i + ")", house.pair(i), i + 1);
        }
    }

    private static void full() {
        ScaleHouse house = new ScaleHouse();
        house.allow(20, 20);
        for (int i = 0; i < 20; i++) {
            house.row(0, 50 - i, 30);
            house.row(1, 50 + i, 30);
        }
        // row i agrees with seller's 0 .. 20 - i: once row 0 has 0, row 19 must have 1, row 18 then 2, and so on
        Due.is("all", house.pairs(), 20);
        for (int i = 0; i < 20; i++) {
            Due.is("pair(" + i + ")", house.pair(i), i == 0 ? 0 : 20 - i);
        }
    }
}
