import java.lang.management.ManagementFactory;

/** The dearest runs of 512 calls stay small: all calls of a run live in one room. */
public final class RoomTest {
    private static final com.sun.management.ThreadMXBean BEAN =
            (com.sun.management.ThreadMXBean) ManagementFactory.getThreadMXBean();

    public static void main(String[] args) {
        makingMost();
        mostLines();
        asking();
        mostPairs();
        Due.close("RoomTest");
    }

    private static long made() {
        return BEAN.getThreadAllocatedBytes(Thread.currentThread().getId());
    }

    private static void small(String what, long before, long most) {
        long bytes = made() - before;
        Due.yes(what + ": " + bytes + " bytes, at most " + most, bytes <= most);
    }

    private static void makingMost() {
        new ScaleHouse();
        long before = made();
        ScaleHouse last = null;
        for (int i = 0; i < 512; i++) {
            last = new ScaleHouse();
        }
        small("512 new objects", before, 512 * 8_000L);
        Due.is("the last of them", last.count(0), 0);
    }

    private static void mostLines() {
        ScaleHouse house = new ScaleHouse();
        house.feed(Due.word("d*l", 0), 0, 0, 0, 0);
        house.law(0);
        for (int i = 0; i < 100; i++) {
            house.log(0, 0, 50, 50);
        }
        long before = made();
        for (int i = 0; i < 200; i++) {
            house.price(0, 1 + i % 2);
            house.day();
        }
        small("20,000 lines", before, 1_000_000);
        Due.is("count(3)", house.count(3), 20_000);
    }

    private static void asking() {
        ScaleHouse house = new ScaleHouse();
        house.feed(Due.word("d*l", 0), 0, 0, 0, 0);
        house.law(0);
        for (int i = 0; i < 100; i++) {
            house.log(0, 0, 50, 50);
            house.check(i, 50);
        }
        house.day();
        long before = made();
        for (int i = 0; i < 50; i++) {
            house.scale(i, i % 2);
            house.sum(0, i % 2);
            house.value(0, i, i);
            house.most(i, i);
            house.force(i, i % 2);
            house.habit(0, 0);
        }
        small("asking alone", before, 2_000);
        Due.is("sum(0, 1)", house.sum(0, 1), 250_000);
    }

    private static void mostPairs() {
        ScaleHouse house = new ScaleHouse();
        for (int i = 0; i < 20; i++) {
            house.row(0, 50 - i, 30);
            house.row(1, 50 + i, 30);
        }
        long before = made();
        for (int i = 0; i < 150; i++) {
            house.allow(i % 21, 20);
            house.pairs();
            house.pair(i % 20);
        }
        small("pairs", before, 2_000);
        Due.is("count(5)", house.count(5), 20);
    }
}
