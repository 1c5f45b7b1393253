/** Promises 17 check, 18 habit. */
public final class HabitTest {
    public static void main(String[] args) {
        ScaleHouse house = new ScaleHouse();
        Due.no("no logs", house.check(0, 5));
        house.log(0, 0, 10, 1);
        house.log(0, 0, 30, 1);
        house.log(0, 5, 99, 1);
        habit(house, 0, -1, -1);
        Due.no("log -1", house.check(-1, 5));
        Due.no("log 3", house.check(3, 5));
        Due.no("d 0", house.check(0, 0));
        Due.no("d 100", house.check(0, 100));
        habit(house, 0, -1, -1);
        Due.yes("check", house.check(0, 8));
        habit(house, 0, 5, 4);
        habit(house, 5, -1, -1);
        Due.yes("another log", house.check(1, 32));
        // 10 * 8 + 30 * 32 = 1040, 64 + 1024 = 1088
        habit(house, 0, 65, 68);
        Due.yes("told last", house.check(0, 10));
        // 100 + 960 = 1060, 100 + 1024 = 1124
        habit(house, 0, 265, 281);
        Due.no("refused", house.check(0, 100));
        habit(house, 0, 265, 281);
        Due.yes("the least", house.check(2, 1));
        habit(house, 5, 99, 1);
        Due.yes("the greatest", house.check(2, 99));
        habit(house, 5, 1, 1);
        Due.is("no stick -1", house.habit(-1, 0), -1);
        Due.is("no stick 6", house.habit(6, 1), -1);
        Due.is("no what -1", house.habit(0, -1), -1);
        Due.is("no what 2", house.habit(0, 2), -1);
        Due.law(house, "d", 0);
        house.error(0, 200, 0);
        house.defects(0, 9, 9);
        habit(house, 0, 265, 281);
        Due.is("a check leaves the scale", house.scale(2, 0), 99);
        great();
        Due.close("HabitTest");
    }

    private static void great() {
        ScaleHouse house = new ScaleHouse();
        for (int i = 0; i < 100; i++) {
            house.log(0, 1, 98, 1);
            house.check(i, 99);
        }
        habit(house, 1, 98, 99);
        house.check(99, 98);
        // 98 * (99 * 99 + 98) over 99 * 99 * 99 + 98 * 98
        habit(house, 1, 970_102, 979_903);
    }

    private static void habit(ScaleHouse house, int stick, long above, long below) {
        Due.is("habit(" + stick + ", 0)", house.habit(stick, 0), above);
        Due.is("habit(" + stick + ", 1)", house.habit(stick, 1), below);
    }
}
