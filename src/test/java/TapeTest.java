/** Promises 2 feed, 3 end, 4 fault. */
public final class TapeTest {
    private static final String TWENTY = "11111222223333344444";

    public static void main(String[] args) {
        feeding();
        ending();
        faultless();
        faults();
        bounds();
        Due.close("TapeTest");
    }

    private static void feeding() {
        ScaleHouse house = new ScaleHouse();
        Due.is("feed of nothing", house.feed(0, 0, 0, 0, 0), 0);
        // 'd', then zeros in every place but one
        Due.is("feed d", house.feed(0x64000000, 0, 0, 0, 0), 1);
        Due.is("feed +", house.feed(0, 0x002B0000, 0, 0, 0), 2);
        Due.is("feed (", house.feed(0, 0, 0x00002800, 0, 0), 3);
        Due.is("feed 1", house.feed(0, 0, 0, 0x00000031, 0), 4);
        Due.is("feed 2", house.feed(0, 0, 0, 0, 0x00000032), 5);
        Due.is("feed ) * l", house.feed(0x29002A00, 0, 0, 0, 0x6C000000), 8);
        Due.is("fault of d+(12)*l", house.fault(), -1);
        Due.is("law of d+(12)*l", house.law(0), 0);
        Due.is("value of d+(12)*l", house.value(0, 5, 7), 89);

        Due.is("feed of 20 in order", house.feed(Due.word("d*l+", 0), Due.word("100*", 0),
                Due.word("d-l/", 0), Due.word("(d+3", 0), Due.word(")+12", 0)), 20);
        Due.is("its law", house.law(0), 1);
        Due.is("its value", house.value(1, 7, 5), 7 * 5 + 100 * 7 - 0 + 12);

        for (int i = 1; i <= 6; i++) {
            Due.is("feed to " + 20 * i, Due.feed(house, TWENTY), 20 * i);
        }
        Due.is("a 121st byte", house.feed(0, 0, 0, 0, 1), -1);
        Due.is("nothing at 120", house.feed(0, 0, 0, 0, 0), 120);
        Due.is("count(7)", house.count(7), 120);
        house.end(119);
        Due.is("two more at 119", house.feed(0x31000000, 0, 0, 0, 0x31), -1);
        Due.is("count(7) as before", house.count(7), 119);
        Due.is("one more at 119", house.feed(0, 0, 0x3100, 0, 0), 120);
        for (int place = 0; place < 5; place++) {
            int[] w = new int[5];
            w[place] = 0x31;
            Due.is("a 121st byte in place " + place, house.feed(w[0], w[1], w[2], w[3], w[4]), -1);
        }
        Due.is("count(7)", house.count(7), 120);
    }

    private static void ending() {
        ScaleHouse house = new ScaleHouse();
        Due.yes("end(0) of nothing", house.end(0));
        Due.no("end(1) of nothing", house.end(1));
        Due.feed(house, "d*l+");
        Due.no("end(-1)", house.end(-1));
        Due.no("end(5)", house.end(5));
        Due.no("end(MIN)", house.end(Integer.MIN_VALUE));
        Due.is("count(7)", house.count(7), 4);
        Due.yes("end(4)", house.end(4));
        Due.is("fault", house.fault(), 4);
        Due.yes("end(3)", house.end(3));
        Due.is("fault", house.fault(), -1);
        Due.is("fed behind the end", Due.feed(house, "-7"), 5);
        Due.is("law", house.law(0), 0);
        Due.is("value", house.value(0, 3, 4), 5);
        Due.yes("end(0) behind a law", house.end(0));
        Due.no("end(1) behind a law", house.end(1));
    }

    private static void faultless() {
        String[] texts = {"d", "l", "0", "99999", "00000", "d+l", "d-l", "d*l", "d/l", "(d)", "  d  ", " ( d ) ",
            "12345+12345", "12345 +d", "((((((((d))))))))", "(d)+(d)+(d)+(d)+(d)+(d)+(d)+(d)+(d)+(d)",
            "d*(l+1)/(2-d)", "1 + 2 * ( 3 - l ) / d ", "((((((((1))))))))*((((((((2))))))))"};
        for (String text : texts) {
            Due.is("fault of '" + text + "'", faultOf(text), -1);
        }
    }

    private static void faults() {
        fault("", 0);
        fault(" ", 1);
        fault("     ", 5);
        fault("d+", 2);
        fault("d+ ", 3);
        fault("+d", 0);
        fault("-1", 0);
        fault("*", 0);
        fault(")", 0);
        fault("d)", 1);
        fault("(d))", 3);
        fault("()", 1);
        fault("( )", 2);
        fault("(d", 2);
        fault("((d)", 4);
        fault("(", 1);
        fault("d++l", 2);
        fault("d+*l", 2);
        fault("(d+)", 3);
        fault("dd", 1);
        fault("d l", 2);
        fault("d1", 1);
        fault("1d", 1);
        fault("1 2", 2);
        fault("12345 6", 6);
        fault("d(", 1);
        fault("1(", 1);
        fault("(d)(l)", 3);
        fault("(d)l", 3);
        fault("(d)5", 3);
        fault("123456", 5);
        fault("d+1234567", 7);
        fault("000001", 5);
        fault("x", 0);
        fault("D", 0);
        fault("d+L", 2);
        fault("d\t+l", 1);
        fault("d\n", 1);
        fault("d%l", 1);
        fault("d,l", 1);
        fault("d.5", 1);
        fault("d" + (char) 255, 1);
        fault("d" + (char) 160 + "+l", 1);
        fault("" + (char) (128 + 'd'), 0);
        fault("d:", 1);
        fault("(((((((((d)))))))))", 8);
        fault("((((((((", 8);
        fault("((((((((d)))))))+(((((((((d", 24);
        fault("d+((((((((d+(l))))))))", 12);
    }

    private static void bounds() {
        // 120 bytes without a fault, and the same with its last bytes wrong
        String text = "(((((((( 12345 * d + l ))))))))"; // 31
        String whole = text + "-" + text + "/" + text + "+l*99999 - (d-1)-ddd";
        Due.is("length of the long text", whole.length(), 115);
        fault(whole, 113);
        fault(whole.substring(0, 113), -1);
        fault(whole.substring(0, 113) + "+(d+l) ", -1);
        fault(whole.substring(0, 113) + "+(d+ll)", 118);
        fault(whole.substring(0, 113) + "+(d+l+ ", 120);
        ScaleHouse house = new ScaleHouse();
        Due.feed(house, "d+");
        house.fault();
        Due.is("fault changes nothing", house.count(7), 2);
    }

    private static void fault(String text, int want) {
        Due.is("fault of '" + text + "'", faultOf(text), want);
        ScaleHouse house = new ScaleHouse();
        Due.is("law of '" + text + "'", Due.law(house, text, 0), want == -1 ? 0 : -1);
        Due.is("the tape behind it", house.count(7), want == -1 ? 0 : text.length());
        Due.is("the laws behind it", house.count(1), want == -1 ? 1 : 0);
    }

    private static int faultOf(String text) {
        ScaleHouse house = new ScaleHouse();
        Due.is("length of '" + text + "'", Due.feed(house, text), text.length());
        return house.fault();
    }
}
