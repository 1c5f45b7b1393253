/** The boundary cases of promises 1 a new object, 2 feed, 3 end, 4 fault. */
public final class BoundsTapeTest {
    private static final int MIN = Integer.MIN_VALUE;
    private static final int MAX = Integer.MAX_VALUE;

    public static void main(String[] args) {
        newCounts();
        newAnswers();
        newDefaults();
        feedUpTo120();
        feedBeyond120KeepsTheTape();
        feedPlaces();
        feedFarthestInts();
        endBounds();
        endCuts();
        faultOfLengths();
        faultOfDigits();
        faultOfBrackets();
        faultOfEachByte();
        faultOfBlanks();
        Due.close("BoundsTapeTest");
    }

    private static void newCounts() {
        Due.promise(1, "NOW 0, nothing told");
        ScaleHouse house = new ScaleHouse();
        int[] want = {0, 0, 0, 0, 0, 0, 0, 0, -1, 0, 0};
        for (int what = 0; what <= 10; what++) {
            Due.is("count(" + what + ")", house.count(what), want[what]);
        }
        Due.is("fault()", house.fault(), 0);
        Due.is("pairs()", house.pairs(), 0);
        Due.is("pair(0)", house.pair(0), -1);
        Due.is("law(0)", house.law(0), -1);
        Due.no("end(1)", house.end(1));
    }

    private static void newAnswers() {
        Due.promise(1, "NOW 0, nothing told");
        ScaleHouse house = new ScaleHouse();
        for (int day : new int[] {0, 1, 500}) {
            Due.is("force(" + day + ", 0)", house.force(day, 0), -1);
        }
        Due.is("most(0, 0)", house.most(0, 0), -1);
        Due.is("most(1000, 1000)", house.most(1000, 1000), -1);
        Due.noValue(house, 0, 0, 0);
        Due.is("scale(0, 0)", house.scale(0, 0), -1);
        for (int one = 0; one < 6; one++) {
            Due.is("sum(" + one + ", 0)", house.sum(one, 0), 0);
            Due.is("habit(" + one + ", 0)", house.habit(one, 0), -1);
            Due.is("habit(" + one + ", 1)", house.habit(one, 1), -1);
        }
        Due.is("line(0, 0)", house.line(0, 0), -1_000_000_000);
        Due.no("defects(0, 0, 0)", house.defects(0, 0, 0));
        Due.no("check(0, 1)", house.check(0, 1));
        Due.is("q 1 is beyond NOW: force", house.force(0, 1), -1);
        Due.is("q 1 is beyond NOW: sum", house.sum(0, 1), -1);
        Due.is("a day without logs", house.day(), 0);
        Due.is("count(0)", house.count(0), 1);
        Due.is("a new one beside it", new ScaleHouse().count(0), 0);
    }

    private static void newDefaults() {
        Due.promise(1, "0 at first, 1 at first, 3 at first");
        ScaleHouse house = new ScaleHouse();
        Due.law(house, "d*l", 0);
        for (int i = 0; i < 6; i++) {
            house.log(i, i, 10 + i, 7);
            Due.is("no ERROR, ROT or BEND of log " + i, house.scale(i, 0), 7 * (10 + i));
        }
        Due.is("a line each", house.day(), 6);
        for (int i = 0; i < 6; i++) {
            Due.is("PRICE 1 of owner " + i, house.line(i, 2), 7 * (10 + i));
        }
        Due.is("3 apart in 100", house.judge(97, 103, 100), 0);
        Due.is("4 apart in 100", house.judge(96, 104, 100), 3);
        house.row(0, 50, 30);
        house.row(1, 51, 30);
        house.row(1, 50, 31);
        Due.is("TD and TL are 0", house.pairs(), 0);
        house.row(1, 50, 30);
        Due.is("the same d and l", house.pair(0), 2);
    }

    private static String ones(int n) {
        return "1".repeat(n);
    }

    private static void feedUpTo120() {
        Due.promise(2, "NONE: more than 120");
        for (int n = 1; n <= 20; n++) {
            ScaleHouse last = new ScaleHouse();
            Due.feed(last, ones(120 - n));
            Due.is(n + " bytes to 120", Due.feedOnce(last, ones(n)), 120);
            Due.is("count(7)", last.count(7), 120);
            ScaleHouse first = new ScaleHouse();
            Due.feed(first, ones(121 - n));
            Due.is(n + " bytes to 121", Due.feedOnce(first, ones(n)), -1);
            Due.is("count(7)", first.count(7), 121 - n);
            Due.is("one byte less", Due.feedOnce(first, ones(n - 1)), 120);
        }
        ScaleHouse full = new ScaleHouse();
        Due.feed(full, ones(120));
        Due.is("no byte more", full.feed(0, 0, 0, 0, 0), 120);
        for (int place = 0; place < 20; place++) {
            int[] w = new int[5];
            w[place / 4] = '1' << 24 - 8 * (place % 4);
            Due.is("a byte in place " + place, full.feed(w[0], w[1], w[2], w[3], w[4]), -1);
        }
        for (int b = 1; b <= 255; b++) {
            Due.is("the byte " + b, full.feed(0, 0, b << 8, 0, 0), -1);
        }
        Due.is("twenty", Due.feedOnce(full, ones(20)), -1);
        Due.is("count(7)", full.count(7), 120);
        Due.is("fault as before", full.fault(), 5);
        Due.yes("room again", full.end(119));
        Due.is("one more", full.feed(0, '1', 0, 0, 0), 120);
    }

    private static void feedBeyond120KeepsTheTape() {
        Due.promise(2, "NONE: more than 120");
        ScaleHouse house = new ScaleHouse();
        Due.is("59 times 1+, and 1", Due.feed(house, "1+".repeat(59) + "1"), 119);
        Due.is("+1, of which one byte would have room", Due.feedOnce(house, "+1"), -1);
        Due.is("twenty", Due.feedOnce(house, "+1+1+1+1+1+1+1+1+1+1"), -1);
        Due.is("count(7)", house.count(7), 119);
        Due.is("fault()", house.fault(), -1);
        Due.is("a blank", house.feed(0, 0, 0, ' ', 0), 120);
        Due.is("fault()", house.fault(), -1);
        Due.is("a law of 120 bytes", house.law(0), 0);
        Due.is("60 times 1", house.value(0, 0, 0), 60);
        Due.is("empty then, with room for 20", Due.feedOnce(house, ones(20)), 20);
    }

    private static void feedPlaces() {
        Due.promise(2, "of each number the highest first; bytes of 0 are left out");
        for (int place = 0; place < 20; place++) {
            ScaleHouse house = new ScaleHouse();
            int[] w = new int[5];
            w[place / 4] = 'd' << 24 - 8 * (place % 4);
            Due.is("d in place " + place, house.feed(w[0], w[1], w[2], w[3], w[4]), 1);
            Due.is("fault()", house.fault(), -1);
            Due.is("law(0)", house.law(0), 0);
            Due.is("value", house.value(0, 321, 0), 321);
        }
        ScaleHouse house = new ScaleHouse();
        Due.is("nothing", house.feed(0, 0, 0, 0, 0), 0);
        Due.is("twenty", Due.feedOnce(house, "12345+67890-13579*24"), 20);
        Due.is("nothing", house.feed(0, 0, 0, 0, 0), 20);
        Due.is("law", house.law(0), 0);
        Due.is("in their order", house.value(0, 0, 0), 12345 + 67890 - 13579 * 24);
        Due.is("5-32 with zeros between", house.feed(0x35000000, 0x00002D00, 0x00330000, 0, 0x00000032), 4);
        Due.is("law", house.law(0), 1);
        Due.is("in their order", house.value(1, 0, 0), -27);
    }

    private static void feedFarthestInts() {
        Due.promise(2, "how many it has");
        ScaleHouse house = new ScaleHouse();
        Due.is("one byte, 128", house.feed(MIN, 0, 0, 0, 0), 1);
        Due.is("fault()", house.fault(), 0);
        Due.is("one each", house.feed(MIN, MIN, MIN, MIN, MIN), 6);
        Due.is("four bytes, 127 and 255", house.feed(0, 0, 0, 0, MAX), 10);
        Due.is("twenty", house.feed(MAX, MAX, MAX, MAX, MAX), 30);
        Due.is("twenty times 255", house.feed(-1, -1, -1, -1, -1), 50);
        Due.is("twenty times 1", house.feed(0x01010101, 0x01010101, 0x01010101, 0x01010101, 0x01010101), 70);
        Due.is("ten", house.feed(0x00FF00FF, 0xFF00FF00, 0x00FF00FF, 0xFF00FF00, 0xFF0000FF), 80);
        Due.yes("end(1)", house.end(1));
        Due.is("fault()", house.fault(), 0);
        Due.is("law(0)", house.law(0), -1);
    }

    private static void endBounds() {
        Due.promise(3, "False: n");
        for (int size : new int[] {0, 1, 2, 20, 119, 120}) {
            ScaleHouse house = new ScaleHouse();
            Due.feed(house, ones(size));
            for (int n : Due.outside(0, size)) {
                Due.no("of " + size + ": end(" + n + ")", house.end(n));
                Due.is("count(7)", house.count(7), size);
            }
            Due.yes("of " + size + ": end(" + size + ")", house.end(size));
            Due.is("count(7)", house.count(7), size);
            Due.yes("of " + size + ": end(0)", house.end(0));
            Due.is("count(7)", house.count(7), 0);
            Due.yes("end(0) of none", house.end(0));
            Due.no("what is cut off is gone", house.end(1));
        }
    }

    private static void endCuts() {
        Due.promise(3, "The TAPE has its first n bytes alone");
        String text = "1+20*3-4/5";
        int[] values = {0, 1, 0, 3, 21, 0, 61, 0, 57, 0, 61};
        for (int n = 0; n <= text.length(); n++) {
            ScaleHouse house = new ScaleHouse();
            Due.feed(house, text);
            Due.no("beyond", house.end(text.length() + 1));
            Due.yes("end(" + n + ")", house.end(n));
            boolean whole = values[n] != 0;
            Due.is("fault of the first " + n, house.fault(), whole ? -1 : n);
            Due.is("law of the first " + n, house.law(0), whole ? 0 : -1);
            if (whole) {
                Due.is("value of the first " + n, house.value(0, 0, 0), values[n]);
            }
        }
        ScaleHouse house = new ScaleHouse();
        Due.feed(house, text);
        house.end(3);
        Due.is("more behind the cut", Due.feedOnce(house, "7"), 4);
        house.law(0);
        Due.is("1+27", house.value(0, 0, 0), 28);
    }

    private static void fault(String text, int want) {
        ScaleHouse house = new ScaleHouse();
        Due.is("bytes of '" + text + "'", Due.feed(house, text), text.length());
        Due.is("fault of '" + text + "'", house.fault(), want);
        Due.is("the same again", house.fault(), want);
        Due.is("its bytes stay", house.count(7), text.length());
        Due.is("law of '" + text + "'", house.law(0), want == -1 ? 0 : -1);
        Due.is("its bytes then", house.count(7), want == -1 ? 0 : text.length());
    }

    private static void faultOfLengths() {
        Due.promise(4, "the length, if it ends too early");
        fault("", 0);
        fault("(", 1);
        fault("d-", 2);
        fault("(d", 2);
        fault("d*(", 3);
        fault("((d)", 4);
        fault("1+".repeat(59) + "1", -1);
        fault("1+".repeat(59) + "12", -1);
        fault("1+".repeat(60), 120);
        fault("1+".repeat(58) + "(d+l", 120);
        fault("1+".repeat(58) + "(d) ", -1);
        Due.promise(4, "the first byte at which no TEXT can go on");
        fault("1+".repeat(59) + "1)", 119);
        fault("1+".repeat(59) + "1d", 119);
        fault("1+".repeat(59) + "+)", 118);
        fault(")" + "1+".repeat(59) + "1", 0);
        fault("d)d)", 1);
        fault("+", 0);
        fault("d+)", 2);
        fault("()", 1);
        fault("(d)(d)", 3);
        fault("d d", 2);
    }

    private static void faultOfDigits() {
        Due.promise(4, "a number (1 to 5 digits); a sixth digit");
        for (int n = 1; n <= 120; n++) {
            fault("9".repeat(n), n <= 5 ? -1 : 5);
        }
        fault("00000", -1);
        fault("000000", 5);
        fault("99999+99999", -1);
        fault("99999+999999", 11);
        fault("(12345)", -1);
        fault("(123456)", 6);
        fault("12345 ", -1);
        fault("12345 6", 6);
        fault("1 2", 2);
        fault("12345d", 5);
        fault("d+12345*123456", 13);
        ScaleHouse house = new ScaleHouse();
        Due.law(house, "99999", 0);
        Due.law(house, "00001", 0);
        Due.is("five digits", house.value(0, 0, 0), 99999);
        Due.is("zeros ahead", house.value(1, 0, 0), 1);
    }

    private static void faultOfBrackets() {
        Due.promise(4, "a ninth ( within one another");
        for (int n = 1; n <= 59; n++) {
            fault("(".repeat(n) + "d" + ")".repeat(n), n <= 8 ? -1 : 8);
        }
        fault("(".repeat(8), 8);
        fault("(".repeat(9), 8);
        fault("(".repeat(120), 8);
        fault("( ".repeat(8) + "d" + " )".repeat(8), -1);
        fault("( ".repeat(9) + "d" + " )".repeat(9), 16);
        // Side by side there may be more.
        fault("(d)+".repeat(29) + "(d)", -1);
        fault("(".repeat(8) + "d)+(d" + ")".repeat(8), -1);
        fault("(".repeat(8) + "d)+((d" + ")".repeat(9), 12);
        fault("(".repeat(8) + "d" + ")".repeat(8) + "*" + "(".repeat(8) + "l" + ")".repeat(8), -1);
        fault("(".repeat(8) + "d" + ")".repeat(8) + "*" + "(".repeat(9), 26);
        fault("d*" + "(".repeat(9), 10);
        fault("(".repeat(8) + "d" + ")".repeat(9), 17);
    }

    private static void faultOfEachByte() {
        Due.promise(4, "FACTOR: a number, d, l, or ( SUM )");
        for (int b = 1; b <= 255; b++) {
            char sign = (char) b;
            boolean digit = b >= '0' && b <= '9';
            boolean starts = sign == '(' || sign == ' ';
            fault("" + sign, digit || sign == 'd' || sign == 'l' ? -1 : starts ? 1 : 0);
            boolean between = "+-*/".indexOf(sign) >= 0;
            fault("d" + sign, sign == ' ' ? -1 : between ? 2 : 1);
            fault("7" + sign, sign == ' ' || digit ? -1 : between ? 2 : 1);
            fault("d" + sign + "l", between ? -1 : sign == ' ' ? 2 : 1);
            fault("(d" + sign, sign == ')' ? -1 : between || sign == ' ' ? 3 : 2);
        }
    }

    private static void faultOfBlanks() {
        Due.promise(4, "Blanks (32) may stand between all these, ahead and behind");
        for (int n = 1; n <= 120; n++) {
            fault(" ".repeat(n), n);
        }
        fault(" ".repeat(119) + "d", -1);
        fault("d" + " ".repeat(119), -1);
        fault(" ".repeat(118) + "d+", 120);
        fault("d" + " ".repeat(118) + "l", 119);
        fault(" ( d + 1 ) * ( l / 2 ) ", -1);
        fault("d" + (char) 31 + "+l", 1);
        fault("d" + (char) 33 + "+l", 1);
        fault("d" + (char) 9 + "+l", 1);
        fault("d" + (char) 160 + "+l", 1);
        ScaleHouse house = new ScaleHouse();
        Due.law(house, "  12 -  d * ( l  + 3 ) ", 0);
        Due.is("its value", house.value(0, 2, 4), -2);
    }
}
