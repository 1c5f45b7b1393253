/** The boundary cases of promises 5 law, 6 value, 7 force, 8 most. */
public final class BoundsLawTest {
    private static final int FAR = 1_000_000_000;

    public static void main(String[] args) {
        lawDays();
        lawFaults();
        twentyLaws();
        valueArguments();
        valueOfTwenty();
        valueDeepest();
        valueFarthest();
        valueByZero();
        valueCutDown();
        forceArguments();
        forceOnTheDay();
        forceAsKnown();
        forceToldLast();
        forceLastDay();
        mostArguments();
        mostOfSeveral();
        mostOfTwenty();
        Due.close("BoundsLawTest");
    }

    private static void lawDays() {
        Due.promise(5, "NONE: no such DAY");
        ScaleHouse house = new ScaleHouse();
        Due.feed(house, "d*100-l");
        for (int from : Due.outside(0, 500)) {
            Due.is("law(" + from + ")", house.law(from), -1);
            Due.is("the tape stays", house.count(7), 7);
            Due.is("no law", house.count(1), 0);
        }
        Due.is("none in force", house.force(500, 0), -1);
        Due.is("law(500)", house.law(500), 0);
        Due.is("the tape is empty then", house.count(7), 0);
        Due.is("its fault", house.fault(), 0);
        Due.is("its text", house.value(0, 3, 4), 296);
        Due.is("not on 499", house.force(499, 0), -1);
        Due.is("on 500", house.force(500, 0), 0);
        Due.feed(house, "d");
        Due.is("law(0)", house.law(0), 1);
        Due.is("on 0", house.force(0, 0), 1);
        Due.is("on 499", house.force(499, 0), 1);
        Due.feed(house, "l");
        Due.is("law(1)", house.law(1), 2);
        Due.is("on 0 as before", house.force(0, 0), 1);
        Due.is("on 1", house.force(1, 0), 2);
    }

    private static void lawFaults() {
        Due.promise(5, "NONE: a FAULT");
        ScaleHouse house = new ScaleHouse();
        Due.is("the empty tape", house.law(0), -1);
        Due.feed(house, "d*l+");
        Due.is("one that ends too early", house.law(0), -1);
        Due.is("it stays", house.count(7), 4);
        Due.is("no law", house.count(1), 0);
        Due.feed(house, "7)");
        Due.is("one with a fault", house.law(500), -1);
        Due.is("it stays", house.count(7), 6);
        Due.is("fault()", house.fault(), 5);
        house.end(5);
        Due.is("without it", house.law(0), 0);
        Due.is("its text", house.value(0, 3, 4), 19);
        Due.is("the empty tape then", house.law(0), -1);
        Due.is("one law", house.count(1), 1);
    }

    private static void twentyLaws() {
        Due.promise(5, "NONE: there are 20");
        ScaleHouse house = new ScaleHouse();
        for (int i = 0; i < 20; i++) {
            Due.feed(house, "d+" + i);
            Due.is("law " + i, house.law(i), i);
            Due.is("count(1)", house.count(1), i + 1);
        }
        Due.feed(house, "77777");
        for (int from : new int[] {0, 19, 20, 500}) {
            Due.is("a 21st from " + from, house.law(from), -1);
        }
        Due.is("count(1)", house.count(1), 20);
        Due.is("its tape stays", house.count(7), 5);
        for (int i = 0; i < 20; i++) {
            Due.is("value of law " + i, house.value(i, 100, 0), 100 + i);
            Due.is("on day " + i, house.force(i, 0), i);
        }
        Due.noValue(house, 20, 100, 0);
        Due.is("on day 500", house.force(500, 0), 19);
    }

    private static void valueArguments() {
        Due.promise(6, "NoSuchElementException: no such LAW, d, l");
        ScaleHouse house = new ScaleHouse();
        Due.noValue(house, 0, 0, 0);
        Due.law(house, "d*10000+l", 500);
        for (int law : Due.outside(0, 0)) {
            Due.noValue(house, law, 1, 1);
        }
        for (int x : Due.outside(0, 1000)) {
            Due.noValue(house, 0, x, 1);
            Due.noValue(house, 0, 1, x);
            Due.noValue(house, 0, x, x);
        }
        Due.is("0, 0", house.value(0, 0, 0), 0);
        Due.is("0, 1000", house.value(0, 0, 1000), 1000);
        Due.is("1000, 0", house.value(0, 1000, 0), 10_000_000);
        Due.is("1000, 1000", house.value(0, 1000, 1000), 10_001_000);
        Due.is("the laws", house.count(1), 1);
        Due.is("the tape", house.count(7), 0);
    }

    private static void valueOfTwenty() {
        Due.promise(6, "NoSuchElementException: no such LAW");
        ScaleHouse house = new ScaleHouse();
        for (int i = 0; i < 20; i++) {
            for (int law : Due.outside(0, i - 1)) {
                Due.noValue(house, law, 1, 1);
            }
            Due.feed(house, "l*" + i);
            house.law(0);
            Due.is("law " + i, house.value(i, 0, 10), 10 * i);
        }
        Due.noValue(house, 20, 1, 1);
        Due.is("law 0", house.value(0, 0, 10), 0);
    }

    private static void value(String text, int d, int l, long want) {
        ScaleHouse house = new ScaleHouse();
        Due.is("law of '" + text + "'", Due.law(house, text, 0), 0);
        Due.is("'" + text + "' by " + d + ", " + l, house.value(0, d, l), want);
    }

    private static void valueDeepest() {
        Due.promise(6, "FACTOR: ( SUM ), eight within one another");
        value("((((((((d))))))))", 123, 0, 123);
        value("1-(2-(3-(4-(5-(6-(7-(8-(9-d)*l)))))))", 2, 3, 17);
        value("((((((((d-1)*2-1)*2-1)*2-1)*2-1)*2-1)*2-1)*2-1)*l", 3, 10, 1290);
        value("l*(1+l*(1+l*(1+l*(1+l*(1+l*(1+l*(1+l*(1+d))))))))", 0, 2, 510);
        value("d/(l-d/(l-d/(l-d/(l-d/(l-d/(l-d/(l-d/(l-1))))))))", 100, 7, 2);
        value("((((((((d))))))))-((((((((l))))))))*((((((((2))))))))", 9, 3, 3);
        // Behind a deep one the next begins anew.
        ScaleHouse house = new ScaleHouse();
        Due.law(house, "((((((((d))))))))", 0);
        Due.law(house, "d+1", 0);
        Due.is("deep", house.value(0, 5, 0), 5);
        Due.is("flat", house.value(1, 5, 0), 6);
        Due.is("deep", house.value(0, 7, 0), 7);
    }

    private static void valueFarthest() {
        Due.promise(6, "what is above 1,000,000,000 is that, what is below -1,000,000,000 is that");
        value("d*d*d-1", 1000, 0, FAR - 1);
        value("d*d*d", 1000, 0, FAR);
        value("d*d*d+1", 1000, 0, FAR);
        value("0-d*d*d+1", 1000, 0, 1 - FAR);
        value("0-d*d*d", 1000, 0, -FAR);
        value("0-d*d*d-1", 1000, 0, -FAR);
        Due.promise(6, "behind each + - * /");
        value("d*d*d-1+1-1", 1000, 0, FAR - 1);
        value("d*d*d-1+2-1", 1000, 0, FAR - 1);
        value("d*d*d+1-1", 1000, 0, FAR - 1);
        value("d*d*d-(0-1)-1", 1000, 0, FAR - 1);
        value("0-d*d*d+(0-1)+1", 1000, 0, 1 - FAR);
        value("0-d*d*d-1+1", 1000, 0, 1 - FAR);
        value("d*d*d*2/2", 1000, 0, FAR / 2);
        value("d*d*d*(0-2)/2", 1000, 0, -FAR / 2);
        value("(0-d*d*d)*2/2", 1000, 0, -FAR / 2);
        value("(0-d*d*d)*(0-2)/2", 1000, 0, FAR / 2);
        value("d*d*d/1", 1000, 0, FAR);
        value("d*d*d/(0-1)", 1000, 0, -FAR);
        value("(0-d*d*d)/(0-1)", 1000, 0, FAR);
        value("(d*d*d+d)-d", 1000, 0, FAR - 1000);
        value("d-(d*d*d+d)", 1000, 0, 1000 - FAR);
        value("(d*d*d)*(d*d*d)", 1000, 0, FAR);
        value("(d*d*d)*(0-d*d*d)", 1000, 0, -FAR);
        value("99999*99999/99999", 0, 0, 10_000);
        value("d*d*d*l/1000*l/1000", 1000, 1000, FAR / 1000);
        value("1" + "*99999".repeat(19), 0, 0, FAR);
        value("(0-1)" + "*99999".repeat(19), 0, 0, -FAR);
        Due.promise(6, "not bounded as with a SCALE");
        value("d*d+1", 1000, 0, 1_000_001);
        value("d-l", 0, 1, -1);
        value("d-l*l", 0, 1000, -1_000_000);
    }

    private static void valueByZero() {
        Due.promise(6, "by 0 gives 0");
        value("5/0", 0, 0, 0);
        value("0/0", 0, 0, 0);
        value("(0-5)/0", 0, 0, 0);
        value("d*d*d/0", 1000, 0, 0);
        value("0-d*d*d/0", 1000, 0, 0);
        value("5/d", 0, 9, 0);
        value("5/l", 9, 0, 0);
        value("5/(d-l)", 9, 9, 0);
        value("5/00000", 0, 0, 0);
        value("9/0+3", 0, 0, 3);
        value("9/0*5+4/0-2", 0, 0, -2);
        value("9/(1/2)", 0, 0, 0);
        value("(9/0)/0", 0, 0, 0);
        value("5/1", 0, 0, 5);
        value("5/(0-1)", 0, 0, -5);
    }

    private static void valueCutDown() {
        Due.promise(6, "/ cuts down (towards lesser numbers)");
        value("7/2", 0, 0, 3);
        value("(0-7)/2", 0, 0, -4);
        value("7/(0-2)", 0, 0, -4);
        value("(0-7)/(0-2)", 0, 0, 3);
        value("(0-6)/2", 0, 0, -3);
        value("6/(0-2)", 0, 0, -3);
        value("(0-6)/(0-2)", 0, 0, 3);
        value("1/99999", 0, 0, 0);
        value("(0-1)/99999", 0, 0, -1);
        value("1/(0-99999)", 0, 0, -1);
        value("(0-1)/(0-99999)", 0, 0, 0);
        value("0/(0-5)", 0, 0, 0);
        value("(0-d*d*d)/3", 1000, 0, -333_333_334);
        value("d*d*d/(0-3)", 1000, 0, -333_333_334);
        Due.promise(6, "from the left");
        value("7/2*2", 0, 0, 6);
        value("7*2/2", 0, 0, 7);
        value("100/7/3", 0, 0, 4);
        value("10-7-2", 0, 0, 1);
        value("10-7+2", 0, 0, 5);
        value("0-7/2", 0, 0, -3);
    }

    private static void forceArguments() {
        Due.promise(7, "NONE: none, no such DAY, q");
        ScaleHouse house = new ScaleHouse();
        Due.is("no law: 0", house.force(0, 0), -1);
        Due.is("no law: 500", house.force(500, 0), -1);
        Due.law(house, "d", 0);
        for (int now = 0; now < 4; now++) {
            for (int day : Due.outside(0, 500)) {
                Due.is("force(" + day + ", " + now + ")", house.force(day, now), -1);
            }
            for (int q : Due.outside(0, now)) {
                Due.is("NOW " + now + ": force(0, " + q + ")", house.force(0, q), -1);
            }
            for (int q = 0; q <= now; q++) {
                Due.is("NOW " + now + ": force(0, " + q + ")", house.force(0, q), 0);
                Due.is("NOW " + now + ": force(500, " + q + ")", house.force(500, q), 0);
            }
            house.day();
        }
    }

    private static void forceOnTheDay() {
        Due.promise(7, "from DAYS up to it, the one from the greatest DAY");
        ScaleHouse house = new ScaleHouse();
        Due.law(house, "d", 10);
        Due.law(house, "l", 20);
        Due.law(house, "7", 15);
        int[][] want = {{0, -1}, {9, -1}, {10, 0}, {14, 0}, {15, 2}, {19, 2}, {20, 1}, {500, 1}};
        for (int[] w : want) {
            Due.is("on " + w[0], house.force(w[0], 0), w[1]);
        }
    }

    private static void forceAsKnown() {
        Due.promise(7, "of those told on DAYS up to q");
        ScaleHouse house = new ScaleHouse();
        Due.days(house, 2);
        Due.law(house, "d", 0);
        Due.is("told on 2, known in 2", house.force(0, 2), 0);
        Due.is("not in 1", house.force(0, 1), -1);
        Due.is("not in 0", house.force(0, 0), -1);
        house.day();
        Due.law(house, "l", 1);
        Due.is("in 2 as before, on 1", house.force(1, 2), 0);
        Due.is("in 3, on 1", house.force(1, 3), 1);
        Due.is("in 3, on 0", house.force(0, 3), 0);
        Due.is("not in 1", house.force(1, 1), -1);
    }

    private static void forceToldLast() {
        Due.promise(7, "of several the one told last");
        ScaleHouse house = new ScaleHouse();
        for (int i = 0; i < 4; i++) {
            Due.law(house, "d", 5);
            Due.law(house, "l", 4);
            Due.is("on 5", house.force(5, i), 2 * i);
            Due.is("on 4", house.force(4, i), 2 * i + 1);
            house.day();
        }
        for (int q = 0; q < 4; q++) {
            Due.is("on 5 as known in " + q, house.force(5, q), 2 * q);
            Due.is("on 4 as known in " + q, house.force(4, q), 2 * q + 1);
        }
        Due.law(house, "1", 5);
        Due.law(house, "2", 5);
        Due.is("two of one day", house.force(5, 4), 9);
    }

    private static void forceLastDay() {
        Due.promise(7, "DAYS: 500 at most");
        ScaleHouse house = new ScaleHouse();
        Due.days(house, 499);
        Due.is("q 500 at 499", house.force(0, 500), -1);
        house.day();
        Due.feedOnce(house, "d");
        Due.is("a law on day 500", house.law(0), 0);
        Due.is("known in 500", house.force(0, 500), 0);
        Due.is("not in 499", house.force(0, 499), -1);
        Due.is("no 501", house.force(0, 501), -1);
        Due.is("on 500", house.force(500, 500), 0);
        Due.is("no day 501", house.force(501, 500), -1);
        Due.is("value", house.value(0, 8, 0), 8);
    }

    private static void mostArguments() {
        Due.promise(8, "NONE: there is none, no such d, l");
        ScaleHouse house = new ScaleHouse();
        Due.is("no law", house.most(0, 0), -1);
        Due.is("no law", house.most(1000, 1000), -1);
        Due.law(house, "d-l", 500);
        for (int x : Due.outside(0, 1000)) {
            Due.is("most(" + x + ", 0)", house.most(x, 0), -1);
            Due.is("most(0, " + x + ")", house.most(0, x), -1);
        }
        Due.is("the least", house.most(0, 0), 0);
        Due.is("the greatest", house.most(1000, 1000), 0);
        Due.is("0, 1000", house.most(0, 1000), 0);
        Due.is("1000, 0", house.most(1000, 0), 0);
    }

    private static void mostOfSeveral() {
        Due.promise(8, "of several the first told");
        ScaleHouse house = new ScaleHouse();
        Due.law(house, "d*d*d-1", 0);
        Due.law(house, "d*d*d", 500);
        Due.law(house, "d*d*d+1", 3);
        Due.is("one less, two as much by their bound", house.most(1000, 0), 1);
        Due.is("the last by 1", house.most(999, 0), 2);
        Due.is("-1, 0, 1", house.most(0, 0), 2);
        ScaleHouse low = new ScaleHouse();
        Due.law(low, "0-d*d*d-5", 0);
        Due.is("the least there may be", low.most(1000, 0), 0);
        Due.law(low, "0-d*d*d-6", 0);
        Due.is("as little", low.most(1000, 0), 0);
        Due.law(low, "0-d*d*d+1", 0);
        Due.is("one more than that", low.most(1000, 0), 2);
        Due.law(low, "l*0", 0);
        Due.is("0 above what is below", low.most(1000, 0), 3);
        Due.law(low, "0", 0);
        Due.is("the first of 0", low.most(1000, 0), 3);
    }

    private static void mostOfTwenty() {
        Due.promise(8, "of those told so far");
        ScaleHouse house = new ScaleHouse();
        for (int i = 0; i < 20; i++) {
            Due.law(house, i + "*d+(19-" + i + ")*l", 20 * i);
            Due.is("by d, of " + (i + 1), house.most(1, 0), i);
            Due.is("by l, of " + (i + 1), house.most(0, 1), 0);
            Due.is("alike, of " + (i + 1), house.most(1, 1), 0);
        }
    }
}
