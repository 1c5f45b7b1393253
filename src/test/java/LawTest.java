/** Promises 5 law, 6 value, 7 force, 8 most. */
public final class LawTest {
    public static void main(String[] args) {
        laws();
        values();
        bounded();
        valueRefused();
        force();
        most();
        Due.close("LawTest");
    }

    private static void laws() {
        ScaleHouse house = new ScaleHouse();
        Due.is("law of an empty tape", house.law(0), -1);
        Due.feed(house, "d*l");
        Due.is("law(-1)", house.law(-1), -1);
        Due.is("law(501)", house.law(501), -1);
        Due.is("the tape stays", house.count(7), 3);
        Due.is("law(500)", house.law(500), 0);
        Due.is("the tape is empty", house.count(7), 0);
        Due.is("the same tape no more", house.law(500), -1);
        for (int i = 1; i < 20; i++) {
            Due.is("law " + i, Due.law(house, "d+" + i, i), i);
        }
        Due.is("a 21st law", Due.law(house, "d", 0), -1);
        Due.is("its tape stays", house.count(7), 1);
        Due.is("count(1)", house.count(1), 20);
        for (int i = 1; i < 20; i++) {
            Due.is("value of law " + i, house.value(i, 100, 0), 100 + i);
        }
        Due.is("value of law 0", house.value(0, 3, 4), 12);
    }

    private static void values() {
        value("d", 7, 9, 7);
        value("l", 7, 9, 9);
        value("99999", 0, 0, 99999);
        value("00012", 0, 0, 12);
        value("d-l-1", 2, 5, -4);
        value("d-(l-1)", 2, 5, -2);
        value("100/7/2", 0, 0, 7);
        value("100/(7/2)", 0, 0, 33);
        value("2+3*4", 0, 0, 14);
        value("(2+3)*4", 0, 0, 20);
        value("2*3+4*5-6*7", 0, 0, -16);
        value("7/2*2", 0, 0, 6);
        value("2*7/2", 0, 0, 7);
        value("(0-7)/2", 0, 0, -4);
        value("(0-8)/2", 0, 0, -4);
        value("7/(0-2)", 0, 0, -4);
        value("(0-7)/(0-2)", 0, 0, 3);
        value("0-7/2", 0, 0, -3);
        value("(0-1)/99999", 0, 0, -1);
        value("5/0", 0, 0, 0);
        value("0/0", 0, 0, 0);
        value("(0-5)/d", 0, 0, 0);
        value("5/(d-d)+3", 4, 0, 3);
        value("5/0*7+1", 0, 0, 1);
        value(" 12 + d * ( l - 3 ) ", 4, 8, 32);
        value("((((((((d))))))))*((((((((l))))))))-(1)", 1000, 1000, 999999);
        value("(d-4)*(d-4)*l/16", 20, 16, 256);
        value("1-(2-(3-(4-(5-(6-(7-(8-(9))))))))", 0, 0, 5);
        value("10+ 20", 0, 0, 30);
        value("1*(2+3)*(4-5)/(1+1)", 0, 0, -3);
    }

    private static void bounded() {
        value("d*d*d", 1000, 0, 1_000_000_000);
        value("d*d*d+1", 1000, 0, 1_000_000_000);
        value("d*d*d-1", 1000, 0, 999_999_999);
        value("d*d*d+5-10", 1000, 0, 999_999_990);
        value("d*d*d*2/2", 1000, 0, 500_000_000);
        value("d*d*d*d", 1000, 0, 1_000_000_000);
        value("0-d*d*d", 1000, 0, -1_000_000_000);
        value("0-d*d*d-1", 1000, 0, -1_000_000_000);
        value("0-d*d*d-1+1", 1000, 0, -999_999_999);
        value("(0-d)*d*d*2/2", 1000, 0, -500_000_000);
        value("(0-d)*d*d*2", 1000, 0, -1_000_000_000);
        value("(0-d*d*d)*(0-d*d*d)", 1000, 0, 1_000_000_000);
        value("(d*d*d)*(0-d*d*d)", 1000, 0, -1_000_000_000);
        value("d*d*d*99999*99999*99999/99999", 1000, 0, 10_000);
        value("(0-d*d*d)/(0-1)", 1000, 0, 1_000_000_000);
        value("(0-99999*99999)/99999", 0, 0, -10_001);
        value("d*d*d+d*d*d-d*d*d", 1000, 0, 0);
        value("d*d*d-(d*d*d+d*d*d)", 1000, 0, 0);
    }

    private static void value(String text, int d, int l, long want) {
        ScaleHouse house = new ScaleHouse();
        Due.is("law of '" + text + "'", Due.law(house, text, 0), 0);
        Due.is("value of '" + text + "' by " + d + ", " + l, house.value(0, d, l), want);
        Due.is("it again", house.value(0, d, l), want);
    }

    private static void valueRefused() {
        ScaleHouse house = new ScaleHouse();
        Due.law(house, "d*1000+l", 7);
        Due.is("the least", house.value(0, 0, 0), 0);
        Due.is("the most", house.value(0, 1000, 1000), 1_001_000);
        Due.noValue(house, -1, 0, 0);
        Due.noValue(house, 1, 0, 0);
        Due.noValue(house, 20, 0, 0);
        Due.noValue(house, 0, -1, 0);
        Due.noValue(house, 0, 1001, 0);
        Due.noValue(house, 0, 0, -1);
        Due.noValue(house, 0, 0, 1001);
        Due.noValue(house, Integer.MAX_VALUE, 5, 5);
        Due.noValue(house, Integer.MIN_VALUE, 5, 5);
        Due.is("behind them", house.value(0, 3, 4), 3004);
    }

    private static void force() {
        ScaleHouse house = new ScaleHouse();
        Due.law(house, "1", 5);
        Due.is("ahead of it", house.force(4, 0), -1);
        Due.is("from it on", house.force(5, 0), 0);
        Due.is("to the end", house.force(500, 0), 0);
        Due.is("no such q", house.force(5, 1), -1);
        Due.is("no such q", house.force(5, -1), -1);
        Due.is("no such day", house.force(501, 0), -1);
        Due.is("no such day", house.force(-1, 0), -1);
        Due.law(house, "2", 3);
        Due.is("the greater from wins, told ahead or not", house.force(5, 0), 0);
        Due.is("the lesser from ahead of it", house.force(4, 0), 1);
        Due.is("none ahead of both", house.force(2, 0), -1);
        Due.law(house, "3", 5);
        Due.is("of the same from the one told last", house.force(5, 0), 2);
        house.day();
        Due.law(house, "4", 4);
        Due.law(house, "5", 500);
        house.day();
        Due.law(house, "6", 0);
        Due.is("not known in 0", house.force(4, 0), 1);
        Due.is("known in 1", house.force(4, 1), 3);
        Due.is("known in 2", house.force(4, 2), 3);
        Due.is("day 500 in 0", house.force(500, 0), 2);
        Due.is("day 500 in 1", house.force(500, 1), 4);
        Due.is("day 499 in 1", house.force(499, 1), 2);
        Due.is("day 0 in 1", house.force(0, 1), -1);
        Due.is("day 0 in 2", house.force(0, 2), 5);
        Due.is("q beyond now", house.force(0, 3), -1);
    }

    private static void most() {
        ScaleHouse house = new ScaleHouse();
        Due.is("no laws", house.most(1, 1), -1);
        Due.law(house, "0-5", 400);
        Due.is("one below 0", house.most(1, 1), 0);
        Due.law(house, "d", 0);
        Due.law(house, "l", 0);
        Due.law(house, "d", 0);
        Due.is("d more", house.most(3, 2), 1);
        Due.is("l more", house.most(2, 3), 2);
        Due.is("as much: the first", house.most(3, 3), 1);
        Due.is("the greatest d, l", house.most(1000, 1000), 1);
        Due.is("0, 0", house.most(0, 0), 1);
        Due.is("d below", house.most(-1, 0), -1);
        Due.is("d above", house.most(1001, 0), -1);
        Due.is("l below", house.most(0, -1), -1);
        Due.is("l above", house.most(0, 1001), -1);
        Due.law(house, "d*1000*1000+l", 0);
        Due.law(house, "d*1000*1000+l*2", 0);
        Due.is("not bounded as a scale", house.most(2, 1), 5);
        Due.is("bounded as a value", house.most(1000, 1), 4);
        ScaleHouse low = new ScaleHouse();
        Due.law(low, "0-9", 0);
        Due.law(low, "0-7", 0);
        Due.law(low, "0-8", 0);
        Due.is("all below 0", low.most(1, 1), 1);
    }
}
