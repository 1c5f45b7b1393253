import java.util.NoSuchElementException;
import java.util.stream.IntStream;

/** What the tests share: telling wrong answers, and feeding texts. */
final class Due {
    private static int wrong = 0;
    private static int asked = 0;
    private static String holds = "";

    private Due() {
    }

    /** Names the promise, and the words of the document, that the answers asked for from here on hold to. */
    static void promise(int number, String words) {
        holds = "promise " + number + ", \"" + words + "\": ";
    }

    static int asked() {
        return asked;
    }

    static void is(String call, long got, long want) {
        asked++;
        if (got != want) {
            wrong++;
            System.out.println(holds + call + " answered " + got + ", due is " + want);
        }
    }

    static void yes(String call, boolean got) {
        is(call, got ? 1 : 0, 1);
    }

    static void no(String call, boolean got) {
        is(call, got ? 1 : 0, 0);
    }

    static void noValue(ScaleHouse house, int law, int d, int l) {
        String call = "value(" + law + ", " + d + ", " + l + ")";
        try {
            long got = house.value(law, d, l);
            is(call + " throws nothing and", got, Long.MIN_VALUE);
        } catch (NoSuchElementException e) {
            is(call + " throws NoSuchElementException", 1, 1);
        }
    }

    /** Ends the test: 1 to the shell if an answer was wrong, or if nothing was asked. */
    static void close(String test) {
        System.out.println(test + ": " + asked + " answers, " + wrong + " wrong");
        if (wrong != 0 || asked == 0) {
            System.exit(1);
        }
    }

    /** Feeds a whole text in twenties; answers what the last feed answered. */
    static int feed(ScaleHouse house, String text) {
        int last = house.count(7);
        for (int at = 0; at < text.length(); at += 20) {
            last = house.feed(word(text, at), word(text, at + 4), word(text, at + 8),
                    word(text, at + 12), word(text, at + 16));
        }
        return last;
    }

    static int word(String text, int at) {
        int word = 0;
        for (int i = at; i < at + 4; i++) {
            word = word << 8 | (i < text.length() ? text.charAt(i) & 255 : 0);
        }
        return word;
    }

    /** One feed of up to twenty signs. */
    static int feedOnce(ScaleHouse house, String text) {
        return house.feed(word(text, 0), word(text, 4), word(text, 8), word(text, 12), word(text, 16));
    }

    static int law(ScaleHouse house, String text, int from) {
        house.end(0);
        feed(house, text);
        return house.law(from);
    }

    /** Ints that are not within the bounds: the nearest, the farthest, and some that wrap round into them. */
    static int[] outside(int least, int greatest) {
        return IntStream.of(least - 1, greatest + 1, Integer.MIN_VALUE, Integer.MAX_VALUE, least + 256,
                greatest + 65_536, greatest + Integer.MIN_VALUE, -greatest - 1)
                .filter(x -> x < least || x > greatest).distinct().toArray();
    }

    static void days(ScaleHouse house, int n) {
        for (int i = 0; i < n; i++) {
            house.day();
        }
    }
}
