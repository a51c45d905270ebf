import java.util.function.IntUnaryOperator;

/** What the tests by hand share: they say the sentence that they stand for, and print each answer that is not due. */
class Due {
    static final int NONE = -1, UNKNOWN = -1000000001, OUTSIDE = -1000000002, NOT = -1000000003, FULL = -1000000004;
    /** Beyond all bounds (but -2, which order() knows): every call looks at its arguments before it reckons with them. */
    private static final int[] FAR_BELOW = {-3, -4, -100, UNKNOWN, Integer.MIN_VALUE, Integer.MIN_VALUE + 1};
    private static final int[] FAR_ABOVE = {1000, 65536, Integer.MAX_VALUE - 1, Integer.MAX_VALUE};

    private static int wrong = 0;
    private static int answers = 0;
    private static String sentence = "";

    /** Which promise and which sentence of the document the next answers stand for. */
    static void says(String words) {
        sentence = words;
    }

    static void due(String call, long got, long want) {
        answers++;
        if (got != want) {
            wrong++;
            System.out.println(sentence + ": " + call + " answered " + got + ", due is " + want);
        }
    }

    /** The call is refused so for all that is far beyond its bounds. */
    static void far(String call, IntUnaryOperator answer, int want) {
        farBelow(call, answer, want);
        for (int i : FAR_ABOVE) {
            due(call + " of " + i, answer.applyAsInt(i), want);
        }
    }

    static void farBelow(String call, IntUnaryOperator answer, int want) {
        for (int i : FAR_BELOW) {
            due(call + " of " + i, answer.applyAsInt(i), want);
        }
    }

    static void end() {
        System.out.println(wrong == 0 ? answers + " answers are as due" : wrong + " answers are not as due");
        if (wrong != 0) {
            System.exit(1);
        }
    }

    static void feedAll(SoapPole x, String text) {
        for (int i = 0; i < text.length(); i += 8) {
            int n = Math.min(8, text.length() - i);
            long bytes = 0;
            for (int j = i; j < i + n; j++) {
                bytes = bytes << 8 | text.charAt(j) & 255;
            }
            x.feed(n, bytes);
        }
    }

    static int tell(SoapPole x, String text) {
        feedAll(x, text);
        return x.pole();
    }

    /** A new object with this pole, which has no FAULT. */
    static SoapPole of(String text) {
        SoapPole x = new SoapPole();
        int feet = tell(x, text);
        if (feet < 0) {
            due("pole() of '" + text + "'", feet, 0);
        }
        return x;
    }

    static void slips(SoapPole x, int... want) {
        for (int i = 0; i < want.length; i++) {
            due("slip(" + i + ")", x.slip(i), want[i]);
        }
    }

    static void toldAll(SoapPole x, int... want) {
        for (int i = 0; i < want.length; i++) {
            due("told(" + i + ")", x.told(i), want[i]);
        }
    }

    static void goes(SoapPole x, int c, int n) {
        for (int i = 0; i < n; i++) {
            x.go(c);
        }
    }

    /** The text has no FAULT and tells so many FEET. */
    static void fine(String text, int feet) {
        SoapPole x = new SoapPole();
        due("pole() of '" + text + "'", tell(x, text), feet);
        due("fault() of '" + text + "'", x.fault(), NONE);
        due("told(0) behind '" + text + "'", x.told(0), feet);
    }

    /** The text has this FAULT at this place. */
    static void bad(String text, int number, int place) {
        SoapPole x = new SoapPole();
        due("pole() of '" + text + "'", tell(x, text), -10 - number);
        due("fault() of '" + text + "'", x.fault(), place);
        due("told(0) behind '" + text + "'", x.told(0), 0);
        due("told(6) behind '" + text + "'", x.told(6), 0);
    }
}
