import java.util.ArrayList;
import java.util.List;

/** Runs of up to 512 drawn calls, each answer held against the plain reading of the document (PlainPole). */
public final class DriftTest {
    private static long state = 20261119;
    private static int wrong = 0;
    private static int calls = 0;

    private static int draw(int n) {
        state = state * 6364136223846793005L + 1442695040888963407L;
        return (int) ((state >>> 33) % n);
    }

    private static int between(int a, int b) {
        return a + draw(b - a + 1);
    }

    /** Mostly within the bounds, now and then just outside or far away. */
    private static int near(int a, int b) {
        int odd = draw(24);
        if (odd == 0) {
            return a - 1;
        }
        if (odd == 1) {
            return b + 1;
        }
        if (odd == 2) {
            return new int[] {Integer.MIN_VALUE, Integer.MAX_VALUE, -2, 1000}[draw(4)];
        }
        return between(a, Math.max(a, b));
    }

    private static boolean same(SoapPole x, PlainPole y, String call, int got, int want) {
        calls++;
        if (got != want) {
            wrong++;
            System.out.println(call + " answered " + got + ", due is " + want);
        }
        return got == want;
    }

    private static String blanks() {
        return draw(6) == 0 ? " ".repeat(between(1, 3)) : "";
    }

    private static String clause(String word, int... numbers) {
        StringBuilder s = new StringBuilder(blanks()).append(word).append(blanks());
        for (int i = 0; i < numbers.length; i++) {
            s.append(i == 0 && draw(3) == 0 ? "" : " ").append(draw(20) == 0 && numbers[i] < 10 ? "00" : "").append(numbers[i]);
        }
        return s.append(blanks()).append(';').toString();
    }

    /** Poles on which something happens: some of few feet and weak arms, some rubbed much, some burnt by the sun. */
    private static String poleText(boolean full) {
        int feet = draw(3) == 0 ? between(1, 30) : between(1, 9);
        int slip = draw(4) == 0 ? between(0, 99) : between(5, 40);
        StringBuilder s = new StringBuilder(clause("pole", feet, slip));
        int men = full ? 6 : draw(12) == 0 ? 0 : between(1, 4);
        boolean[] had = new boolean[feet];
        int other = draw(3) == 0 ? draw(21) : draw(4);
        for (int i = 0; i < men + other; i++) {
            if (i < men) {
                int weight = between(1, 99);
                int need = feet * (slip * weight / 50 + 1);
                int arms = Math.max(1, Math.min(999, need * between(30, 105) / 100));
                s.append(clause("climber", weight, arms, draw(3) == 0 ? between(10, 20) : between(0, 9)));
            } else {
                int foot = draw(feet);
                if (!had[foot] && s.length() < 330) {
                    had[foot] = true;
                    s.append(clause("foot", foot, between(0, 99)));
                }
            }
        }
        if (draw(2) == 0) {
            s.append(clause("ham", draw(4) == 0 ? between(0, 20) : between(0, 999), draw(3) == 0 ? 0 : between(0, 99)));
        }
        if (draw(2) == 0) {
            s.append(clause("sun", between(1, 6), between(0, 9)));
        }
        return s.toString();
    }

    /** A text that mostly has a fault: one that is right, with a piece of it changed. */
    private static String spoilt(String s) {
        String[] bits = {"", " ", ";", "0", "9", "99", "1000", "a", "pole", "foot 0 1;", "foot 1 1;", "climber 1 1 1;",
            "ham 1 1;", "sun 1 1;", "A", "-", "\u00e9", "\t", "foot 29 3;", "sun 0 1;", "ham 1 100;", "climber 100 1 1;"};
        for (int n = between(1, 2); n > 0; n--) {
            int a = draw(s.length() + 1);
            int b = Math.min(s.length(), a + (draw(2) == 0 ? 0 : between(1, 3)));
            s = s.substring(0, a) + bits[draw(bits.length)] + s.substring(b);
        }
        return draw(12) == 0 ? s.substring(0, draw(s.length() + 1)) : s;
    }

    private static boolean tell(SoapPole x, PlainPole y, String s) {
        boolean fine = true;
        for (int i = 0; i < s.length(); ) {
            int n = Math.min(between(1, 8), s.length() - i);
            long bytes = draw(2) == 0 ? 0 : -1;
            for (int j = 0; j < n; j++) {
                bytes = bytes << 8 | s.charAt(i + j);
            }
            i += n;
            fine &= same(x, y, "feed", x.feed(n, bytes), y.feed(n, bytes));
        }
        fine &= same(x, y, "pole() of " + s, x.pole(), y.pole());
        return fine & same(x, y, "fault() of " + s, x.fault(), y.fault());
    }

    private static boolean change(SoapPole x, PlainPole y) {
        int c = near(0, y.told(1) - 1);
        int a = near(0, y.told(0) - 1);
        int b = near(0, y.told(0) - 1);
        int n = near(1, 99);
        int i = near(0, 1);
        switch (draw(11)) {
            case 0: case 1: case 2: case 3:
                return same(x, y, "go " + c, x.go(c), y.go(c));
            case 4:
                return same(x, y, "soap " + a + " " + b + " " + n, x.soap(a, b, n), y.soap(a, b, n));
            case 5:
                return same(x, y, "hang", x.hang(), y.hang());
            case 6:
                return same(x, y, "begin", x.begin(), y.begin());
            case 7:
                n = draw(2) == 0 ? between(1, 4) : n;
                return same(x, y, "drift " + n, x.drift(n), y.drift(n));
            case 8:
                n = draw(4) == 0 ? -n : between(0, Integer.MAX_VALUE - 1);
                return same(x, y, "seed " + n, x.seed(n), y.seed(n));
            case 9:
                return same(x, y, "keep " + i, x.keep(i), y.keep(i));
            default:
                return same(x, y, "goBack " + i, x.goBack(i), y.goBack(i));
        }
    }

    private static boolean ask(SoapPole x, PlainPole y) {
        int c = near(0, y.told(1) - 1);
        int d = near(0, y.told(1) - 1);
        int i = near(-2, 6);
        int what = near(0, 3);
        switch (draw(10)) {
            case 0:
                what = near(0, 10);
                return same(x, y, "told " + what, x.told(what), y.told(what));
            case 1:
                c = near(0, y.told(0) - 1);
                return same(x, y, "slip " + c, x.slip(c), y.slip(c));
            case 2:
                return same(x, y, "climber " + c + " " + what, x.climber(c, what), y.climber(c, what));
            case 3:
                return same(x, y, "order " + i, x.order(i), y.order(i));
            case 4: case 5:
                return same(x, y, "forOne " + c + " " + i, x.forOne(c, i), y.forOne(c, i));
            case 6: case 7:
                c = draw(3) == 0 ? -1 : c;
                return same(x, y, "rests " + c, x.rests(c), y.rests(c));
            case 8:
                return same(x, y, "tower " + c + " " + d, x.tower(c, d), y.tower(c, d));
            default:
                return same(x, y, "fault", x.fault(), y.fault());
        }
    }

    private static boolean tale(SoapPole x, PlainPole y) {
        int c = near(0, y.told(1) - 1);
        int far = draw(4) == 0 ? near(0, 30) : Math.max(0, y.climber(c, 3));
        int k = near(0, draw(2) == 0 ? 3 : 11);
        switch (draw(8)) {
            case 0: case 1: case 2:
                return same(x, y, "list " + c + " " + far, x.list(c, far), y.list(c, far));
            case 3:
                return draw(4) != 0 || same(x, y, "tear", x.tear(), y.tear());
            case 4: case 5:
                return same(x, y, "enough " + k, x.enough(k), y.enough(k));
            case 6:
                return same(x, y, "judge", x.judge(), y.judge());
            default:
                return same(x, y, "sand", x.sand(), y.sand());
        }
    }

    /** THE LIST as it would truly come, now and then with sand on one: else judge and sand seldom say yes. */
    private static boolean trueTale(SoapPole x, PlainPole y) {
        if (y.told(1) == 0) {
            return true;
        }
        boolean fine = same(x, y, "tear", x.tear(), y.tear());
        List<Integer> row = new ArrayList<>();
        for (int n = between(1, 6); n > 0; n--) {
            row.add(draw(y.told(1)));
        }
        List<Integer> fars = y.fars(row, between(-1, y.told(1) - 1));
        for (int i = 0; i < row.size(); i++) {
            fine &= same(x, y, "list", x.list(row.get(i), fars.get(i)), y.list(row.get(i), fars.get(i)));
        }
        fine &= same(x, y, "judge", x.judge(), y.judge());
        return fine & same(x, y, "sand", x.sand(), y.sand());
    }

    private static boolean whole(SoapPole x, PlainPole y) {
        boolean fine = true;
        for (int i = 0; i <= 10; i++) {
            fine &= same(x, y, "told " + i, x.told(i), y.told(i));
        }
        for (int i = 0; i < y.told(0); i++) {
            fine &= same(x, y, "slip " + i, x.slip(i), y.slip(i));
        }
        return fine;
    }

    private static boolean run(int number) {
        SoapPole x = new SoapPole();
        PlainPole y = new PlainPole();
        boolean full = number % 25 == 0;
        boolean fine = true;
        for (int n = 0; n < (full ? 12 : 60) && fine; n++) {
            if (n == 0 && number % 10 != 0 || draw(30) == 0) {
                String s = poleText(full);
                fine = tell(x, y, draw(3) == 0 ? spoilt(s) : s);
            }
            int kind = draw(12);
            fine = fine && (kind < 5 ? change(x, y) : kind < 8 ? ask(x, y) : kind < 11 ? tale(x, y)
                : draw(3) == 0 ? trueTale(x, y) : whole(x, y));
        }
        return fine;
    }

    public static void main(String[] args) {
        for (int number = 1; number <= 3000 && wrong < 10; number++) {
            if (!run(number)) {
                System.out.println("in run " + number);
            }
        }
        System.out.println(wrong == 0 ? calls + " answers are as due" : wrong + " answers are not as due");
        if (wrong != 0) {
            System.exit(1);
        }
    }
}
