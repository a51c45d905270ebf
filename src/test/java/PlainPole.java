import java.util.ArrayList;
import java.util.Arrays;
import java.util.List;

/**
 * The document read a second time, in the longest way: one byte of smeared soap after the other, all rows of
 * climbers written out. The tests hold SoapPole against it; it shares no line with it.
 */
final class PlainPole {
    static final int NONE = -1, UNKNOWN = -1000000001, OUTSIDE = -1000000002, NOT = -1000000003, FULL = -1000000004;

    /** How the pole is; made anew for each go. */
    record Now(List<Integer> slips, int goes, int who) { }

    record Climbed(Now then, int far) { }

    private final StringBuilder text = new StringBuilder();
    private int faultPlace = NONE;
    private List<Integer> told = new ArrayList<>();
    private List<int[]> climbers = new ArrayList<>();
    private int[] ham = {100, 1};
    private int[] sun = {1, 0};
    private Now now = new Now(List.of(), 0, NONE);
    private long seed = 0;
    private final List<int[]> tale = new ArrayList<>();
    private final Now[] imageNow = new Now[2];
    private final long[] imageSeed = new long[2];

    private boolean foot(int i) {
        return i >= 0 && i < told.size();
    }

    private boolean man(int c) {
        return c >= 0 && c < climbers.size();
    }

    Climbed climb(Now at, int c, boolean sandy, int first) {
        int[] man = climbers.get(c);
        List<Integer> s = new ArrayList<>(at.slips);
        int arms = man[1];
        int far = first;
        int off = 0;
        while (far < s.size()) {
            int takes = s.get(far) * man[0] / 50 + 1;
            if (sandy) {
                takes = takes < 2 ? 1 : takes / 2;
            }
            if (arms < takes) {
                break;
            }
            arms -= takes;
            int r = Math.min(man[2], s.get(far));
            s.set(far, s.get(far) - r);
            off += r;
            far++;
        }
        int who = far == s.size() && at.who == NONE ? c : at.who;
        int place = 0;
        for (int n = 0; n < off / 4; n++) {
            if (s.get(place) < 99) {
                s.set(place, s.get(place) + 1);
            }
            place = place + 1 == far ? 0 : place + 1;
        }
        int goes = at.goes + 1;
        if (goes % sun[0] == 0) {
            s.replaceAll(v -> Math.min(99, v + sun[1]));
        }
        return new Climbed(new Now(s, goes, who), far);
    }

    int feed(int n, long bytes) {
        if (n < 1 || n > 8) {
            return OUTSIDE;
        }
        if (text.length() + n > 400) {
            return FULL;
        }
        for (int i = n; i > 0; i--) {
            text.append((char) ((bytes >>> 8 * (i - 1)) % 256 + 256 & 255));
        }
        return text.length();
    }

    private record Token(int kind, int place, String sign) { }

    /** 0 a word, 1 a number, 2 a ';', 3 another byte, 4 the end. */
    private static List<Token> tokens(String s) {
        List<Token> all = new ArrayList<>();
        int i = 0;
        while (i < s.length()) {
            char ch = s.charAt(i);
            int j = i + 1;
            if (ch >= 'a' && ch <= 'z') {
                while (j < s.length() && s.charAt(j) >= 'a' && s.charAt(j) <= 'z') {
                    j++;
                }
                all.add(new Token(0, i, s.substring(i, j)));
            } else if (ch >= '0' && ch <= '9') {
                while (j < s.length() && s.charAt(j) >= '0' && s.charAt(j) <= '9') {
                    j++;
                }
                all.add(new Token(1, i, s.substring(i, j)));
            } else if (ch == ';') {
                all.add(new Token(2, i, ";"));
            } else if (ch != ' ') {
                all.add(new Token(3, i, "" + ch));
            }
            i = j;
        }
        all.add(new Token(4, s.length(), ""));
        return all;
    }

    private static final List<String> WORDS = List.of("pole", "foot", "climber", "ham", "sun");
    private static final int[][][] BOUNDS = {
        {{1, 30}, {0, 99}}, {{0, -1}, {0, 99}}, {{1, 99}, {1, 999}, {0, 20}}, {{0, 999}, {0, 99}}, {{1, 20}, {0, 9}}};

    int pole() {
        List<Token> all = tokens(text.toString());
        text.setLength(0);
        List<Integer> slips = new ArrayList<>();
        List<int[]> men = new ArrayList<>();
        int[] newHam = {100, 1};
        int[] newSun = {1, 0};
        int[] count = new int[5];
        List<Integer> feetTold = new ArrayList<>();
        int at = 0;
        while (all.get(at).kind != 4) {
            Token w = all.get(at++);
            int kind = w.kind == 0 ? WORDS.indexOf(w.sign) : -1;
            if (kind < 0 || kind != 0 && count[0] == 0) {
                return fault(1, w.place);
            }
            if (count[kind] == new int[] {1, 20, 6, 1, 1}[kind]) {
                return fault(3, w.place);
            }
            count[kind]++;
            int[] values = new int[BOUNDS[kind].length];
            for (int i = 0; i < values.length; i++) {
                Token t = all.get(at++);
                if (t.kind != 1) {
                    return fault(1, t.place);
                }
                int low = BOUNDS[kind][i][0];
                int high = kind == 1 && i == 0 ? slips.size() - 1 : BOUNDS[kind][i][1];
                if (t.sign.length() > 3 || Integer.parseInt(t.sign) < low || Integer.parseInt(t.sign) > high) {
                    return fault(2, t.place);
                }
                values[i] = Integer.parseInt(t.sign);
                if (kind == 1 && i == 0 && feetTold.contains(values[0])) {
                    return fault(4, t.place);
                }
            }
            Token end = all.get(at++);
            if (end.kind != 2) {
                return fault(1, end.place);
            }
            switch (kind) {
                case 0 -> {
                    for (int i = 0; i < values[0]; i++) {
                        slips.add(values[1]);
                    }
                }
                case 1 -> {
                    feetTold.add(values[0]);
                    slips.set(values[0], values[1]);
                }
                case 2 -> men.add(values);
                case 3 -> newHam = values;
                default -> newSun = values;
            }
        }
        faultPlace = NONE;
        told = slips;
        climbers = men;
        ham = newHam;
        sun = newSun;
        now = new Now(told, 0, NONE);
        tale.clear();
        Arrays.fill(imageNow, null);
        return told.size();
    }

    private int fault(int number, int place) {
        faultPlace = place;
        return -10 - number;
    }

    int fault() {
        return faultPlace;
    }

    int told(int what) {
        int sum = now.slips.stream().mapToInt(v -> v).sum();
        int[] all = {told.size(), climbers.size(), ham[0], ham[1], sun[0], sun[1], text.length(), now.goes, now.who,
            tale.size(), sum};
        return what < 0 || what > 10 ? OUTSIDE : all[what];
    }

    int slip(int i) {
        return foot(i) ? now.slips.get(i) : UNKNOWN;
    }

    int climber(int c, int what) {
        if (!man(c)) {
            return UNKNOWN;
        }
        if (what < 0 || what > 3) {
            return OUTSIDE;
        }
        return what == 3 ? climb(now, c, false, 0).far : climbers.get(c)[what];
    }

    int go(int c) {
        if (!man(c)) {
            return UNKNOWN;
        }
        Climbed r = climb(now, c, false, 0);
        now = r.then;
        return r.far;
    }

    int soap(int a, int b, int n) {
        if (!foot(a) || !foot(b)) {
            return UNKNOWN;
        }
        if (b < a || n < 1 || n > 99) {
            return OUTSIDE;
        }
        List<Integer> s = new ArrayList<>(now.slips);
        int sum = 0;
        for (int i = a; i <= b; i++) {
            s.set(i, Math.min(99, s.get(i) + n));
            sum += s.get(i);
        }
        now = new Now(s, now.goes, now.who);
        return sum;
    }

    int hang() {
        int had = now.who;
        now = new Now(now.slips, now.goes, NONE);
        return had;
    }

    int begin() {
        int had = now.goes;
        now = new Now(told, 0, NONE);
        return had;
    }

    int drift(int n) {
        if (n < 1 || n > 99) {
            return OUTSIDE;
        }
        if (told.isEmpty() || climbers.isEmpty()) {
            return NOT;
        }
        while (n-- > 0 && now.who == NONE) {
            seed = (seed * 1103515245L + 12345L) % 2147483648L;
            now = climb(now, (int) (seed / 65536 % climbers.size()), false, 0).then;
        }
        return now.who;
    }

    /** At which place of the row the ham is had (from 1 on), 0 if by none. */
    private int hadAt(List<Integer> row) {
        Now at = now;
        for (int i = 0; i < row.size() && at.who == NONE; i++) {
            at = climb(at, row.get(i), false, 0).then;
            if (at.who != NONE) {
                return i + 1;
            }
        }
        return 0;
    }

    private void permute(List<Integer> row, List<List<Integer>> all) {
        if (row.size() == climbers.size()) {
            all.add(new ArrayList<>(row));
        }
        for (int c = 0; c < climbers.size(); c++) {
            if (!row.contains(c)) {
                row.add(c);
                permute(row, all);
                row.remove(row.size() - 1);
            }
        }
    }

    int order(int i) {
        List<List<Integer>> all = new ArrayList<>();
        permute(new ArrayList<>(), all);
        List<Integer> best = null;
        int fewest = 99;
        for (List<Integer> row : all) {
            int n = hadAt(row);
            if (n > 0 && n < fewest) {
                fewest = n;
                best = row;
            }
        }
        if (best == null) {
            return NONE;
        }
        if (i == NONE) {
            return fewest;
        }
        if (i == -2) {
            return best.get(fewest - 1);
        }
        return i < 0 || i >= best.size() ? NONE : best.get(i);
    }

    private record Row(List<Integer> who, Now then) { }

    int forOne(int c, int i) {
        if (!man(c)) {
            return UNKNOWN;
        }
        if (now.who != NONE) {
            return NONE;
        }
        List<Row> level = List.of(new Row(List.of(), now));
        for (int n = 1; n <= 6; n++) {
            for (Row r : level) {
                if (climb(r.then, c, false, 0).far == told.size()) {
                    return i == NONE ? n : i < 0 || i >= n ? NONE : i == n - 1 ? c : r.who.get(i);
                }
            }
            List<Row> next = new ArrayList<>();
            for (Row r : level) {
                for (int k = 0; k < climbers.size(); k++) {
                    Now then = climb(r.then, k, false, 0).then;
                    if (then.who == NONE) {
                        List<Integer> who = new ArrayList<>(r.who);
                        who.add(k);
                        next.add(new Row(who, then));
                    }
                }
            }
            level = next;
        }
        return NONE;
    }

    /** What c has of it by these turns (6: never). */
    private int gain(int[] turns, int c) {
        Now at = now;
        int money = 0;
        for (int slot = 0; slot < 6 * climbers.size(); slot++) {
            int k = slot % climbers.size();
            if (turns[k] != slot / climbers.size() || at.who != NONE) {
                continue;
            }
            at = climb(at, k, false, 0).then;
            if (k == c) {
                money -= ham[1];
                money += at.who == c ? ham[0] : 0;
            }
        }
        return money;
    }

    int rests(int c) {
        if (c != NONE && !man(c)) {
            return UNKNOWN;
        }
        int[] turns = new int[climbers.size()];
        Arrays.fill(turns, 6);
        int rounds = 0;
        while (rounds < 20) {
            int[] before = turns.clone();
            for (int k = 0; k < turns.length; k++) {
                int best = 6;
                int most = 0;
                for (int t = 6; t >= 0; t--) {
                    turns[k] = t;
                    int g = gain(turns, k);
                    if (t == 6 || g > most) {
                        best = t;
                        most = g;
                    }
                }
                turns[k] = best;
            }
            if (Arrays.equals(before, turns)) {
                break;
            }
            rounds++;
        }
        if (rounds == 20) {
            return NONE;
        }
        return c == NONE ? rounds : turns[c] == 6 ? NONE : turns[c];
    }

    int tower(int below, int above) {
        if (!man(below) || !man(above) || below == above) {
            return UNKNOWN;
        }
        if (climbers.get(below)[1] < climbers.get(above)[0] * 2) {
            return NONE;
        }
        return climb(now, above, false, told.size() <= 5 ? 0 : 5).far;
    }

    int list(int c, int far) {
        if (!man(c)) {
            return UNKNOWN;
        }
        if (far < 0 || far > 30) {
            return OUTSIDE;
        }
        if (tale.size() == 12) {
            return FULL;
        }
        tale.add(new int[] {c, far});
        return tale.size();
    }

    int tear() {
        int n = tale.size();
        tale.clear();
        return n;
    }

    int enough(int k) {
        if (k < 0 || k > 11) {
            return OUTSIDE;
        }
        List<Integer> row = new ArrayList<>();
        for (int[] go : tale) {
            row.add(go[0]);
        }
        Now was = now;
        int found = NONE;
        for (int s = 99; s >= 0; s--) {
            List<Integer> all = new ArrayList<>(was.slips);
            final int slip = s;
            all.replaceAll(v -> slip);
            now = new Now(all, was.goes, was.who);
            if (hadAt(row) == k + 1) {
                found = s;
            }
        }
        now = was;
        return found;
    }

    private int wrong(int sandy) {
        List<Integer> row = new ArrayList<>();
        tale.forEach(go -> row.add(go[0]));
        List<Integer> fars = fars(row, sandy);
        for (int i = 0; i < row.size(); i++) {
            if (fars.get(i) != tale.get(i)[1]) {
                return i;
            }
        }
        return NONE;
    }

    /** How FAR each of these goes comes, one of them sandy (NONE: nobody). */
    List<Integer> fars(List<Integer> row, int sandy) {
        List<Integer> fars = new ArrayList<>();
        Now at = now;
        for (int c : row) {
            Climbed r = climb(at, c, c == sandy, 0);
            fars.add(r.far);
            at = r.then;
        }
        return fars;
    }

    int judge() {
        return wrong(NONE);
    }

    int sand() {
        int set = 0;
        for (int c = 0; c < climbers.size(); c++) {
            set += wrong(c) == NONE ? 1 << c : 0;
        }
        return set;
    }

    int seed(int v) {
        if (v < 0) {
            return OUTSIDE;
        }
        int was = (int) seed;
        seed = v;
        return was;
    }

    int keep(int i) {
        if (i != 0 && i != 1) {
            return UNKNOWN;
        }
        imageNow[i] = now;
        imageSeed[i] = seed;
        return 1;
    }

    int goBack(int i) {
        if (i != 0 && i != 1) {
            return UNKNOWN;
        }
        if (imageNow[i] == null) {
            return NOT;
        }
        now = imageNow[i];
        seed = imageSeed[i];
        return 1;
    }
}
