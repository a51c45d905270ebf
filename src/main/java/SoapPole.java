/**
 * Soap on a pole with a ham on top; ../shared/DOC.md says what each call answers.
 *
 * Every row that a call needs is made with the object: no call makes an object or an array.
 */
public final class SoapPole {
    public static final int NONE = -1, UNKNOWN = -1000000001, OUTSIDE = -1000000002, NOT = -1000000003, FULL = -1000000004;

    private static final int MOST_BYTES = 400;
    private static final int MOST_FEET = 30;
    private static final int MOST_FOOT_CLAUSES = 20;
    private static final int MOST_CLIMBERS = 6;
    private static final int MOST_SLIP = 99;
    private static final int MOST_GOES_TOLD = 12;
    private static final int MOST_GOES_FOR_ONE = 6;
    private static final int MOST_GOES_DRAWN = 99;
    private static final int MOST_ROUNDS = 20;
    private static final int TURNS = 6;
    private static final int TOWER_FOOT = 5;
    private static final int IMAGES = 2;
    private static final int FAULT_BASE = -10;

    private final Reader reader;
    private final Plan plan;
    private final Plan spare;
    private final Pole now;
    private final Pole[] images;
    private final boolean[] kept;
    private final Tale tale;
    private final Rows rows;
    private final Rests resting;
    private final Pole asked;
    private boolean askedStands;
    private int faultPlace;

    public SoapPole() {
        reader = new Reader();
        plan = new Plan();
        spare = new Plan();
        now = new Pole();
        images = new Pole[IMAGES];
        for (int i = 0; i < images.length; i++) {
            images[i] = new Pole();
        }
        kept = new boolean[IMAGES];
        tale = new Tale();
        rows = new Rows();
        resting = new Rests();
        asked = new Pole();
        askedStands = false;
        faultPlace = NONE;
    }

    // ---- the pole

    public int feed(int n, long bytes) {
        if (n < 1 || n > 8) {
            return OUTSIDE;
        }
        if (n > reader.room()) {
            return FULL;
        }
        return reader.append(n, bytes);
    }

    public int pole() {
        int number = reader.read(spare);
        faultPlace = reader.faultAt;
        reader.empty();
        if (number != 0) {
            return FAULT_BASE - number;
        }
        plan.become(spare);
        now.becomeAsTold(plan);
        tale.empty();
        for (int i = 0; i < kept.length; i++) {
            kept[i] = false;
        }
        // What was found for another pole must not be taken for this one.
        askedStands = false;
        return plan.feet;
    }

    public int fault() {
        return faultPlace;
    }

    public int told(int what) {
        switch (what) {
            case 0:
                return plan.feet;
            case 1:
                return plan.climbers;
            case 2:
                return plan.worth;
            case 3:
                return plan.price;
            case 4:
                return plan.sunEvery;
            case 5:
                return plan.sunMore;
            case 6:
                return reader.length;
            case 7:
                return now.goes;
            case 8:
                return now.holder;
            case 9:
                return tale.size;
            case 10:
                return now.slipTogether(0, plan.feet - 1);
            default:
                return OUTSIDE;
        }
    }

    public int slip(int i) {
        return plan.hasFoot(i) ? now.slipOn(i) : UNKNOWN;
    }

    public int climber(int c, int what) {
        if (!plan.hasClimber(c)) {
            return UNKNOWN;
        }
        switch (what) {
            case 0:
                return plan.weightOf(c);
            case 1:
                return plan.armsOf(c);
            case 2:
                return plan.rubsOf(c);
            case 3:
                return now.reach(plan, c, 0, false);
            default:
                return OUTSIDE;
        }
    }

    // ---- goes

    public int go(int c) {
        if (!plan.hasClimber(c)) {
            return UNKNOWN;
        }
        if (plan.feet == 0) {
            return NOT;
        }
        return now.climb(plan, c, false);
    }

    public int soap(int a, int b, int n) {
        if (!plan.hasFoot(a) || !plan.hasFoot(b)) {
            return UNKNOWN;
        }
        if (b < a || n < 1 || n > MOST_SLIP) {
            return OUTSIDE;
        }
        now.addSlip(a, b, n);
        return now.slipTogether(a, b);
    }

    public int hang() {
        int had = now.holder;
        now.holder = NONE;
        return had;
    }

    public int begin() {
        int were = now.goes;
        now.becomeAsTold(plan);
        return were;
    }

    public int drift(int n) {
        if (n < 1 || n > MOST_GOES_DRAWN) {
            return OUTSIDE;
        }
        if (plan.feet == 0 || plan.climbers == 0) {
            return NOT;
        }
        for (int i = 0; i < n && now.holder == NONE; i++) {
            now.climb(plan, now.draw(plan.climbers), false);
        }
        return now.holder;
    }

    // ---- tried

    public int order(int i) {
        lookAgain();
        return rows.ofAll(plan, asked, i);
    }

    public int forOne(int c, int i) {
        if (!plan.hasClimber(c)) {
            return UNKNOWN;
        }
        lookAgain();
        return rows.ofOne(plan, asked, c, i);
    }

    public int rests(int c) {
        if (c != NONE && !plan.hasClimber(c)) {
            return UNKNOWN;
        }
        lookAgain();
        return resting.answer(plan, asked, c);
    }

    public int tower(int below, int above) {
        if (!plan.hasClimber(below) || !plan.hasClimber(above) || below == above) {
            return UNKNOWN;
        }
        if (plan.feet == 0) {
            return NOT;
        }
        if (plan.armsOf(below) < 2 * plan.weightOf(above)) {
            return NONE;
        }
        int from = plan.feet > TOWER_FOOT ? TOWER_FOOT : 0;
        return now.reach(plan, above, from, false);
    }

    /** One question is asked piece by piece: while the pole is the same, its answer is found only once. */
    private void lookAgain() {
        if (askedStands && asked.isLike(now)) {
            return;
        }
        asked.become(now);
        askedStands = true;
        rows.forget();
        resting.forget();
    }

    // ---- the list

    public int list(int c, int far) {
        if (!plan.hasClimber(c)) {
            return UNKNOWN;
        }
        if (far < 0 || far > MOST_FEET) {
            return OUTSIDE;
        }
        return tale.append(c, far);
    }

    public int tear() {
        int had = tale.size;
        tale.empty();
        return had;
    }

    public int enough(int k) {
        if (k < 0 || k >= MOST_GOES_TOLD) {
            return OUTSIDE;
        }
        return tale.leastSlipFor(plan, now, k);
    }

    public int judge() {
        return tale.firstOtherwise(plan, now, NONE);
    }

    public int sand() {
        int set = 0;
        for (int c = 0; c < plan.climbers; c++) {
            if (tale.firstOtherwise(plan, now, c) == NONE) {
                set |= 1 << c;
            }
        }
        return set;
    }

    // ---- draws, images

    public int seed(int v) {
        if (v < 0) {
            return OUTSIDE;
        }
        int was = now.seed;
        now.seed = v;
        return was;
    }

    public int keep(int i) {
        if (!isImage(i)) {
            return UNKNOWN;
        }
        images[i].become(now);
        kept[i] = true;
        return 1;
    }

    public int goBack(int i) {
        if (!isImage(i)) {
            return UNKNOWN;
        }
        if (!kept[i]) {
            return NOT;
        }
        now.become(images[i]);
        return 1;
    }

    private boolean isImage(int i) {
        return i >= 0 && i < images.length && i < kept.length;
    }

    /** THE POLE as it was told. */
    private static final class Plan {
        final int[] slips;
        final int[] weights;
        final int[] arms;
        final int[] rubs;
        int feet;
        int climbers;
        int worth;
        int price;
        int sunEvery;
        int sunMore;

        Plan() {
            slips = new int[MOST_FEET];
            weights = new int[MOST_CLIMBERS];
            arms = new int[MOST_CLIMBERS];
            rubs = new int[MOST_CLIMBERS];
            empty();
        }

        /** What stands untold; the rows are written again as FEET and CLIMBERS are told. */
        void empty() {
            feet = 0;
            climbers = 0;
            worth = 100;
            price = 1;
            sunEvery = 1;
            sunMore = 0;
        }

        void become(Plan other) {
            feet = other.feet;
            climbers = other.climbers;
            worth = other.worth;
            price = other.price;
            sunEvery = other.sunEvery;
            sunMore = other.sunMore;
            copyRow(other.slips, slips);
            copyRow(other.weights, weights);
            copyRow(other.arms, arms);
            copyRow(other.rubs, rubs);
        }

        void setFeet(int count, int slip) {
            feet = count;
            for (int i = 0; i < slips.length; i++) {
                slips[i] = i < count ? slip : 0;
            }
        }

        void setSlip(int foot, int slip) {
            if (foot >= 0 && foot < slips.length) {
                slips[foot] = slip;
            }
        }

        void addClimber(int weight, int strength, int rub) {
            int c = climbers;
            if (c >= 0 && c < weights.length && c < arms.length && c < rubs.length) {
                weights[c] = weight;
                arms[c] = strength;
                rubs[c] = rub;
                climbers = c + 1;
            }
        }

        boolean hasFoot(int i) {
            return i >= 0 && i < feet;
        }

        boolean hasClimber(int c) {
            return c >= 0 && c < climbers;
        }

        int weightOf(int c) {
            return c >= 0 && c < weights.length ? weights[c] : 0;
        }

        int armsOf(int c) {
            return c >= 0 && c < arms.length ? arms[c] : 0;
        }

        int rubsOf(int c) {
            return c >= 0 && c < rubs.length ? rubs[c] : 0;
        }

        int mostRub() {
            int most = 0;
            for (int c = 0; c < climbers && c < rubs.length; c++) {
                most = Math.max(most, rubs[c]);
            }
            return most;
        }
    }

    private static void copyRow(int[] from, int[] to) {
        System.arraycopy(from, 0, to, 0, Math.min(from.length, to.length));
    }

    /** What changes as it goes: SLIP, GOES, who has the HAM, THE SEED; an IMAGE is one, too. */
    private static final class Pole {
        final int[] slips;
        int goes;
        int holder;
        int seed;

        Pole() {
            slips = new int[MOST_FEET];
            holder = NONE;
        }

        void become(Pole other) {
            goes = other.goes;
            holder = other.holder;
            seed = other.seed;
            copyRow(other.slips, slips);
        }

        void becomeAsTold(Plan plan) {
            goes = 0;
            holder = NONE;
            copyRow(plan.slips, slips);
        }

        /** THE SEED is not compared: nothing that is tried draws. */
        boolean isLike(Pole other) {
            if (goes != other.goes || holder != other.holder) {
                return false;
            }
            for (int i = 0; i < slips.length && i < other.slips.length; i++) {
                if (slips[i] != other.slips[i]) {
                    return false;
                }
            }
            return true;
        }

        int slipOn(int i) {
            return i >= 0 && i < slips.length ? slips[i] : 0;
        }

        int slipTogether(int a, int b) {
            int sum = 0;
            for (int i = Math.max(a, 0); i <= b && i < slips.length; i++) {
                sum += slips[i];
            }
            return sum;
        }

        void addSlip(int a, int b, int n) {
            for (int i = Math.max(a, 0); i <= b && i < slips.length; i++) {
                slips[i] = Math.min(MOST_SLIP, slips[i] + n);
            }
        }

        void coat(int slip) {
            for (int i = 0; i < slips.length; i++) {
                slips[i] = slip;
            }
        }

        /** How FAR he comes; no FOOT is gone over twice, so what he rubs off in this GO cannot help him. */
        int reach(Plan plan, int c, int from, boolean sandy) {
            int weight = plan.weightOf(c);
            int left = plan.armsOf(c);
            for (int i = Math.max(from, 0); i < plan.feet && i < slips.length; i++) {
                int takes = slips[i] * weight / 50 + 1;
                left -= sandy ? Math.max(1, takes / 2) : takes;
                if (left < 0) {
                    return i;
                }
            }
            return plan.feet;
        }

        /** False only if no GOES that rub so much less SLIP on each FOOT let him get over the last one. */
        boolean mayReach(Plan plan, int c, int less) {
            int weight = plan.weightOf(c);
            int left = plan.armsOf(c) - plan.feet;
            for (int i = 0; i < plan.feet && i < slips.length && left >= 0; i++) {
                left -= Math.max(0, slips[i] - less) * weight / 50;
            }
            return left >= 0;
        }

        int climb(Plan plan, int c, boolean sandy) {
            int far = reach(plan, c, 0, sandy);
            int rubbed = rub(far, plan.rubsOf(c));
            if (far == plan.feet && holder == NONE) {
                holder = c;
            }
            smear(far, rubbed / 4);
            goes++;
            if (plan.sunEvery > 0 && goes % plan.sunEvery == 0) {
                addSlip(0, plan.feet - 1, plan.sunMore);
            }
            return far;
        }

        private int rub(int far, int most) {
            int rubbed = 0;
            for (int i = 0; i < far && i < slips.length; i++) {
                int off = Math.min(most, slips[i]);
                slips[i] -= off;
                rubbed += off;
            }
            return rubbed;
        }

        /** Round and round is the same as so many on each and one more on the first ones. */
        private void smear(int far, int smeared) {
            if (far <= 0) {
                return;
            }
            int each = smeared / far;
            int oneMore = smeared % far;
            for (int i = 0; i < far && i < slips.length; i++) {
                int more = i < oneMore ? each + 1 : each;
                slips[i] = Math.min(MOST_SLIP, slips[i] + more);
            }
        }

        int draw(int n) {
            // The low 31 bits are right though the product wraps round.
            seed = (seed * 1103515245 + 12345) & 0x7fffffff;
            return n > 0 ? seed / 65536 % n : 0;
        }
    }

    /** THE TEXT, and its reading up to the first FAULT. */
    private static final class Reader {
        private static final int OTHER = 0, POLE = 1, FOOT = 2, CLIMBER = 3, HAM = 4, SUN = 5;
        private static final int STRANGE = 1, BAD_NUMBER = 2, TOO_OFTEN = 3, FOOT_AGAIN = 4;

        final byte[] text;
        final boolean[] footTold;
        final int[] numbers;
        int length;
        int at;
        int fault;
        int faultAt;
        int footClauses;
        boolean poleTold;
        boolean hamTold;
        boolean sunTold;

        Reader() {
            text = new byte[MOST_BYTES];
            footTold = new boolean[MOST_FEET];
            numbers = new int[3];
            faultAt = NONE;
        }

        int room() {
            return text.length - length;
        }

        int append(int n, long bytes) {
            for (int i = n - 1; i >= 0 && length < text.length; i--) {
                text[length] = (byte) (bytes >> 8 * i);
                length++;
            }
            return length;
        }

        void empty() {
            length = 0;
        }

        /** The number of the first FAULT, its place in faultAt; 0 if there is none: then the plan is what was told. */
        int read(Plan plan) {
            start();
            plan.empty();
            skipBlanks();
            // Each clause is one byte at least.
            for (int i = 0; i < text.length && fault == 0 && at < length; i++) {
                readClause(plan);
                skipBlanks();
            }
            return fault;
        }

        private void start() {
            at = 0;
            fault = 0;
            faultAt = NONE;
            footClauses = 0;
            poleTold = false;
            hamTold = false;
            sunTold = false;
            for (int i = 0; i < footTold.length; i++) {
                footTold[i] = false;
            }
        }

        private void fail(int number, int place) {
            if (fault == 0) {
                fault = number;
                faultAt = place;
            }
        }

        private void readClause(Plan plan) {
            int first = at;
            skipLetters();
            int kind = kindOf(first, at);
            if (kind == OTHER || (kind != POLE && !poleTold)) {
                fail(STRANGE, first);
                return;
            }
            if (isTooOften(kind, plan)) {
                fail(TOO_OFTEN, first);
                return;
            }
            int count = kind == CLIMBER ? 3 : 2;
            for (int i = 0; i < count && i < numbers.length && fault == 0; i++) {
                readNumber(kind, i, plan);
            }
            readEnd();
            if (fault == 0) {
                take(kind, plan);
            }
        }

        private int kindOf(int from, int to) {
            if (isWord("pole", from, to)) {
                return POLE;
            }
            if (isWord("foot", from, to)) {
                return FOOT;
            }
            if (isWord("climber", from, to)) {
                return CLIMBER;
            }
            if (isWord("ham", from, to)) {
                return HAM;
            }
            return isWord("sun", from, to) ? SUN : OTHER;
        }

        private boolean isWord(String word, int from, int to) {
            if (to - from != word.length()) {
                return false;
            }
            for (int i = 0; i < word.length(); i++) {
                if (byteAt(from + i) != word.charAt(i)) {
                    return false;
                }
            }
            return true;
        }

        private boolean isTooOften(int kind, Plan plan) {
            switch (kind) {
                case POLE:
                    return poleTold;
                case FOOT:
                    return footClauses >= MOST_FOOT_CLAUSES;
                case CLIMBER:
                    return plan.climbers >= MOST_CLIMBERS;
                case HAM:
                    return hamTold;
                default:
                    return sunTold;
            }
        }

        private void readNumber(int kind, int i, Plan plan) {
            skipBlanks();
            int first = at;
            int value = 0;
            while (at < length && isFigure(byteAt(at))) {
                if (at - first < 3) {
                    value = value * 10 + byteAt(at) - '0';
                }
                at++;
            }
            if (at == first) {
                fail(STRANGE, first);
                return;
            }
            if (at - first > 3 || value < least(kind, i) || value > most(kind, i, plan)) {
                fail(BAD_NUMBER, first);
                return;
            }
            if (kind == FOOT && i == 0 && isFootTold(value)) {
                fail(FOOT_AGAIN, first);
                return;
            }
            if (i >= 0 && i < numbers.length) {
                numbers[i] = value;
            }
        }

        private int number(int i) {
            return i >= 0 && i < numbers.length ? numbers[i] : 0;
        }

        private static int least(int kind, int i) {
            switch (kind) {
                case POLE:
                case SUN:
                    return i == 0 ? 1 : 0;
                case CLIMBER:
                    return i < 2 ? 1 : 0;
                default:
                    return 0;
            }
        }

        private static int most(int kind, int i, Plan plan) {
            switch (kind) {
                case POLE:
                    return i == 0 ? MOST_FEET : MOST_SLIP;
                case FOOT:
                    return i == 0 ? plan.feet - 1 : MOST_SLIP;
                case CLIMBER:
                    return i == 0 ? 99 : i == 1 ? 999 : 20;
                case HAM:
                    return i == 0 ? 999 : 99;
                default:
                    return i == 0 ? 20 : 9;
            }
        }

        private boolean isFootTold(int foot) {
            return foot >= 0 && foot < footTold.length && footTold[foot];
        }

        private void readEnd() {
            if (fault != 0) {
                return;
            }
            skipBlanks();
            if (byteAt(at) != ';') {
                fail(STRANGE, at);
                return;
            }
            at++;
        }

        private void take(int kind, Plan plan) {
            int a = number(0);
            int b = number(1);
            switch (kind) {
                case POLE:
                    poleTold = true;
                    plan.setFeet(a, b);
                    break;
                case FOOT:
                    footClauses++;
                    if (a >= 0 && a < footTold.length) {
                        footTold[a] = true;
                    }
                    plan.setSlip(a, b);
                    break;
                case CLIMBER:
                    plan.addClimber(a, b, number(2));
                    break;
                case HAM:
                    hamTold = true;
                    plan.worth = a;
                    plan.price = b;
                    break;
                default:
                    sunTold = true;
                    plan.sunEvery = a;
                    plan.sunMore = b;
                    break;
            }
        }

        private void skipBlanks() {
            while (at < length && byteAt(at) == ' ') {
                at++;
            }
        }

        private void skipLetters() {
            while (at < length && isLetter(byteAt(at))) {
                at++;
            }
        }

        /** NONE behind the end: it is neither letter nor figure nor sign. */
        private int byteAt(int place) {
            return place >= 0 && place < length && place < text.length ? text[place] & 255 : NONE;
        }

        private static boolean isLetter(int b) {
            return b >= 'a' && b <= 'z';
        }

        private static boolean isFigure(int b) {
            return b >= '0' && b <= '9';
        }
    }

    /** THE LIST: GOES told, with how FAR each came. */
    private static final class Tale {
        final int[] climbers;
        final int[] fars;
        final Pole trial;
        int size;

        Tale() {
            climbers = new int[MOST_GOES_TOLD];
            fars = new int[MOST_GOES_TOLD];
            trial = new Pole();
        }

        void empty() {
            size = 0;
        }

        int append(int c, int far) {
            int i = size;
            if (i < 0 || i >= climbers.length || i >= fars.length) {
                return FULL;
            }
            climbers[i] = c;
            fars[i] = far;
            size = i + 1;
            return size;
        }

        private int climberOf(int i) {
            return i >= 0 && i < climbers.length ? climbers[i] : 0;
        }

        /** The first GO that comes otherwise than told, if this CLIMBER (NONE: nobody) has SAND on him. */
        int firstOtherwise(Plan plan, Pole now, int sandy) {
            trial.become(now);
            for (int i = 0; i < size && i < fars.length; i++) {
                int c = climberOf(i);
                if (trial.climb(plan, c, c == sandy) != fars[i]) {
                    return i;
                }
            }
            return NONE;
        }

        int leastSlipFor(Plan plan, Pole now, int k) {
            if (k >= size || now.holder != NONE) {
                return NONE;
            }
            for (int slip = 0; slip <= MOST_SLIP; slip++) {
                trial.become(now);
                trial.coat(slip);
                if (goThatHasIt(plan, k) == k) {
                    return slip;
                }
            }
            return NONE;
        }

        /** The GO of THE LIST, up to this last one, by which the trial's HAM is had; NONE. */
        private int goThatHasIt(Plan plan, int last) {
            for (int i = 0; i <= last && i < size; i++) {
                trial.climb(plan, climberOf(i), false);
                if (trial.holder != NONE) {
                    return i;
                }
            }
            return NONE;
        }
    }

    /** ORDER and FOR ONE: the shortest row of GOES that has the HAM by its last one, of these the first. */
    private static final class Rows {
        private static final int GOES = -1, WHO = -2;

        /** How the pole is behind each GO of the row that is tried. */
        final Pole[] steps;
        final int[] row;
        int goal;
        int lastOne;
        boolean onceEach;

        final int[] allRow;
        int allGoes;
        boolean allFound;

        final int[][] oneRows;
        final int[] oneGoes;
        final boolean[] oneFound;

        Rows() {
            int most = Math.max(MOST_GOES_FOR_ONE, MOST_CLIMBERS);
            steps = new Pole[most];
            for (int i = 0; i < steps.length; i++) {
                steps[i] = new Pole();
            }
            row = new int[most];
            allRow = new int[MOST_CLIMBERS];
            oneRows = new int[MOST_CLIMBERS][MOST_GOES_FOR_ONE];
            oneGoes = new int[MOST_CLIMBERS];
            oneFound = new boolean[MOST_CLIMBERS];
        }

        void forget() {
            allFound = false;
            for (int c = 0; c < oneFound.length; c++) {
                oneFound[c] = false;
            }
        }

        int ofAll(Plan plan, Pole from, int i) {
            if (!allFound) {
                findAll(plan, from);
            }
            if (i == GOES || allGoes == NONE) {
                return allGoes;
            }
            int place = i == WHO ? allGoes - 1 : i;
            return place >= 0 && place < plan.climbers && place < allRow.length ? allRow[place] : NONE;
        }

        private void findAll(Plan plan, Pole from) {
            onceEach = true;
            lastOne = NONE;
            allGoes = fewestGoes(plan, from, plan.climbers);
            allFound = true;
            int used = 0;
            for (int i = 0; i < allGoes && i < allRow.length && i < row.length; i++) {
                allRow[i] = row[i];
                used |= 1 << row[i];
            }
            int place = Math.max(allGoes, 0);
            for (int c = 0; c < plan.climbers && place < allRow.length; c++) {
                if ((used >> c & 1) == 0) {
                    allRow[place] = c;
                    place++;
                }
            }
        }

        int ofOne(Plan plan, Pole from, int c, int i) {
            if (c < 0 || c >= oneFound.length || c >= oneGoes.length || c >= oneRows.length) {
                return NONE;
            }
            if (!oneFound[c]) {
                onceEach = false;
                lastOne = c;
                oneGoes[c] = fewestGoes(plan, from, MOST_GOES_FOR_ONE);
                oneFound[c] = true;
                copyRow(row, oneRows[c]);
            }
            if (i == GOES) {
                return oneGoes[c];
            }
            return i >= 0 && i < oneGoes[c] && i < oneRows[c].length ? oneRows[c][i] : NONE;
        }

        /** How many GOES the first of the shortest rows has, which is in row then; NONE. */
        private int fewestGoes(Plan plan, Pole from, int most) {
            if (from.holder != NONE) {
                return NONE;
            }
            for (int n = 1; n <= most; n++) {
                goal = n;
                if (findFrom(plan, from, 0, 0)) {
                    return n;
                }
            }
            return NONE;
        }

        /** Ends the row that has so many GOES yet, behind which the pole is so; false if nobody can. */
        private boolean findFrom(Plan plan, Pole at, int depth, int used) {
            int behind = goal - 1 - depth;
            if (behind < 0 || depth < 0 || depth >= row.length || depth >= steps.length) {
                return false;
            }
            if (isHopeless(plan, at, behind)) {
                return false;
            }
            boolean ends = behind == 0;
            for (int c = 0; c < plan.climbers; c++) {
                boolean mayGo = !onceEach || (used >> c & 1) == 0;
                if (!mayGo || (ends && lastOne != NONE && c != lastOne)) {
                    continue;
                }
                row[depth] = c;
                if (ends) {
                    if (at.reach(plan, c, 0, false) == plan.feet) {
                        return true;
                    }
                    continue;
                }
                Pole next = steps[depth];
                next.become(at);
                next.climb(plan, c, false);
                if (next.holder == NONE && findFrom(plan, next, depth + 1, used | 1 << c)) {
                    return true;
                }
            }
            return false;
        }

        /** Without this look ahead nearly all the time goes into rows of which the last GO cannot get there. */
        private boolean isHopeless(Plan plan, Pole at, int goes) {
            int less = goes * plan.mostRub();
            for (int c = 0; c < plan.climbers; c++) {
                boolean mayEnd = lastOne == NONE || c == lastOne;
                if (mayEnd && at.mayReach(plan, c, less)) {
                    return false;
                }
            }
            return true;
        }
    }

    /** RESTS: each CLIMBER's TURN, when nobody would go sooner or later. */
    private static final class Rests {
        final int[] turns;
        final Pole trial;
        int rounds;
        boolean found;

        Rests() {
            turns = new int[MOST_CLIMBERS];
            trial = new Pole();
        }

        void forget() {
            found = false;
        }

        int answer(Plan plan, Pole from, int c) {
            if (!found) {
                find(plan, from);
                found = true;
            }
            if (c == NONE || rounds == NONE) {
                return rounds;
            }
            return turnOf(c);
        }

        private int turnOf(int c) {
            return c >= 0 && c < turns.length ? turns[c] : NONE;
        }

        private void find(Plan plan, Pole from) {
            for (int c = 0; c < turns.length; c++) {
                turns[c] = NONE;
            }
            rounds = 0;
            if (from.holder != NONE) {
                return;
            }
            boolean changed = true;
            for (int round = 1; round <= MOST_ROUNDS && changed; round++) {
                changed = false;
                for (int c = 0; c < plan.climbers && c < turns.length; c++) {
                    int best = bestTurn(plan, from, c);
                    changed = changed || best != turns[c];
                    turns[c] = best;
                }
                rounds += changed ? 1 : 0;
            }
            if (rounds == MOST_ROUNDS) {
                rounds = NONE;
            }
        }

        private int bestTurn(Plan plan, Pole from, int c) {
            int best = NONE;
            int bestGain = 0;
            for (int turn = TURNS - 1; turn >= 0; turn--) {
                int gain = gainAt(plan, from, c, turn);
                if (gain > bestGain) {
                    best = turn;
                    bestGain = gain;
                }
            }
            return best;
        }

        /** What he has of it if he takes this TURN, all others' as they are. */
        private int gainAt(Plan plan, Pole from, int c, int turn) {
            trial.become(from);
            for (int t = 0; t <= turn; t++) {
                for (int k = 0; k < plan.climbers; k++) {
                    int his = k == c ? turn : turnOf(k);
                    if (his != t) {
                        continue;
                    }
                    trial.climb(plan, k, false);
                    if (k == c) {
                        return (trial.holder == c ? plan.worth : 0) - plan.price;
                    }
                    if (trial.holder != NONE) {
                        return 0;
                    }
                }
            }
            return 0;
        }
    }
}
