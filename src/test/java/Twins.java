import java.util.ArrayList;
import java.util.List;
import java.util.function.Supplier;
import java.util.function.ToIntFunction;

/** Two objects that had the same calls, then one of them one more: all that can be asked of them must be alike. */
final class Twins {
    private Twins() { }

    /** All answers of an object but fault(): first what only looks, then what shows SEED, IMAGES, LIST and TEXT. */
    static List<Integer> asked(SoapPole x) {
        List<Integer> all = new ArrayList<>();
        look(x, all);
        int seed = x.seed(0);
        all.add(seed);
        x.seed(seed);
        all.add(x.begin());
        how(x, all);
        for (int i = 0; i < 2; i++) {
            all.add(x.goBack(i));
            how(x, all);
            all.add(x.drift(2));
            all.add(x.seed(i));
        }
        all.add(x.hang());
        all.add(x.tear());
        all.add(x.pole());
        all.add(x.fault());
        how(x, all);
        return all;
    }

    private static void look(SoapPole x, List<Integer> all) {
        how(x, all);
        int men = x.told(1);
        for (int c = 0; c < men; c++) {
            for (int what = 0; what <= 3; what++) {
                all.add(x.climber(c, what));
            }
            for (int i = -1; i < 6; i++) {
                all.add(x.forOne(c, i));
            }
            all.add(x.rests(c));
            all.add(x.tower(c, (c + 1) % men));
        }
        for (int i = -2; i < men; i++) {
            all.add(x.order(i));
        }
        all.add(x.rests(-1));
        for (int k = 0; k < 12; k++) {
            all.add(x.enough(k));
        }
        all.add(x.judge());
        all.add(x.sand());
    }

    private static void how(SoapPole x, List<Integer> all) {
        for (int i = 0; i <= 10; i++) {
            all.add(x.told(i));
        }
        for (int i = 0, feet = x.told(0); i < feet; i++) {
            all.add(x.slip(i));
        }
    }

    /** The call answers so, and nothing changes by it. */
    static void unchanged(String name, Supplier<SoapPole> made, ToIntFunction<SoapPole> call, int want) {
        SoapPole one = made.get();
        SoapPole other = made.get();
        Due.due(name, call.applyAsInt(one), want);
        Due.due("fault() behind " + name, one.fault(), other.fault());
        alike(name, one, other);
    }

    static void alike(String name, SoapPole one, SoapPole other) {
        List<Integer> got = asked(one);
        List<Integer> want = asked(other);
        Due.due("the number of answers behind " + name, got.size(), want.size());
        for (int i = 0; i < Math.min(got.size(), want.size()); i++) {
            Due.due("answer " + i + " of all behind " + name, got.get(i), want.get(i));
        }
    }

    /** Some GOES, the HAM is there, a LIST, both IMAGES, half a text, a FAULT ahead of it. */
    static SoapPole rich() {
        SoapPole x = new SoapPole();
        Due.tell(x, "pole 3 x;");
        Due.tell(x, "pole 4 30;foot 3 40;climber 50 80 9;climber 40 60 5;climber 60 200 1;ham 50 3;sun 3 2;");
        x.seed(77);
        x.go(0);
        x.keep(0);
        x.go(1);
        x.go(2);
        x.hang();
        x.seed(78);
        x.keep(1);
        x.go(1);
        x.list(0, 2);
        x.list(1, 2);
        x.list(2, 4);
        Due.tell(x, "pole 3 100;");
        Due.feedAll(x, "pole 9 9;foot");
        return x;
    }

    /** As rich, but somebody has the HAM. */
    static SoapPole had() {
        SoapPole x = rich();
        x.go(2);
        return x;
    }

    /** THE LIST and THE TEXT are full. */
    static SoapPole full() {
        SoapPole x = Due.of("pole 2 10;climber 50 30 2;climber 50 15 2;");
        for (int i = 0; i < 12; i++) {
            x.list(i % 2, i % 3);
        }
        x.go(1);
        Due.feedAll(x, "pole 7 7;" + " ".repeat(391));
        return x;
    }

    /** FEET alone. */
    static SoapPole bare() {
        return Due.of("pole 3 20;ham 5 6;sun 7 8;");
    }
}
