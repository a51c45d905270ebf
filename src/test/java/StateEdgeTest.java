import java.util.List;
import java.util.function.Supplier;
import java.util.function.ToIntFunction;

/** Promises 1 and 22 to 24, and 'Terms': what is refused, in which order, and that nothing changes by it. */
public final class StateEdgeTest extends Due {
    private static final List<Supplier<SoapPole>> ALL =
        List.of(SoapPole::new, Twins::bare, Twins::rich, Twins::had, Twins::full);
    private static final List<Supplier<SoapPole>> WITH_CLIMBERS = List.of(Twins::rich, Twins::had, Twins::full);

    private static void refused(List<Supplier<SoapPole>> states, String name, ToIntFunction<SoapPole> call, int want) {
        for (int i = 0; i < states.size(); i++) {
            Twins.unchanged(name + " in state " + i, states.get(i), call, want);
        }
    }

    // ---- the face

    private static void constants() {
        says("The public face, the constants: far below all that is counted");
        due("NONE", SoapPole.NONE, -1);
        due("UNKNOWN", SoapPole.UNKNOWN, -1000000001);
        due("OUTSIDE", SoapPole.OUTSIDE, -1000000002);
        due("NOT", SoapPole.NOT, -1000000003);
        due("FULL", SoapPole.FULL, -1000000004);
    }

    // ---- promise 1: a new object

    private static void newObject() {
        says("promise 1, no FEET, no CLIMBERS");
        SoapPole x = new SoapPole();
        toldAll(x, 0, 0, 100, 1, 1, 0, 0, 0, NONE, 0, 0);
        due("fault()", x.fault(), NONE);
        due("seed(0)", x.seed(0), 0);
        due("goBack(0)", x.goBack(0), NOT);
        due("goBack(1)", x.goBack(1), NOT);
        due("hang()", x.hang(), NONE);
        due("begin()", x.begin(), 0);
        due("tear()", x.tear(), 0);
        due("sand()", x.sand(), 0);
        due("judge()", x.judge(), NONE);
        due("pole()", x.pole(), 0);
        // It is as one of which an empty text was told.
        SoapPole y = new SoapPole();
        y.pole();
        Twins.alike("an empty text", new SoapPole(), y);
    }

    private static void objectsOfTheirOwn() {
        says("promise 1: what one object is told, another one does not know");
        SoapPole x = Twins.rich();
        SoapPole y = new SoapPole();
        x.go(0);
        x.seed(9);
        Twins.alike("calls of another object", y, new SoapPole());
        SoapPole one = Twins.rich();
        SoapPole other = Twins.had();
        one.order(NONE);
        other.order(NONE);
        due("order(-1), there", one.order(NONE), 1);
        due("order(-1), gone", other.order(NONE), NONE);
    }

    private static void calls512() {
        says("What it is: an object is used for at most 512 calls: the last of them answers, too");
        SoapPole x = of("pole 2 0;climber 99 2 0;sun 20 1;");
        // feed five times, pole(), then 505 GOES.
        goes(x, 0, 505);
        due("told(7), the 512th", x.told(7), 505);
        x = of("pole 2 0;climber 99 1 0;sun 20 1;");
        goes(x, 0, 505);
        due("slip(1), the 512th", x.slip(1), 25);
        x = new SoapPole();
        for (int i = 0; i < 511; i++) {
            x.feed(1, 32);
        }
        due("told(6), the 512th", x.told(6), 400);
        x = new SoapPole();
        for (int i = 0; i < 255; i++) {
            due("keep(0)", x.keep(0), 1);
            due("goBack(0)", x.goBack(0), 1);
        }
        due("keep(1)", x.keep(1), 1);
        due("goBack(1), the 512th", x.goBack(1), 1);
    }

    // ---- promise 22: seed

    private static void seedOf0To2147483647() {
        says("promise 22, v (0 .. 2147483647): what it was. OUTSIDE");
        SoapPole x = new SoapPole();
        due("seed(0)", x.seed(0), 0);
        due("seed(1)", x.seed(1), 0);
        due("seed(2147483647)", x.seed(Integer.MAX_VALUE), 1);
        due("seed(-1)", x.seed(-1), OUTSIDE);
        farBelow("seed(far)", v -> x.seed(v), OUTSIDE);
        due("seed(2147483646)", x.seed(Integer.MAX_VALUE - 1), Integer.MAX_VALUE);
        due("seed(0)", x.seed(0), Integer.MAX_VALUE - 1);
    }

    // ---- promises 23, 24: keep, goBack

    private static void keepOf0And1() {
        says("promise 23, IMAGES 0, 1: UNKNOWN");
        SoapPole x = new SoapPole();
        due("keep(0)", x.keep(0), 1);
        due("keep(1)", x.keep(1), 1);
        due("keep(2)", x.keep(2), UNKNOWN);
        due("keep(-1)", x.keep(-1), UNKNOWN);
        far("keep(far)", i -> x.keep(i), UNKNOWN);
    }

    private static void goBackOf0And1() {
        says("promise 24, UNKNOWN, NOT: it was not kept");
        SoapPole x = Twins.bare();
        due("goBack(0)", x.goBack(0), NOT);
        due("goBack(1)", x.goBack(1), NOT);
        due("goBack(2)", x.goBack(2), UNKNOWN);
        due("goBack(-1)", x.goBack(-1), UNKNOWN);
        far("goBack(far)", i -> x.goBack(i), UNKNOWN);
        // The one is not the other.
        x.keep(1);
        due("goBack(0)", x.goBack(0), NOT);
        due("goBack(1)", x.goBack(1), 1);
        SoapPole y = Twins.bare();
        y.keep(0);
        due("goBack(1)", y.goBack(1), NOT);
        due("goBack(0)", y.goBack(0), 1);
        due("goBack(0) again", y.goBack(0), 1);
    }

    private static void imagesKeepFour() {
        says("3, IMAGES 0, 1 keep SLIP, GOES, who has the HAM, THE SEED (nothing else)");
        SoapPole x = of("pole 3 9;foot 2 50;climber 50 60 8;climber 50 99 0;");
        x.seed(Integer.MAX_VALUE);
        x.go(0);
        x.keep(0);
        x.go(1);
        x.seed(5);
        x.keep(1);
        x.list(0, 3);
        x.soap(0, 2, 99);
        x.go(0);
        tell(x, "?");
        feedAll(x, "abc");
        due("goBack(0)", x.goBack(0), 1);
        // 16 off, 4 smeared.
        slips(x, 3, 3, 50);
        toldAll(x, 3, 2, 100, 1, 1, 0, 3, 1, NONE, 1, 56);
        due("fault()", x.fault(), 0);
        due("seed(6)", x.seed(6), Integer.MAX_VALUE);
        due("goBack(1)", x.goBack(1), 1);
        slips(x, 3, 3, 50);
        toldAll(x, 3, 2, 100, 1, 1, 0, 3, 2, 1, 1, 56);
        due("seed(6)", x.seed(6), 5);
        // The IMAGE stays what it was when it was kept.
        x.hang();
        x.soap(0, 0, 5);
        due("goBack(1)", x.goBack(1), 1);
        toldAll(x, 3, 2, 100, 1, 1, 0, 3, 2, 1, 1, 56);
        due("seed(5)", x.seed(5), 5);
        // Kept again it is the later one, and one becomes the other.
        x.goBack(0);
        x.keep(1);
        x.begin();
        x.goBack(1);
        due("told(7)", x.told(7), 1);
        due("told(8)", x.told(8), NONE);
        due("seed(0)", x.seed(0), Integer.MAX_VALUE);
    }

    private static void imagesGoneWithThePole() {
        says("promise 3, IMAGES are gone; with a FAULT they are not; promise 11, they stay");
        SoapPole x = of("pole 3 9;");
        x.keep(0);
        x.keep(1);
        tell(x, "pole 3 9;?");
        due("goBack(0) behind a FAULT", x.goBack(0), 1);
        due("goBack(1) behind a FAULT", x.goBack(1), 1);
        x.begin();
        due("goBack(0) behind begin()", x.goBack(0), 1);
        tell(x, "pole 3 9;");
        due("goBack(0) behind pole()", x.goBack(0), NOT);
        due("goBack(1) behind pole()", x.goBack(1), NOT);
        x.keep(0);
        x.pole();
        due("goBack(0) behind an empty text", x.goBack(0), NOT);
    }

    // ---- Terms: REFUSALS

    private static void whatIsRefusedAheadOfAll() {
        says("Terms, what is refused changes nothing: UNKNOWN, a FOOT, CLIMBER, IMAGE that there is not; one twice");
        refused(ALL, "slip(-1)", x -> x.slip(-1), UNKNOWN);
        refused(ALL, "slip(30)", x -> x.slip(30), UNKNOWN);
        refused(ALL, "climber(6, 0)", x -> x.climber(6, 0), UNKNOWN);
        refused(ALL, "climber(-1, 3)", x -> x.climber(-1, 3), UNKNOWN);
        refused(ALL, "go(6)", x -> x.go(6), UNKNOWN);
        refused(ALL, "go(-1)", x -> x.go(-1), UNKNOWN);
        refused(ALL, "soap(0, 30, 1)", x -> x.soap(0, 30, 1), UNKNOWN);
        refused(ALL, "soap(-1, 0, 1)", x -> x.soap(-1, 0, 1), UNKNOWN);
        refused(ALL, "forOne(6, -1)", x -> x.forOne(6, NONE), UNKNOWN);
        refused(ALL, "rests(6)", x -> x.rests(6), UNKNOWN);
        refused(ALL, "rests(-2)", x -> x.rests(-2), UNKNOWN);
        refused(ALL, "tower(0, 0)", x -> x.tower(0, 0), UNKNOWN);
        refused(ALL, "tower(0, 6)", x -> x.tower(0, 6), UNKNOWN);
        refused(ALL, "tower(-1, 0)", x -> x.tower(-1, 0), UNKNOWN);
        refused(ALL, "list(6, 0)", x -> x.list(6, 0), UNKNOWN);
        refused(ALL, "list(-1, 0)", x -> x.list(-1, 0), UNKNOWN);
        refused(ALL, "keep(2)", x -> x.keep(2), UNKNOWN);
        refused(ALL, "keep(-1)", x -> x.keep(-1), UNKNOWN);
        refused(ALL, "goBack(2)", x -> x.goBack(2), UNKNOWN);
        refused(ALL, "goBack(-1)", x -> x.goBack(-1), UNKNOWN);
    }

    private static void whatIsRefusedAsOutside() {
        says("Terms, what is refused changes nothing: OUTSIDE, another number out of its bounds");
        refused(ALL, "feed(0, ..)", x -> x.feed(0, 59), OUTSIDE);
        refused(ALL, "feed(9, ..)", x -> x.feed(9, 59), OUTSIDE);
        refused(ALL, "told(-1)", x -> x.told(-1), OUTSIDE);
        refused(ALL, "told(11)", x -> x.told(11), OUTSIDE);
        refused(ALL, "drift(0)", x -> x.drift(0), OUTSIDE);
        refused(ALL, "drift(100)", x -> x.drift(100), OUTSIDE);
        refused(ALL, "enough(-1)", x -> x.enough(-1), OUTSIDE);
        refused(ALL, "enough(12)", x -> x.enough(12), OUTSIDE);
        refused(ALL, "seed(-1)", x -> x.seed(-1), OUTSIDE);
        refused(WITH_CLIMBERS, "climber(0, 4)", x -> x.climber(0, 4), OUTSIDE);
        refused(WITH_CLIMBERS, "climber(0, -1)", x -> x.climber(0, -1), OUTSIDE);
        refused(WITH_CLIMBERS, "soap(1, 0, 1)", x -> x.soap(1, 0, 1), OUTSIDE);
        refused(WITH_CLIMBERS, "soap(0, 1, 0)", x -> x.soap(0, 1, 0), OUTSIDE);
        refused(WITH_CLIMBERS, "soap(0, 1, 100)", x -> x.soap(0, 1, 100), OUTSIDE);
        refused(WITH_CLIMBERS, "list(0, 31)", x -> x.list(0, 31), OUTSIDE);
        refused(WITH_CLIMBERS, "list(0, -1)", x -> x.list(0, -1), OUTSIDE);
    }

    private static void whatIsRefusedAsNotOrFull() {
        says("Terms, what is refused changes nothing: NOT, FULL");
        List<Supplier<SoapPole>> idle = List.of(SoapPole::new, Twins::bare);
        List<Supplier<SoapPole>> full = List.of(Twins::full);
        refused(idle, "drift(1)", x -> x.drift(1), NOT);
        refused(idle, "goBack(0)", x -> x.goBack(0), NOT);
        refused(full, "goBack(1)", x -> x.goBack(1), NOT);
        refused(full, "feed(1, ..)", x -> x.feed(1, 59), FULL);
        refused(full, "feed(8, ..)", x -> x.feed(8, -1), FULL);
        refused(full, "list(0, 0)", x -> x.list(0, 0), FULL);
    }

    private static void refusalsInTheirOrder() {
        says("Terms, REFUSALS, of several the first: UNKNOWN, OUTSIDE, NOT, FULL");
        SoapPole x = new SoapPole();
        due("climber(0, 4)", x.climber(0, 4), UNKNOWN);
        due("soap(0, 0, 0)", x.soap(0, 0, 0), UNKNOWN);
        due("soap(1, 0, 1)", x.soap(1, 0, 1), UNKNOWN);
        due("go(0), no FEET", x.go(0), UNKNOWN);
        due("tower(0, 1), no FEET", x.tower(0, 1), UNKNOWN);
        due("tower(0, 0), no FEET", x.tower(0, 0), UNKNOWN);
        due("list(0, 31)", x.list(0, 31), UNKNOWN);
        due("drift(0), no FEET", x.drift(0), OUTSIDE);
        due("drift(100), no FEET", x.drift(100), OUTSIDE);
        due("goBack(2), not kept", x.goBack(2), UNKNOWN);
        x = Twins.full();
        due("feed(0, ..), full", x.feed(0, 0), OUTSIDE);
        due("feed(9, ..), full", x.feed(9, 0), OUTSIDE);
        due("list(2, 0), full", x.list(2, 0), UNKNOWN);
        due("list(0, 31), full", x.list(0, 31), OUTSIDE);
    }

    public static void main(String[] args) {
        constants();
        newObject();
        objectsOfTheirOwn();
        calls512();
        seedOf0To2147483647();
        keepOf0And1();
        goBackOf0And1();
        imagesKeepFour();
        imagesGoneWithThePole();
        whatIsRefusedAheadOfAll();
        whatIsRefusedAsOutside();
        whatIsRefusedAsNotOrFull();
        refusalsInTheirOrder();
        end();
    }
}
