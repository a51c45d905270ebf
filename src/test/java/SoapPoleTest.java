/** Each promise by hand: ordinary calls, the edges that the document names, each refusal. */
public final class SoapPoleTest extends Due {
    /** c0 comes 1 FOOT far, c1 over all three. */
    private static final String SMALL = "pole 3 10;foot 1 20;climber 50 20 4;climber 25 40 1;ham 30 2;sun 2 3;";
    /** Each slip and one of arms a FOOT (W 50); only rubbing helps. */
    private static final String RUBBED = "pole 2 40;climber 50 50 20;climber 50 60 20;";

    private static void promise1NewObject() {
        SoapPole x = new SoapPole();
        toldAll(x, 0, 0, 100, 1, 1, 0, 0, 0, NONE, 0, 0);
        due("slip(0)", x.slip(0), UNKNOWN);
        due("climber(0, 0)", x.climber(0, 0), UNKNOWN);
        due("fault()", x.fault(), NONE);
        due("goBack(0)", x.goBack(0), NOT);
        due("seed(0)", x.seed(0), 0);
        due("order(-1)", x.order(NONE), NONE);
        due("order(-2)", x.order(-2), NONE);
        due("order(0)", x.order(0), NONE);
        due("rests(-1)", x.rests(NONE), 0);
        due("rests(0)", x.rests(0), UNKNOWN);
        due("sand()", x.sand(), 0);
        due("judge()", x.judge(), NONE);
        due("enough(0)", x.enough(0), NONE);
        due("tear()", x.tear(), 0);
        due("hang()", x.hang(), NONE);
        due("begin()", x.begin(), 0);
        due("keep(0)", x.keep(0), 1);
        due("goBack(0)", x.goBack(0), 1);
    }

    private static void promise2Feed() {
        SoapPole x = new SoapPole();
        due("feed(0, 1)", x.feed(0, 1), OUTSIDE);
        due("feed(9, 1)", x.feed(9, 1), OUTSIDE);
        due("feed(-1, 1)", x.feed(-1, 1), OUTSIDE);
        due("feed(min, 1)", x.feed(Integer.MIN_VALUE, 1), OUTSIDE);
        due("told(6)", x.told(6), 0);
        // The byte ahead of the lowest n is no part of it.
        due("feed(5, ..)", x.feed(5, 0x7a7a7a706f6c6520L), 5);
        due("feed(1, 8)", x.feed(1, 0xffffffffffffff38L), 6);
        due("feed(4, ..)", x.feed(4, 0x2020313bL), 10);
        due("pole()", x.pole(), 8);
        due("told(6)", x.told(6), 0);
        due("feed(8, ..)", x.feed(8, 0x706f6c6520382031L), 8);
        due("feed(1, ;)", x.feed(1, 0x3b), 9);
        due("pole()", x.pole(), 8);
        // All of a byte counts: 0xbb is no ';'.
        due("feed(8, ..)", x.feed(8, 0x706f6c6520382031L), 8);
        due("feed(1, ..)", x.feed(1, 0xbb), 9);
        due("pole()", x.pole(), -11);
        due("fault()", x.fault(), 8);
        SoapPole y = new SoapPole();
        for (int i = 1; i <= 49; i++) {
            y.feed(8, 0x2020202020202020L);
        }
        due("feed(7, ..)", y.feed(7, 0x20202020202020L), 399);
        due("feed(2, ..)", y.feed(2, 0x2020L), FULL);
        due("told(6)", y.told(6), 399);
        due("feed(1, ..)", y.feed(1, 0x20L), 400);
        due("feed(1, ..)", y.feed(1, 0x20L), FULL);
        due("feed(9, ..)", y.feed(9, 0x20L), OUTSIDE);
        due("told(6)", y.told(6), 400);
        due("pole()", y.pole(), 0);
        due("feed(8, ..)", y.feed(8, 0x2020202020202020L), 8);
    }

    private static void promise3PoleRight() {
        fine("", 0);
        fine("    ", 0);
        fine("pole 30 99;", 30);
        fine("pole 1 0;", 1);
        fine("  pole30   99 ;   foot29 0; ", 30);
        fine("pole 008 000;", 8);
        fine("pole 3 4;climber99 999 20;climber 1 1 0;ham 0 0;sun 1 0;", 3);
        fine("pole 3 4;ham 999 99;sun 20 9;", 3);
        SoapPole x = of(SMALL);
        toldAll(x, 3, 2, 30, 2, 2, 3, 0, 0, NONE, 0, 40);
        slips(x, 10, 20, 10);
        x.list(0, 1);
        x.go(1);
        x.keep(0);
        x.keep(1);
        x.seed(77);
        // A FAULT: all else is as it was, but THE TEXT is empty.
        due("pole()", tell(x, "pole 5 5;climber 1 1 1;ham 7 7;sun 7 7;foot 5 1;"), -12);
        toldAll(x, 3, 2, 30, 2, 2, 3, 0, 1, 1, 1, 37);
        due("goBack(0)", x.goBack(0), 1);
        x.seed(77);
        due("pole()", tell(x, "pole 4 1;foot 3 9;"), 4);
        toldAll(x, 4, 0, 100, 1, 1, 0, 0, 0, NONE, 0, 12);
        slips(x, 1, 1, 1, 9, UNKNOWN);
        due("climber(0, 0)", x.climber(0, 0), UNKNOWN);
        due("goBack(0)", x.goBack(0), NOT);
        due("goBack(1)", x.goBack(1), NOT);
        due("seed(0)", x.seed(0), 77);
        due("pole()", x.pole(), 0);
        toldAll(x, 0, 0, 100, 1, 1, 0, 0, 0, NONE, 0, 0);
        // Feet of a longer pole ahead of it are not to be met again.
        due("pole()", tell(x, "pole 2 7;"), 2);
        due("slip(2)", x.slip(2), UNKNOWN);
    }

    private static void promise3FaultsOfSigns() {
        bad("foot 0 1;", 1, 0);
        bad("ham 1 1;pole 3 4;", 1, 0);
        bad("Pole 3 4;", 1, 0);
        bad("poLe 3 4;", 1, 0);
        bad("pol e 3 4;", 1, 0);
        bad("  poles 3 4;", 1, 2);
        bad("polez 3 4;", 1, 0);
        bad("polea 3 4;", 1, 0);
        bad("bole 3 4;", 1, 0);
        bad("pole 3 4;boot 1 1;", 1, 9);
        bad("pole 3 4;foo 1 1;", 1, 9);
        bad("pole 3 4;climbers 1 1 1;", 1, 9);
        bad("pole 3 4;jam 1 1;", 1, 9);
        bad("pole 3 4;suns 1 1;", 1, 9);
        bad("polefoot 3 4;", 1, 0);
        bad(";", 1, 0);
        bad("3", 1, 0);
        bad("1000", 1, 0);
        bad("pole 3 4;;", 1, 9);
        bad("pole 3 4;1000", 1, 9);
        bad("pole;", 1, 4);
        bad("pole 3;", 1, 6);
        bad("pole 3 4 5;", 1, 9);
        bad("pole 3 4 1000;", 1, 9);
        bad("pole pole", 1, 5);
        bad("pole 3 4foot 1 1;", 1, 8);
        bad("pole 3 4;soap 1 1;", 1, 9);
        bad("pole 3 4;climber 1 1;", 1, 20);
        bad("pole\t3 4;", 1, 4);
        bad("pole 3,4;", 1, 6);
        bad("pole 3 -4;", 1, 7);
        bad("pole 3 4;\u00e9", 1, 9);
        bad("pole 3 4;\u0000", 1, 9);
        bad("pole 3 4; A", 1, 10);
        bad("pole 3 4;{", 1, 9);
        bad("pole 3 4;`", 1, 9);
        bad("pole 3 :;", 1, 7);
        bad("pole 3 /;", 1, 7);
        bad("pole", 1, 4);
        bad("pole 3", 1, 6);
        bad("pole 3 4", 1, 8);
        bad("pole 3 4   ", 1, 11);
        bad("pole 3 4;foot ", 1, 14);
        bad("pole 3 4;ha", 1, 9);
    }

    private static void promise3FaultsOfNumbers() {
        bad("pole 0 1;", 2, 5);
        bad("pole 31 1;", 2, 5);
        bad("pole 0008 1;", 2, 5);
        bad("pole 99999999999999999999 1;", 2, 5);
        bad("pole 4294967299 1;", 2, 5);
        bad("pole 3 100;", 2, 7);
        bad("pole 3 0000;", 2, 7);
        bad("pole 3 4;foot 3 1;", 2, 14);
        bad("pole 3 4;foot 1000 1;", 2, 14);
        bad("pole 3 4;foot 2 100;", 2, 16);
        bad("pole 3 4;climber 0 1 1;", 2, 17);
        bad("pole 3 4;climber 100 1 1;", 2, 17);
        bad("pole 3 4;climber 1 0 1;", 2, 19);
        bad("pole 3 4;climber 1 1000 1;", 2, 19);
        bad("pole 3 4;climber 1 1 21;", 2, 21);
        bad("pole 3 4;ham 1000 1;", 2, 13);
        bad("pole 3 4;ham 1 100;", 2, 15);
        bad("pole 3 4;sun 0 1;", 2, 13);
        bad("pole 3 4;sun 21 1;", 2, 13);
        bad("pole 3 4;sun 1 10;", 2, 15);
    }

    private static void promise3FaultsOfOften() {
        bad("pole 3 4;pole 3 4;", 3, 9);
        bad("pole 3 4; pole", 3, 10);
        bad("pole 3 4;ham 1 1;ham 1 1;", 3, 17);
        bad("pole 3 4;sun 1 1;sun 1 1;", 3, 17);
        bad("pole 3 4;foot 2 1;foot 2 100;", 4, 23);
        bad("pole 3 4;foot 0 1;foot 0 1;", 4, 23);
        bad("pole 3 4;foot 1 1;foot 02 1;foot 002 1;", 4, 33);
        StringBuilder feet = new StringBuilder("pole 30 1;");
        for (int i = 0; i < 20; i++) {
            feet.append("foot ").append(i + 5).append(" 7;");
        }
        fine(feet.toString(), 30);
        bad(feet + "foot 1 1;", 3, feet.length());
        bad(feet + "foot 5 1;", 3, feet.length());
        due("told(10)", of(feet.toString()).told(10), 10 + 140);
        String men = "pole 3 4;" + "climber 1 1 1;".repeat(6);
        fine(men, 3);
        due("told(1)", of(men).told(1), 6);
        bad(men + "climber", 3, men.length());
        // The seventh is counted from the pole on that is told: six more are right the next time.
        SoapPole x = of(men);
        due("pole() again", tell(x, men), 3);
        due("pole() again", tell(x, "pole 2 1;foot 0 1;foot 1 1;ham 1 1;sun 1 1;"), 2);
        due("pole() again", tell(x, "pole 2 1;foot 0 1;foot 1 1;ham 1 1;sun 1 1;"), 2);
        due("pole() again", tell(x, feet.toString()), 30);
        due("pole() again", tell(x, feet.toString()), 30);
    }

    private static void promise4Fault() {
        SoapPole x = new SoapPole();
        due("fault()", x.fault(), NONE);
        tell(x, "pole 3 x;");
        due("fault()", x.fault(), 7);
        feedAll(x, "pole 3 4;");
        due("fault() ahead of pole()", x.fault(), 7);
        x.pole();
        due("fault()", x.fault(), NONE);
        tell(x, "?");
        due("fault()", x.fault(), 0);
        x.pole();
        due("fault() of an empty text", x.fault(), NONE);
    }

    private static void promise5Told() {
        SoapPole x = of(SMALL);
        feedAll(x, "abc");
        x.list(0, 1);
        x.list(1, 2);
        x.go(0);
        x.go(1);
        toldAll(x, 3, 2, 30, 2, 2, 3, 3, 2, 1, 2, 43);
        due("told(11)", x.told(11), OUTSIDE);
        due("told(-1)", x.told(-1), OUTSIDE);
        due("told(min)", x.told(Integer.MIN_VALUE), OUTSIDE);
    }

    private static void promise6Slip() {
        SoapPole x = of(SMALL);
        slips(x, 10, 20, 10, UNKNOWN);
        due("slip(-1)", x.slip(-1), UNKNOWN);
        due("slip(max)", x.slip(Integer.MAX_VALUE), UNKNOWN);
        due("slip(29)", of("pole 30 1;foot 29 99;").slip(29), 99);
        due("slip(30)", of("pole 30 1;").slip(30), UNKNOWN);
    }

    private static void promise7Climber() {
        SoapPole x = of(SMALL);
        due("climber(0, 0)", x.climber(0, 0), 50);
        due("climber(0, 1)", x.climber(0, 1), 20);
        due("climber(0, 2)", x.climber(0, 2), 4);
        due("climber(0, 3)", x.climber(0, 3), 1);
        due("climber(1, 3)", x.climber(1, 3), 3);
        due("told(7)", x.told(7), 0);
        due("told(8)", x.told(8), NONE);
        due("climber(1, 4)", x.climber(1, 4), OUTSIDE);
        due("climber(1, -1)", x.climber(1, -1), OUTSIDE);
        due("climber(2, 9)", x.climber(2, 9), UNKNOWN);
        due("climber(-1, 0)", x.climber(-1, 0), UNKNOWN);
        x.go(1);
        due("climber(1, 3), the ham gone", x.climber(1, 3), 3);
        due("climber(0, 3)", of("pole 2 0;foot 0 9;climber 50 9 0;").climber(0, 3), 0);
    }

    private static void promise8Go() {
        SoapPole x = of(SMALL);
        // One FOOT: 4 are off, 1 of these is smeared on it.
        due("go(0)", x.go(0), 1);
        slips(x, 7, 20, 10);
        // 3 are off, no quarter; behind the second GO the sun.
        due("go(1)", x.go(1), 3);
        slips(x, 9, 22, 12);
        due("told(8)", x.told(8), 1);
        due("go(1), the ham gone", x.go(1), 3);
        due("told(8)", x.told(8), 1);
        due("told(7)", x.told(7), 3);
        due("go(2)", x.go(2), UNKNOWN);
        due("go(-1)", x.go(-1), UNKNOWN);
        due("go(0) without feet", new SoapPole().go(0), UNKNOWN);
        due("told(7)", x.told(7), 3);
        // Arms to the last: 11 and 11 of 22; with 21 he comes one FOOT far.
        due("go(0)", of("pole 2 10;climber 50 22 0;").go(0), 2);
        due("go(0)", of("pole 2 10;climber 50 21 0;").go(0), 1);
        // The division is cut: 10 * 49 / 50 + 1 is 10.
        due("go(0)", of("pole 2 10;climber 49 20 0;").go(0), 2);
        due("go(0)", of("pole 2 10;climber 49 19 0;").go(0), 1);
        due("go(0)", of("pole 3 0;climber 99 3 0;").go(0), 3);
        due("go(0)", of("pole 3 0;climber 99 2 0;").go(0), 2);
    }

    private static void promise8GoRubsAndSmears() {
        // All of the slip, if it has less; 3 + 8 + 20 + 20 off, 12 of 51 smeared on four.
        SoapPole x = of("pole 4 40;foot 0 3;foot 1 8;climber 1 999 20;");
        due("go(0)", x.go(0), 4);
        slips(x, 3, 3, 23, 23);
        // 20 + 20 + 8 off, 12 smeared on the three that he got over; the fourth is as it was.
        x = of("pole 4 40;foot 2 8;foot 3 99;climber 50 95 20;");
        due("go(0)", x.go(0), 3);
        slips(x, 24, 24, 4, 99);
        // 5 + 5 off: 2 smeared, one by one from the lowest on.
        x = of("pole 3 10;foot 2 99;climber 50 30 5;");
        due("go(0)", x.go(0), 2);
        slips(x, 6, 6, 99);
        // 7 + 7 + 7 off: 5 smeared: 2 2 1.
        x = of("pole 3 10;climber 50 99 7;");
        due("go(0)", x.go(0), 3);
        slips(x, 5, 5, 4);
        // None got over: none off, but the GO is counted.
        x = of("pole 3 10;climber 50 10 7;");
        due("go(0)", x.go(0), 0);
        slips(x, 10, 10, 10);
        due("told(7)", x.told(7), 1);
    }

    private static void promise8GoSun() {
        // Behind each third GO, 99 at most.
        SoapPole x = of("pole 2 92;foot 1 98;climber 99 1 0;sun 3 5;");
        x.go(0);
        x.go(0);
        slips(x, 92, 98);
        x.go(0);
        slips(x, 97, 99);
        x.go(0);
        x.go(0);
        slips(x, 97, 99);
        x.go(0);
        slips(x, 99, 99);
        // Untold it is no more.
        x = of("pole 2 92;climber 99 1 0;");
        x.go(0);
        slips(x, 92, 92);
    }

    private static void promise9Soap() {
        SoapPole x = of("pole 4 10;foot 2 95;");
        due("soap(0, 3, 1)", x.soap(0, 3, 1), 11 + 11 + 96 + 11);
        due("soap(1, 2, 5)", x.soap(1, 2, 5), 16 + 99);
        slips(x, 11, 16, 99, 11);
        due("soap(3, 3, 99)", x.soap(3, 3, 99), 99);
        due("soap(0, 4, 0)", x.soap(0, 4, 0), UNKNOWN);
        due("soap(-1, 2, 1)", x.soap(-1, 2, 1), UNKNOWN);
        due("soap(4, 3, 1)", x.soap(4, 3, 1), UNKNOWN);
        due("soap(1, 0, 1)", x.soap(1, 0, 1), OUTSIDE);
        due("soap(0, 1, 0)", x.soap(0, 1, 0), OUTSIDE);
        due("soap(0, 1, 100)", x.soap(0, 1, 100), OUTSIDE);
        due("soap(0, 1, min)", x.soap(0, 1, Integer.MIN_VALUE), OUTSIDE);
        slips(x, 11, 16, 99, 99);
        due("told(7)", x.told(7), 0);
    }

    private static void promise10Hang() {
        SoapPole x = of(SMALL);
        due("hang()", x.hang(), NONE);
        x.go(1);
        due("hang()", x.hang(), 1);
        due("told(8)", x.told(8), NONE);
        due("hang()", x.hang(), NONE);
        due("told(7)", x.told(7), 1);
        due("told(10)", x.told(10), 37);
        x.go(1);
        due("told(8)", x.told(8), 1);
    }

    private static void promise11Begin() {
        SoapPole x = of(SMALL);
        x.go(0);
        x.go(1);
        x.go(1);
        x.list(0, 1);
        x.keep(1);
        x.seed(5);
        due("begin()", x.begin(), 3);
        toldAll(x, 3, 2, 30, 2, 2, 3, 0, 0, NONE, 1, 40);
        slips(x, 10, 20, 10);
        due("seed(5)", x.seed(5), 5);
        due("begin()", x.begin(), 0);
        due("goBack(1)", x.goBack(1), 1);
        due("told(7)", x.told(7), 3);
        // The sun counts from none on again.
        x.begin();
        x.go(0);
        slips(x, 7, 20, 10);
    }

    private static void promise12Drift() {
        // THE SEED 0 becomes 12345, 1406932606, 654583775: draws of 3 are 0, 21468 and 9988 left over by 3: 0, 0, 1.
        SoapPole x = of("pole 1 99;" + "climber 99 1 0;".repeat(2) + "climber 1 99 0;");
        due("drift(0)", x.drift(0), OUTSIDE);
        due("drift(100)", x.drift(100), OUTSIDE);
        due("drift(-1)", x.drift(-1), OUTSIDE);
        due("drift(1)", x.drift(1), NONE);
        due("seed", x.seed(12345), 12345);
        due("drift(2)", x.drift(2), NONE);
        due("seed", x.seed(654583775), 654583775);
        due("told(7)", x.told(7), 3);
        due("seed", x.seed(0), 654583775);
        due("drift(99)", x.drift(99), 2);
        int goes = x.told(7);
        int seed = x.seed(0);
        x.seed(seed);
        due("drift(99), the ham gone", x.drift(99), 2);
        due("told(7)", x.told(7), goes);
        due("seed", x.seed(0), seed);
        due("drift(1) without feet", new SoapPole().drift(1), NOT);
        due("drift(0) without feet", new SoapPole().drift(0), OUTSIDE);
        due("drift(1) without climbers", of("pole 3 1;").drift(1), NOT);
        // Draws of 5, the low bits of which say nothing: each drawn one has it at once.
        x = of("pole 1 0;" + "climber 1 1 0;".repeat(5));
        int[] drawn = {0, 3, 3, 2, 3, 2, 0, 1};
        for (int who : drawn) {
            due("drift(9)", x.drift(9), who);
            x.hang();
        }
        due("told(7)", x.told(7), 8);
        // One climber is drawn, too; 2147483647 becomes 1043980748.
        x = of("pole 1 99;climber 99 1 0;");
        x.seed(Integer.MAX_VALUE);
        due("drift(1)", x.drift(1), NONE);
        due("seed", x.seed(0), 1043980748);
        x.seed(0);
        due("drift(99)", x.drift(99), NONE);
        due("told(7)", x.told(7), 100);
    }

    private static void promise13Order() {
        // 41 a FOOT. c0 (50) comes 1 far and rubs it to 40 - 20 + 5; then 26 + 41 is too much for c1 (60).
        SoapPole x = of(RUBBED);
        due("order(-1)", x.order(NONE), NONE);
        due("order(-2)", x.order(-2), NONE);
        due("order(0)", x.order(0), NONE);
        // Slip 30: 31, then 16 behind one rubbing: 16 + 31 = 47 is enough for both; 0 goes first, 1 has it.
        x = of("pole 2 30;climber 50 50 20;climber 50 60 20;climber 50 1 0;");
        due("order(-1)", x.order(NONE), 2);
        due("order(-2)", x.order(-2), 1);
        due("order(0)", x.order(0), 0);
        due("order(1)", x.order(1), 1);
        due("order(2)", x.order(2), 2);
        due("order(3)", x.order(3), NONE);
        due("order(-3)", x.order(-3), NONE);
        due("order(max)", x.order(Integer.MAX_VALUE), NONE);
        due("told(7)", x.told(7), 0);
        slips(x, 30, 30);
        // What was asked is asked anew when the pole is another.
        x.go(0);
        due("order(-1)", x.order(NONE), 1);
        due("order(-2)", x.order(-2), 0);
        due("order(1)", x.order(1), 1);
        x.go(0);
        due("order(-1), the ham gone", x.order(NONE), NONE);
        due("order(-2), the ham gone", x.order(-2), NONE);
        due("order(0), the ham gone", x.order(0), NONE);
        x.hang();
        due("order(-1)", x.order(NONE), 1);
        // By the last one's first go: those behind him stand as they come.
        x = of("pole 2 30;climber 50 1 0;climber 50 1 0;climber 50 62 20;");
        due("order(-1)", x.order(NONE), 1);
        due("order(-2)", x.order(-2), 2);
        due("order(0)", x.order(0), 2);
        due("order(1)", x.order(1), 0);
        due("order(2)", x.order(2), 1);
    }

    private static void promise13OrderSun() {
        // The sun behind the first GO undoes what it rubbed: 30 - 20 + 5 + 9 and 39: 25 + 40.
        SoapPole x = of("pole 2 30;climber 50 50 20;climber 50 60 20;sun 1 9;");
        due("order(-1)", x.order(NONE), NONE);
        x = of("pole 2 30;climber 50 50 20;climber 50 60 20;sun 2 9;");
        due("order(-1)", x.order(NONE), 2);
        // A row of each one time only: alone, c0 would have it by his second GO.
        x = of("pole 2 30;climber 50 50 20;");
        due("order(-1)", x.order(NONE), NONE);
    }

    private static void promise13OrderAskedAgain() {
        SoapPole x = of("pole 2 0;foot 0 30;climber 50 31 0;climber 50 32 0;");
        due("order(-2)", x.order(-2), 1);
        // Only FOOT 0 is another.
        x.soap(0, 0, 1);
        due("order(-1)", x.order(NONE), NONE);
        x.begin();
        due("order(-2)", x.order(-2), 1);
        // The same feet, other climbers.
        due("pole()", tell(x, "pole 2 0;foot 0 30;climber 50 32 0;climber 50 31 0;"), 2);
        due("order(-2)", x.order(-2), 0);
        due("forOne(0, -1)", x.forOne(0, NONE), 1);
        due("pole()", tell(x, "pole 2 0;foot 0 30;climber 50 31 0;climber 50 32 0;"), 2);
        due("forOne(0, -1)", x.forOne(0, NONE), NONE);
        due("rests(0)", x.rests(0), NONE);
        due("rests(1)", x.rests(1), 5);
        due("pole()", tell(x, "pole 2 0;foot 0 30;climber 50 32 0;climber 50 31 0;"), 2);
        due("rests(0)", x.rests(0), 5);
        // Only the GOES are others: behind the next one is the sun.
        x = of("pole 2 30;climber 50 50 20;climber 50 60 20;climber 50 1 0;sun 3 9;");
        due("order(-1)", x.order(NONE), 2);
        x.go(2);
        due("order(-1)", x.order(NONE), 2);
        x.go(2);
        due("order(-1)", x.order(NONE), NONE);
    }

    private static void promise14ForOne() {
        SoapPole x = of("pole 2 30;climber 50 50 20;climber 50 60 20;climber 50 1 0;");
        due("order(-2)", x.order(-2), 1);
        due("forOne(0, -1)", x.forOne(0, NONE), 2);
        due("forOne(0, 0)", x.forOne(0, 0), 0);
        due("forOne(0, 1)", x.forOne(0, 1), 0);
        due("forOne(0, 2)", x.forOne(0, 2), NONE);
        due("forOne(1, -1)", x.forOne(1, NONE), 2);
        due("forOne(1, 0)", x.forOne(1, 0), 0);
        due("forOne(1, 1)", x.forOne(1, 1), 1);
        due("forOne(1, -2)", x.forOne(1, -2), NONE);
        due("forOne(2, -1)", x.forOne(2, NONE), NONE);
        due("forOne(2, 0)", x.forOne(2, 0), NONE);
        due("forOne(3, -1)", x.forOne(3, NONE), UNKNOWN);
        due("forOne(-1, -1)", x.forOne(-1, NONE), UNKNOWN);
        due("told(7)", x.told(7), 0);
        x.go(0);
        due("forOne(1, -1)", x.forOne(1, NONE), 1);
        x.go(1);
        due("forOne(0, -1), the ham gone", x.forOne(0, NONE), NONE);
        due("forOne(0, 0), the ham gone", x.forOne(0, 0), NONE);
        // Nobody ahead of him: c1 alone could rub for c0, but has it at once.
        x = of("pole 2 30;climber 50 61 0;climber 50 62 20;");
        due("forOne(0, -1)", x.forOne(0, NONE), NONE);
        due("forOne(1, -1)", x.forOne(1, NONE), 1);
        due("forOne(1, 0)", x.forOne(1, 0), 1);
    }

    private static void promise14ForOneSix() {
        // FOOT 0 has 3 less each time (4 off, 1 smeared), 84 behind five: 85 and 21 are enough at the sixth GO.
        SoapPole x = of("pole 2 99;foot 1 20;climber 50 106 0;climber 50 100 4;climber 50 100 4;");
        due("forOne(0, -1)", x.forOne(0, NONE), 6);
        due("forOne(0, 0)", x.forOne(0, 0), 1);
        due("forOne(0, 4)", x.forOne(0, 4), 1);
        due("forOne(0, 5)", x.forOne(0, 5), 0);
        due("forOne(0, 6)", x.forOne(0, 6), NONE);
        x = of("pole 2 99;foot 1 20;climber 50 105 0;climber 50 100 4;climber 50 100 4;");
        due("forOne(0, -1)", x.forOne(0, NONE), NONE);
    }

    private static void promise15Rests() {
        // Only c1 can have it: he waits till his last turn.
        SoapPole x = of(SMALL);
        due("rests(-1)", x.rests(NONE), 1);
        due("rests(0)", x.rests(0), NONE);
        due("rests(1)", x.rests(1), 5);
        due("rests(2)", x.rests(2), UNKNOWN);
        due("rests(-2)", x.rests(-2), UNKNOWN);
        due("told(7)", x.told(7), 0);
        x.go(1);
        due("rests(-1), the ham gone", x.rests(NONE), 0);
        due("rests(1), the ham gone", x.rests(1), NONE);
        // It costs what it is worth: like ones, he never goes.
        x = of("pole 1 0;climber 1 9 0;ham 9 9;");
        due("rests(-1)", x.rests(NONE), 0);
        due("rests(0)", x.rests(0), NONE);
        x = of("pole 1 0;climber 1 9 0;ham 10 9;");
        due("rests(-1)", x.rests(NONE), 1);
        due("rests(0)", x.rests(0), 5);
        // He who can not goes neither ahead of the other nor behind him, though it costs nothing.
        x = of("pole 1 5;climber 50 6 0;climber 50 5 0;ham 3 0;");
        due("rests(-1)", x.rests(NONE), 1);
        due("rests(0)", x.rests(0), 5);
        due("rests(1)", x.rests(1), NONE);
        // Two that can: each goes ahead of the other, and when nobody can go sooner it begins again.
        x = of("pole 1 0;climber 1 9 0;climber 1 9 0;");
        due("rests(-1)", x.rests(NONE), NONE);
        due("rests(0)", x.rests(0), NONE);
        due("rests(1)", x.rests(1), NONE);
        due("rests(2)", x.rests(2), UNKNOWN);
    }

    private static void promise16Tower() {
        // Six feet: the one above begins at the last one.
        SoapPole x = of("pole 7 10;climber 50 20 0;climber 10 30 0;climber 16 999 0;climber 15 1 0;");
        due("tower(0, 1)", x.tower(0, 1), 7);
        due("tower(1, 0)", x.tower(1, 0), NONE);
        due("tower(2, 0)", x.tower(2, 0), 6);
        due("tower(1, 2)", x.tower(1, 2), NONE);
        due("tower(1, 3)", x.tower(1, 3), 5);
        due("told(7)", x.told(7), 0);
        due("tower(0, 0)", x.tower(0, 0), UNKNOWN);
        due("tower(0, 4)", x.tower(0, 4), UNKNOWN);
        due("tower(-1, 0)", x.tower(-1, 0), UNKNOWN);
        due("tower(4, 0)", x.tower(4, 0), UNKNOWN);
        due("tower(0, -1)", x.tower(0, -1), UNKNOWN);
        due("tower(0, 1) without feet", new SoapPole().tower(0, 1), UNKNOWN);
        x.go(2);
        due("tower(0, 1), the ham gone", x.tower(0, 1), 7);
        due("tower", of("pole 1 10;climber 50 20 0;climber 10 3 0;").tower(0, 1), 1);
        // Five feet: from the lowest on; six: from the sixth.
        due("tower", of("pole 5 10;climber 50 20 0;climber 10 8 0;").tower(0, 1), 2);
        due("tower", of("pole 6 10;climber 50 20 0;climber 10 8 0;").tower(0, 1), 6);
        due("tower", of("pole 6 10;climber 50 20 0;climber 10 2 0;").tower(0, 1), 5);
    }

    private static void promise17List() {
        SoapPole x = of(SMALL);
        due("list(2, 0)", x.list(2, 0), UNKNOWN);
        due("list(-1, 99)", x.list(-1, 99), UNKNOWN);
        due("list(0, 31)", x.list(0, 31), OUTSIDE);
        due("list(0, -1)", x.list(0, -1), OUTSIDE);
        due("told(9)", x.told(9), 0);
        due("list(0, 0)", x.list(0, 0), 1);
        due("list(1, 30)", x.list(1, 30), 2);
        for (int i = 3; i <= 12; i++) {
            due("list(0, 1)", x.list(0, 1), i);
        }
        due("list(0, 1)", x.list(0, 1), FULL);
        due("list(0, 31)", x.list(0, 31), OUTSIDE);
        due("told(9)", x.told(9), 12);
    }

    private static void promise18Tear() {
        SoapPole x = of(SMALL);
        due("tear()", x.tear(), 0);
        x.list(0, 9);
        x.list(0, 9);
        due("tear()", x.tear(), 2);
        due("told(9)", x.told(9), 0);
        due("judge()", x.judge(), NONE);
        due("list(0, 1)", x.list(0, 1), 1);
    }

    private static void promise19Enough() {
        SoapPole x = of("pole 2 99;climber 50 50 20;climber 50 60 20;");
        due("enough(0), no list", x.enough(0), NONE);
        x.list(0, 5);
        x.list(0, 5);
        x.list(1, 5);
        due("enough(0)", x.enough(0), 0);
        // Slip 24: 25 + 25 is enough at the first GO; 25 is not, but then 11 + 26 at the second.
        due("enough(1)", x.enough(1), 25);
        // 32: 18 + 33 is too much at the second GO, but it leaves 4 on FOOT 0: 5 + 33 at the third.
        due("enough(2)", x.enough(2), 32);
        due("enough(3)", x.enough(3), NONE);
        due("enough(11)", x.enough(11), NONE);
        due("enough(12)", x.enough(12), OUTSIDE);
        due("enough(-1)", x.enough(-1), OUTSIDE);
        slips(x, 99, 99);
        due("told(7)", x.told(7), 0);
        // It is had by GO 0 or never.
        x = of("pole 1 0;climber 50 40 0;climber 50 30 0;");
        x.list(0, 0);
        x.list(1, 0);
        due("enough(0)", x.enough(0), 0);
        due("enough(1)", x.enough(1), NONE);
        x.go(0);
        due("enough(0), the ham gone", x.enough(0), NONE);
        // 99 is the most that there can be; the list begins with another than climber 0.
        x = of("pole 1 0;climber 50 100 0;climber 50 99 0;");
        x.list(1, 0);
        x.list(0, 0);
        due("enough(1)", x.enough(1), 99);
        // The sun behind the first GO is on it, too: 30 becomes 39.
        x = of("pole 1 0;climber 50 30 0;climber 50 40 0;climber 50 39 0;sun 1 9;");
        x.list(0, 0);
        x.list(2, 0);
        due("enough(1)", x.enough(1), NONE);
        x.tear();
        x.list(0, 0);
        x.list(1, 0);
        due("enough(1)", x.enough(1), 30);
    }

    private static void promise20Judge() {
        SoapPole x = of(SMALL);
        due("judge()", x.judge(), NONE);
        x.list(0, 1);
        x.list(1, 3);
        due("judge()", x.judge(), NONE);
        x.list(0, 1);
        x.list(1, 2);
        x.list(1, 2);
        due("judge()", x.judge(), 3);
        due("told(7)", x.told(7), 0);
        slips(x, 10, 20, 10);
        x.tear();
        x.list(1, 3);
        due("judge()", x.judge(), NONE);
        x.tear();
        x.list(0, 2);
        due("judge()", x.judge(), 0);
        // From now: behind enough rubbing he comes two feet far.
        x = of("pole 2 30;climber 50 50 20;");
        x.list(0, 2);
        due("judge()", x.judge(), 0);
        x.go(0);
        due("judge()", x.judge(), NONE);
        x.go(0);
        due("judge(), the ham gone", x.judge(), NONE);
    }

    private static void promise21Sand() {
        // 11 a FOOT, with sand 5: 20 is enough for one, with sand for all four.
        SoapPole x = of("pole 4 10;climber 50 20 0;climber 50 22 0;climber 50 1 0;");
        due("sand() of no list", x.sand(), 7);
        x.list(0, 4);
        due("sand()", x.sand(), 1);
        x.list(1, 2);
        due("sand()", x.sand(), 1);
        x.list(0, 1);
        due("sand()", x.sand(), 0);
        x.tear();
        x.list(0, 1);
        // It came so by itself: all but c0, though they are not in it.
        due("sand()", x.sand(), 6);
        // c2 has 1 of arms: half of 11 is still too much for him.
        x.list(2, 0);
        due("sand()", x.sand(), 6);
        due("judge()", x.judge(), NONE);
        // 1 at least: half of 1 is not 0.
        x = of("pole 3 0;climber 50 2 0;");
        x.list(0, 2);
        due("sand()", x.sand(), 1);
        // Half of 3 is cut: 1.
        x = of("pole 3 2;climber 50 3 0;");
        x.list(0, 3);
        due("sand()", x.sand(), 1);
    }

    private static void promise22Seed() {
        SoapPole x = new SoapPole();
        due("seed(5)", x.seed(5), 0);
        due("seed(-1)", x.seed(-1), OUTSIDE);
        due("seed(min)", x.seed(Integer.MIN_VALUE), OUTSIDE);
        due("seed(max)", x.seed(Integer.MAX_VALUE), 5);
        due("seed(0)", x.seed(0), Integer.MAX_VALUE);
        due("seed(0)", x.seed(0), 0);
    }

    private static void promise23And24Images() {
        says("promise 23");
        SoapPole x = of(SMALL);
        due("keep(2)", x.keep(2), UNKNOWN);
        due("keep(-1)", x.keep(-1), UNKNOWN);
        x.seed(3);
        x.go(0);
        due("keep(0)", x.keep(0), 1);
        says("promise 24");
        due("goBack(2)", x.goBack(2), UNKNOWN);
        due("goBack(-1)", x.goBack(-1), UNKNOWN);
        due("goBack(1)", x.goBack(1), NOT);
        x.go(1);
        x.seed(9);
        x.list(0, 1);
        says("promise 23");
        due("keep(1)", x.keep(1), 1);
        says("promise 24");
        due("goBack(0)", x.goBack(0), 1);
        toldAll(x, 3, 2, 30, 2, 2, 3, 0, 1, NONE, 1, 37);
        due("seed(3)", x.seed(3), 3);
        slips(x, 7, 20, 10);
        // The image is not what goes on from it.
        x.go(0);
        due("goBack(0)", x.goBack(0), 1);
        slips(x, 7, 20, 10);
        due("goBack(1)", x.goBack(1), 1);
        slips(x, 9, 22, 12);
        due("told(7)", x.told(7), 2);
        due("told(8)", x.told(8), 1);
        due("seed(9)", x.seed(9), 9);
        // Kept again, it is the later one.
        says("promise 23");
        x.begin();
        due("keep(1)", x.keep(1), 1);
        x.go(1);
        due("goBack(1)", x.goBack(1), 1);
        slips(x, 10, 20, 10);
        due("told(7)", x.told(7), 0);
    }

    private static void constants() {
        due("NONE", SoapPole.NONE, NONE);
        due("UNKNOWN", SoapPole.UNKNOWN, UNKNOWN);
        due("OUTSIDE", SoapPole.OUTSIDE, OUTSIDE);
        due("NOT", SoapPole.NOT, NOT);
        due("FULL", SoapPole.FULL, FULL);
    }

    public static void main(String[] args) {
        constants();
        says("promise 1");
        promise1NewObject();
        says("promise 2");
        promise2Feed();
        says("promise 3");
        promise3PoleRight();
        promise3FaultsOfSigns();
        promise3FaultsOfNumbers();
        promise3FaultsOfOften();
        says("promise 4");
        promise4Fault();
        says("promise 5");
        promise5Told();
        says("promise 6");
        promise6Slip();
        says("promise 7");
        promise7Climber();
        says("promise 8");
        promise8Go();
        promise8GoRubsAndSmears();
        promise8GoSun();
        says("promise 9");
        promise9Soap();
        says("promise 10");
        promise10Hang();
        says("promise 11");
        promise11Begin();
        says("promise 12");
        promise12Drift();
        says("promise 13");
        promise13Order();
        promise13OrderSun();
        promise13OrderAskedAgain();
        says("promise 14");
        promise14ForOne();
        promise14ForOneSix();
        says("promise 15");
        promise15Rests();
        says("promise 16");
        promise16Tower();
        says("promise 17");
        promise17List();
        says("promise 18");
        promise18Tear();
        says("promise 19");
        promise19Enough();
        says("promise 20");
        promise20Judge();
        says("promise 21");
        promise21Sand();
        says("promise 22");
        promise22Seed();
        promise23And24Images();
        end();
    }
}
