/** Promises 5 to 12 and '2 A GO': a test for each sentence that names a boundary case. */
public final class GoEdgeTest extends Due {
    private static final String SIX = "climber 1 1 1;".repeat(6);

    /** One FOOT of this SLIP takes just so much of his ARMS. */
    private static void takes(int slip, int weight, int arms) {
        String pole = "pole 1 " + slip + ";climber " + weight + " ";
        due("go of " + pole + arms, of(pole + arms + " 0;").go(0), 1);
        if (arms > 1) {
            due("go of " + pole + (arms - 1), of(pole + (arms - 1) + " 0;").go(0), 0);
            due("climber of " + pole + (arms - 1), of(pole + (arms - 1) + " 0;").climber(0, 3), 0);
        }
    }

    /** What one GO over so many FEET of this SLIP leaves of it. */
    private static void leaves(int slip, int rubs, int... want) {
        SoapPole x = of("pole " + want.length + " " + slip + ";climber 1 999 " + rubs + ";");
        due("go(0)", x.go(0), want.length);
        for (int i = 0; i < want.length; i++) {
            due("slip(" + i + ") of " + slip + " rubbed by " + rubs, x.slip(i), want[i]);
        }
    }

    // ---- promise 5: told

    private static void toldOf0To10() {
        says("promise 5, 0 FEET .. 10 SLIP of all FEET together: OUTSIDE");
        SoapPole x = Twins.had();
        toldAll(x, 4, 3, 50, 3, 3, 2, 13, 5, 2, 3, x.slip(0) + x.slip(1) + x.slip(2) + x.slip(3));
        for (SoapPole y : new SoapPole[] {x, new SoapPole()}) {
            due("told(-1)", y.told(-1), OUTSIDE);
            due("told(11)", y.told(11), OUTSIDE);
            far("told(far)", what -> y.told(what), OUTSIDE);
        }
    }

    private static void toldAtTheLeastAndTheMost() {
        says("promise 5, each at its least and its greatest");
        toldAll(new SoapPole(), 0, 0, 100, 1, 1, 0, 0, 0, NONE, 0, 0);
        SoapPole x = of("pole 30 99;" + SIX + "ham 999 99;sun 20 9;");
        for (int i = 0; i < 12; i++) {
            x.list(5, 30);
        }
        feedAll(x, " ".repeat(400));
        goes(x, 0, 2);
        toldAll(x, 30, 6, 999, 99, 20, 9, 400, 2, NONE, 12, 2970);
        x = of("pole 1 0;climber 1 1 0;ham 0 0;sun 1 0;");
        x.go(0);
        toldAll(x, 1, 1, 0, 0, 1, 0, 0, 1, 0, 0, 0);
        x = of("pole 1 0;" + SIX);
        x.go(5);
        due("told(8)", x.told(8), 5);
    }

    // ---- promise 6: slip

    private static void slipOfAFoot() {
        says("promise 6, SLIP of a FOOT (the lowest is 0): UNKNOWN");
        SoapPole x = of("pole 30 5;foot 0 1;foot 29 9;");
        due("slip(0)", x.slip(0), 1);
        due("slip(29)", x.slip(29), 9);
        due("slip(30)", x.slip(30), UNKNOWN);
        due("slip(-1)", x.slip(-1), UNKNOWN);
        slips(of("pole 1 7;"), 7, UNKNOWN);
        due("slip(0) of no FEET", new SoapPole().slip(0), UNKNOWN);
        far("slip(far)", i -> x.slip(i), UNKNOWN);
    }

    // ---- promise 7: climber

    private static void climberThatThereIs() {
        says("promise 7, of a CLIMBER: UNKNOWN");
        SoapPole x = of("pole 3 5;climber 1 2 3;" + SIX.substring(28) + "climber 7 8 9;");
        due("climber(0, 0)", x.climber(0, 0), 1);
        due("climber(5, 0)", x.climber(5, 0), 7);
        due("climber(6, 0)", x.climber(6, 0), UNKNOWN);
        due("climber(-1, 0)", x.climber(-1, 0), UNKNOWN);
        due("climber(1, 0)", of("pole 3 5;climber 1 2 3;").climber(1, 0), UNKNOWN);
        due("climber(0, 0) of none", Twins.bare().climber(0, 0), UNKNOWN);
        due("climber(0, 3) of no FEET", new SoapPole().climber(0, 3), UNKNOWN);
        far("climber(far, 0)", c -> x.climber(c, 0), UNKNOWN);
    }

    private static void climberAskedFor0To3() {
        says("promise 7, 0 W, 1 A, 2 R, 3 how FAR he comes now: OUTSIDE");
        SoapPole x = of("pole 3 5;climber 50 17 4;");
        due("climber(0, 0)", x.climber(0, 0), 50);
        due("climber(0, 1)", x.climber(0, 1), 17);
        due("climber(0, 2)", x.climber(0, 2), 4);
        due("climber(0, 3)", x.climber(0, 3), 2);
        due("climber(0, 4)", x.climber(0, 4), OUTSIDE);
        due("climber(0, -1)", x.climber(0, -1), OUTSIDE);
        far("climber(0, far)", what -> x.climber(0, what), OUTSIDE);
        due("climber(1, 4): the first of two", x.climber(1, 4), UNKNOWN);
    }

    private static void climberComesNow() {
        says("promise 7, how FAR he comes now: from none to all FEET, by the SLIP that there is");
        due("climber(0, 3)", of("pole 30 99;climber 99 196 0;").climber(0, 3), 0);
        due("climber(0, 3)", of("pole 30 0;climber 99 30 0;").climber(0, 3), 30);
        SoapPole x = of("pole 3 5;climber 50 17 4;");
        due("climber(0, 3)", x.climber(0, 3), 2);
        x.go(0);
        // 8 off, 2 smeared: 2 2 5.
        due("climber(0, 3) behind a GO", x.climber(0, 3), 3);
        x.soap(0, 2, 50);
        due("climber(0, 3) behind NEW SOAP", x.climber(0, 3), 0);
        due("told(7)", x.told(7), 1);
    }

    // ---- promise 8, 2 A GO

    private static void goOfAClimberThatThereIs() {
        says("promise 8, UNKNOWN (ahead of NOT: no FEET, for then there are no CLIMBERS)");
        SoapPole x = of("pole 3 0;" + SIX);
        due("go(5)", x.go(5), 1);
        due("go(6)", x.go(6), UNKNOWN);
        due("go(-1)", x.go(-1), UNKNOWN);
        due("go(0) of none", Twins.bare().go(0), UNKNOWN);
        due("go(0) of no FEET", new SoapPole().go(0), UNKNOWN);
        far("go(far)", c -> x.go(c), UNKNOWN);
        due("told(7)", x.told(7), 1);
    }

    private static void goTakesSlipTimesWeight() {
        says("2 A GO: it takes SLIP times W / 50 (cut) and 1 of ARMS; if he has fewer left, he SLIDES");
        takes(0, 1, 1);
        takes(0, 99, 1);
        takes(49, 1, 1);
        takes(50, 1, 2);
        takes(99, 1, 2);
        takes(1, 49, 1);
        takes(1, 50, 2);
        takes(1, 99, 2);
        takes(10, 49, 10);
        takes(10, 50, 11);
        takes(10, 54, 11);
        takes(10, 55, 12);
        takes(99, 50, 100);
        takes(99, 99, 197);
    }

    private static void goFootByFootWithWhatIsLeft() {
        says("2 A GO: FOOT by FOOT from the lowest on; the FOOT that he did not get over is how FAR he comes");
        String pole = "pole 3 0;foot 0 4;foot 1 9;foot 2 1;climber 50 ";
        // They take 5, 10, 2.
        due("go of 4", of(pole + "4 0;").go(0), 0);
        due("go of 5", of(pole + "5 0;").go(0), 1);
        due("go of 14", of(pole + "14 0;").go(0), 1);
        due("go of 15", of(pole + "15 0;").go(0), 2);
        due("go of 16", of(pole + "16 0;").go(0), 2);
        due("go of 17", of(pole + "17 0;").go(0), 3);
        due("go of 999", of(pole + "999 0;").go(0), 3);
        due("go of 999 over 30", of("pole 30 49;climber 33 990 0;").go(0), 30);
        due("go of 989 over 30", of("pole 30 49;climber 33 989 0;").go(0), 29);
    }

    private static void goWithAllHisArmsEachTime() {
        says("2 A GO of a CLIMBER (with all his ARMS)");
        SoapPole x = of("pole 2 10;climber 50 22 0;climber 50 21 0;");
        due("go(0)", x.go(0), 2);
        due("go(0) again", x.go(0), 2);
        due("go(1)", x.go(1), 1);
        due("go(1) again", x.go(1), 1);
        due("climber(0, 1)", x.climber(0, 1), 22);
    }

    private static void goRubsAllIfItHasLess() {
        says("2 A GO: R of its SLIP is off (all, if it has less)");
        leaves(0, 3, 0);
        leaves(1, 3, 0);
        leaves(2, 3, 0);
        leaves(3, 3, 0);
        leaves(4, 3, 1);
        leaves(99, 3, 96);
        leaves(99, 0, 99);
        leaves(0, 0, 0);
        // A quarter of 20, of 19 is smeared on again.
        leaves(20, 20, 5);
        leaves(19, 20, 4);
        leaves(21, 20, 6);
        leaves(99, 20, 84);
    }

    private static void goSmearsAQuarterCut() {
        says("2 A GO: a quarter (cut) of all that he rubbed off in this GO is SMEARED");
        leaves(50, 1, 49);
        leaves(50, 3, 47);
        leaves(50, 4, 47);
        leaves(50, 7, 44);
        leaves(50, 8, 44);
        // Of all together, not of each: 1 and 1 and 1 and 1.
        leaves(50, 1, 50, 49, 49, 49);
        leaves(50, 1, 49, 49, 49);
        // In this GO: what an earlier one rubbed off is not counted again.
        SoapPole x = of("pole 2 50;climber 1 999 1;");
        goes(x, 0, 2);
        slips(x, 48, 48);
        // Of what was off, not of R: 2 of 20.
        x = of("pole 2 1;climber 1 999 20;");
        x.go(0);
        slips(x, 0, 0);
    }

    private static void goSmearsRoundAndRound() {
        says("2 A GO: one by one on FEET 0, 1, .. of those he got over, round and round");
        leaves(50, 7, 45, 45, 44);
        leaves(50, 8, 44, 44);
        leaves(50, 6, 46, 45);
        leaves(50, 4, 47, 47, 47);
        leaves(50, 3, 48, 48, 47);
        leaves(50, 20, 35, 35, 35, 35, 35);
        leaves(50, 2, 49, 49, 48, 48);
        // Also on a FOOT of which nothing was off: 0 20 20, 10 smeared on it as on the others.
        SoapPole x = of("pole 3 30;foot 0 0;climber 1 999 20;");
        x.go(0);
        slips(x, 4, 13, 13);
    }

    private static void goSmearsOnlyThoseHeGotOver() {
        says("2 A GO: SMEARED on those he got over, not on the FOOT that he did not get over");
        SoapPole x = of("pole 4 10;foot 2 99;climber 50 30 8;");
        due("go(0)", x.go(0), 2);
        slips(x, 4, 4, 99, 10);
        // None got over: nothing is off, nothing smeared.
        x = of("pole 4 10;climber 50 10 8;");
        due("go(0)", x.go(0), 0);
        slips(x, 10, 10, 10, 10);
        // One got over: all of it on this one.
        x = of("pole 4 10;climber 50 21 8;");
        due("go(0)", x.go(0), 1);
        slips(x, 4, 10, 10, 10);
    }

    private static void goSmears99AtMost() {
        says("2 A GO: 99 at most on each FOOT (as many as that again on FOOT 0, never more)");
        leaves(99, 1, 99, 98, 98, 98);
        leaves(99, 1, 98);
        leaves(98, 1, 98, 97, 97, 97);
        leaves(99, 0, 99, 99, 99, 99);
    }

    private static void goOverTheLastFootHasTheHam() {
        says("2 A GO: who gets over the last FOOT has the HAM (FAR is F then), if it is still there");
        SoapPole x = of("pole 2 10;climber 50 21 0;climber 50 22 0;climber 50 999 0;");
        due("go(0)", x.go(0), 1);
        due("told(8)", x.told(8), NONE);
        due("go(1)", x.go(1), 2);
        due("told(8)", x.told(8), 1);
        due("go(2)", x.go(2), 2);
        due("told(8), not there any more", x.told(8), 1);
        x.hang();
        x.go(2);
        due("told(8), there again", x.told(8), 2);
        x = of("pole 2 10;climber 50 999 0;climber 50 999 0;");
        x.go(0);
        x.go(1);
        due("told(8), of CLIMBER 0", x.told(8), 0);
    }

    private static void goSlidesWithTheHamToo() {
        says("2 A GO: who has the HAM SLIDES, too");
        SoapPole x = of("pole 2 10;climber 50 22 4;");
        due("go(0)", x.go(0), 2);
        // 8 off, 2 smeared.
        slips(x, 7, 7);
        due("told(8)", x.told(8), 0);
    }

    private static void goesAreCounted() {
        says("2 A GO: GOES are counted (all of them: how FAR they come is the same)");
        SoapPole x = of("pole 2 10;climber 50 1 0;climber 50 22 0;");
        due("told(7)", x.told(7), 0);
        x.go(0);
        due("told(7)", x.told(7), 1);
        x.go(1);
        due("told(7)", x.told(7), 2);
        x.go(1);
        due("told(7)", x.told(7), 3);
        x.soap(0, 1, 1);
        x.hang();
        x.climber(0, 3);
        x.go(7);
        due("told(7) behind what is no GO", x.told(7), 3);
    }

    private static void sunBehindEachNth() {
        says("2 A GO: behind each N-th one the SUN is on it; 1 THE POLE, every N GOES, 1 .. 20");
        for (int n : new int[] {1, 2, 3, 19, 20}) {
            SoapPole x = of("pole 30 0;climber 99 1 0;sun " + n + " 1;");
            goes(x, 0, n - 1);
            due("told(10) behind N - 1", x.told(10), 0);
            x.go(0);
            due("told(10) behind N", x.told(10), 30);
            goes(x, 0, n - 1);
            due("told(10) behind 2 N - 1", x.told(10), 30);
            x.go(0);
            due("told(10) behind 2 N", x.told(10), 60);
        }
    }

    private static void sunMakes99AtMost() {
        says("2 A GO, the SUN: S more, 99 at most on each FOOT");
        SoapPole x = of("pole 6 0;foot 1 89;foot 2 90;foot 3 91;foot 4 98;foot 5 99;climber 99 1 0;sun 1 9;");
        x.go(0);
        slips(x, 9, 98, 99, 99, 99, 99);
        x.go(0);
        slips(x, 18, 99, 99, 99, 99, 99);
        x = of("pole 2 99;foot 0 98;climber 99 1 0;sun 1 0;");
        x.go(0);
        slips(x, 98, 99);
    }

    private static void sunOnAllFeetBehindTheGo() {
        says("1 THE POLE, the SUN: all FEET have S more, behind the GO");
        // The GO itself takes 1 a FOOT; the SUN is on FEET that he did not get over, and where the HAM is had.
        SoapPole x = of("pole 3 0;climber 50 2 0;climber 50 33 5;sun 1 9;");
        due("go(0)", x.go(0), 2);
        slips(x, 9, 9, 9);
        // 10 a FOOT: 15 off, 3 smeared, then 9 more.
        due("go(1)", x.go(1), 3);
        slips(x, 14, 14, 14);
        due("told(8)", x.told(8), 1);
        due("told(10)", x.told(10), 42);
    }

    private static void sunCountsFromTheLatestBegin() {
        says("2 A GO: behind each N-th one; the GOES begin again with begin() and pole(), goBack() brings back the IMAGE's");
        SoapPole x = of("pole 1 0;climber 99 1 0;sun 3 5;");
        goes(x, 0, 2);
        x.keep(0);
        x.begin();
        x.go(0);
        slips(x, 0);
        goes(x, 0, 2);
        slips(x, 5);
        x.goBack(0);
        slips(x, 0);
        x.go(0);
        slips(x, 5);
        x.go(0);
        tell(x, "pole 1 0;climber 99 1 0;sun 3 5;");
        goes(x, 0, 2);
        slips(x, 0);
        x.go(0);
        slips(x, 5);
    }

    // ---- promise 9: soap

    private static void soapOf1To99() {
        says("promise 9, n more (1 .. 99): OUTSIDE");
        SoapPole x = of("pole 3 0;");
        due("soap(0, 0, 1)", x.soap(0, 0, 1), 1);
        due("soap(1, 1, 99)", x.soap(1, 1, 99), 99);
        due("soap(2, 2, 0)", x.soap(2, 2, 0), OUTSIDE);
        due("soap(2, 2, 100)", x.soap(2, 2, 100), OUTSIDE);
        due("soap(2, 2, -1)", x.soap(2, 2, -1), OUTSIDE);
        far("soap(2, 2, far)", n -> x.soap(2, 2, n), OUTSIDE);
        slips(x, 1, 99, 0);
    }

    private static void soapMakes99AtMost() {
        says("promise 9, 99 at most: SLIP of these together");
        SoapPole x = of("pole 4 49;foot 1 50;foot 2 51;foot 3 99;");
        due("soap(0, 3, 49)", x.soap(0, 3, 49), 98 + 99 + 99 + 99);
        slips(x, 98, 99, 99, 99);
        due("soap(0, 3, 1)", x.soap(0, 3, 1), 4 * 99);
        due("soap(0, 3, 99)", x.soap(0, 3, 99), 4 * 99);
        due("soap(0, 29, 99)", of("pole 30 0;").soap(0, 29, 99), 2970);
    }

    private static void soapFromOneToAnother() {
        says("promise 9, on FEET from a to b (both of them; b not below a: OUTSIDE; a and b may be alike)");
        SoapPole x = of("pole 5 10;");
        due("soap(1, 3, 2)", x.soap(1, 3, 2), 36);
        slips(x, 10, 12, 12, 12, 10);
        due("soap(0, 4, 1)", x.soap(0, 4, 1), 61);
        due("soap(4, 4, 3)", x.soap(4, 4, 3), 14);
        due("soap(0, 0, 3)", x.soap(0, 0, 3), 14);
        due("soap(2, 3, 1)", x.soap(2, 3, 1), 28);
        due("soap(3, 2, 1)", x.soap(3, 2, 1), OUTSIDE);
        due("soap(4, 0, 1)", x.soap(4, 0, 1), OUTSIDE);
        slips(x, 14, 13, 14, 14, 14);
    }

    private static void soapOnFeetThatThereAre() {
        says("promise 9, UNKNOWN (ahead of OUTSIDE)");
        SoapPole x = of("pole 5 10;");
        due("soap(0, 5, 1)", x.soap(0, 5, 1), UNKNOWN);
        due("soap(5, 5, 1)", x.soap(5, 5, 1), UNKNOWN);
        due("soap(-1, 4, 1)", x.soap(-1, 4, 1), UNKNOWN);
        due("soap(-1, -1, 1)", x.soap(-1, -1, 1), UNKNOWN);
        due("soap(5, 4, 1): b below a, too", x.soap(5, 4, 1), UNKNOWN);
        due("soap(0, -1, 1): b below a, too", x.soap(0, -1, 1), UNKNOWN);
        due("soap(0, 5, 0): n, too", x.soap(0, 5, 0), UNKNOWN);
        due("soap(-1, 0, 100): n, too", x.soap(-1, 0, 100), UNKNOWN);
        due("soap(0, 0, 1) of no FEET", new SoapPole().soap(0, 0, 1), UNKNOWN);
        far("soap(0, far, 1)", i -> x.soap(0, i, 1), UNKNOWN);
        far("soap(far, 4, 1)", i -> x.soap(i, 4, 1), UNKNOWN);
        due("told(10)", x.told(10), 50);
    }

    // ---- promise 10: hang

    private static void hangOnlyIfItIsGone() {
        says("promise 10, a new HAM, if it is gone: who had it (NONE)");
        SoapPole x = of("pole 1 0;" + SIX);
        due("hang() of a new pole", x.hang(), NONE);
        x.go(0);
        due("hang() behind CLIMBER 0", x.hang(), 0);
        due("told(8)", x.told(8), NONE);
        due("hang() again", x.hang(), NONE);
        x.go(5);
        due("hang() behind CLIMBER 5", x.hang(), 5);
        due("told(7)", x.told(7), 2);
        due("hang() of no FEET", new SoapPole().hang(), NONE);
    }

    // ---- promise 11: begin

    private static void beginAsItWasTold() {
        says("promise 11, all as it was told (THE LIST, IMAGES, THE SEED stay): GOES that there were");
        SoapPole x = Twins.had();
        int seed = x.seed(0);
        x.seed(seed);
        due("begin()", x.begin(), 5);
        toldAll(x, 4, 3, 50, 3, 3, 2, 13, 0, NONE, 3, 130);
        slips(x, 30, 30, 30, 40);
        due("begin() again", x.begin(), 0);
        due("seed(0)", x.seed(seed), seed);
        due("tear()", x.tear(), 3);
        due("goBack(0)", x.goBack(0), 1);
        due("told(7)", x.told(7), 1);
        due("goBack(1)", x.goBack(1), 1);
        due("told(7)", x.told(7), 3);
        due("begin() of no FEET", new SoapPole().begin(), 0);
    }

    // ---- promise 12: drift

    private static void driftOf1To99() {
        says("promise 12, n 1 .. 99: OUTSIDE");
        SoapPole x = of("pole 1 99;climber 99 1 0;");
        due("drift(1)", x.drift(1), NONE);
        due("told(7)", x.told(7), 1);
        due("drift(99)", x.drift(99), NONE);
        due("told(7)", x.told(7), 100);
        due("drift(0)", x.drift(0), OUTSIDE);
        due("drift(100)", x.drift(100), OUTSIDE);
        due("drift(-1)", x.drift(-1), OUTSIDE);
        far("drift(far)", n -> x.drift(n), OUTSIDE);
        due("told(7)", x.told(7), 100);
    }

    private static void driftNot() {
        says("promise 12, NOT: no FEET, no CLIMBERS (behind OUTSIDE)");
        due("drift(1) of no FEET", new SoapPole().drift(1), NOT);
        due("drift(99) of no FEET", new SoapPole().drift(99), NOT);
        due("drift(0) of no FEET", new SoapPole().drift(0), OUTSIDE);
        due("drift(100) of no FEET", new SoapPole().drift(100), OUTSIDE);
        due("drift(1) of no CLIMBERS", Twins.bare().drift(1), NOT);
        due("drift(100) of no CLIMBERS", Twins.bare().drift(100), OUTSIDE);
        SoapPole x = of("pole 1 99;climber 99 1 0;");
        x.pole();
        due("drift(1) behind an empty text", x.drift(1), NOT);
        due("seed(0): no DRAW", x.seed(0), 0);
    }

    private static void driftTillTheHamIsHad() {
        says("promise 12, GOES BY DRAWS, till the HAM is had");
        // Of two the DRAWS from 0 on are 0, 0, 0, 1: 12345, 1406932606, 654583775, 1449466924 / 65536.
        SoapPole x = of("pole 1 99;climber 99 1 0;climber 99 197 0;");
        due("drift(99)", x.drift(99), 1);
        due("told(7)", x.told(7), 4);
        due("seed(0)", x.seed(0), 1449466924);
        due("told(8)", x.told(8), 1);
        x = of("pole 1 99;climber 99 1 0;climber 99 197 0;");
        due("drift(3)", x.drift(3), NONE);
        due("drift(1)", x.drift(1), 1);
        // By the last one of n it is had, too.
        x = of("pole 1 99;climber 99 1 0;climber 99 197 0;");
        due("drift(4)", x.drift(4), 1);
        due("told(7)", x.told(7), 4);
    }

    private static void driftNoneIfItIsGone() {
        says("3, BY DRAWS: no GOES, if the HAM is gone: who has it");
        SoapPole x = of("pole 1 99;climber 99 197 0;climber 99 1 0;");
        x.go(0);
        due("drift(99)", x.drift(99), 0);
        due("told(7)", x.told(7), 1);
        due("seed(0): no DRAW", x.seed(0), 0);
        x.hang();
        due("drift(1)", x.drift(1), 0);
        due("told(7)", x.told(7), 2);
    }

    private static void driftDraws() {
        says("3, BY DRAWS: THE SEED becomes it times 1103515245 and 12345, left over by 2 to the 31");
        SoapPole x = of("pole 1 99;climber 99 1 0;");
        int[][] steps = {{0, 12345}, {1, 1103527590}, {12345, 1406932606}, {Integer.MAX_VALUE, 1043980748},
            {1073741824, 1073754169}, {2147450880, 1489612857}};
        for (int[] step : steps) {
            x.seed(step[0]);
            x.drift(1);
            due("seed behind a DRAW from " + step[0], x.seed(0), step[1]);
        }
        says("3, BY DRAWS: the DRAW of n is THE SEED / 65536, left over by n");
        // Behind one DRAW from MAX THE SEED is 1043980748: 15929 of 65536 each, left over by 1 .. 6: 0 1 2 1 4 5.
        int[] drawn = {0, 1, 2, 1, 4, 5};
        for (int n = 1; n <= 6; n++) {
            SoapPole y = of("pole 1 0;" + "climber 1 1 0;".repeat(n));
            y.seed(Integer.MAX_VALUE);
            due("drift(1) of " + n, y.drift(1), drawn[n - 1]);
        }
    }

    private static void driftGoesAsOthersDo() {
        says("promise 12: its GOES are GOES, with the SUN behind, and nobody has SAND on him");
        SoapPole x = of("pole 2 20;climber 50 41 8;sun 2 3;");
        due("drift(1)", x.drift(1), NONE);
        // 21 and 21 are too much for 41: he comes 1 FOOT far, 8 off, 2 smeared.
        slips(x, 14, 20);
        due("drift(1)", x.drift(1), 0);
        // 15 and 21; 16 off, 4 smeared, then the SUN.
        slips(x, 11, 17);
        due("told(7)", x.told(7), 2);
    }

    private static void testLooks() {
        toldOf0To10();
        toldAtTheLeastAndTheMost();
        slipOfAFoot();
        climberThatThereIs();
        climberAskedFor0To3();
        climberComesNow();
    }

    private static void testGo() {
        goOfAClimberThatThereIs();
        goTakesSlipTimesWeight();
        goFootByFootWithWhatIsLeft();
        goWithAllHisArmsEachTime();
        goRubsAllIfItHasLess();
        goSmearsAQuarterCut();
        goSmearsRoundAndRound();
        goSmearsOnlyThoseHeGotOver();
        goSmears99AtMost();
        goOverTheLastFootHasTheHam();
        goSlidesWithTheHamToo();
        goesAreCounted();
        sunBehindEachNth();
        sunMakes99AtMost();
        sunOnAllFeetBehindTheGo();
        sunCountsFromTheLatestBegin();
    }

    private static void testRest() {
        soapOf1To99();
        soapMakes99AtMost();
        soapFromOneToAnother();
        soapOnFeetThatThereAre();
        hangOnlyIfItIsGone();
        beginAsItWasTold();
        driftOf1To99();
        driftNot();
        driftTillTheHamIsHad();
        driftNoneIfItIsGone();
        driftDraws();
        driftGoesAsOthersDo();
    }

    public static void main(String[] args) {
        testLooks();
        testGo();
        testRest();
        end();
    }
}
