/** Promises 17 to 21, 'THE LIST' and 'SOAP': a test for each sentence that names a boundary case. */
public final class ListEdgeTest extends Due {
    /** Of each CLIMBER the first FOOT takes 3, with SAND 1: he has 1. */
    private static final String WEAK = "pole 1 2;" + "climber 50 1 0;".repeat(6);

    private static SoapPole listed(String pole, int... goes) {
        SoapPole x = of(pole);
        for (int i = 0; i + 1 < goes.length; i += 2) {
            due("list(" + goes[i] + ", " + goes[i + 1] + ")", x.list(goes[i], goes[i + 1]), i / 2 + 1);
        }
        return x;
    }

    // ---- promise 17: list

    private static void listTwelveAtMost() {
        says("promise 17, FULL (12): how many; 3, THE LIST (12 at most)");
        SoapPole x = of(WEAK);
        for (int i = 1; i <= 12; i++) {
            due("told(9)", x.told(9), i - 1);
            due("list(5, 30)", x.list(5, 30), i);
        }
        due("list(0, 0), the 13th", x.list(0, 0), FULL);
        due("told(9)", x.told(9), 12);
        due("tear()", x.tear(), 12);
        due("list(0, 0), the first again", x.list(0, 0), 1);
    }

    private static void listHowFar0To30() {
        says("promise 17, how FAR it came (0 .. 30, more than there are FEET, too): OUTSIDE");
        SoapPole x = of(WEAK);
        due("list(0, 0)", x.list(0, 0), 1);
        due("list(0, 30)", x.list(0, 30), 2);
        due("list(0, -1)", x.list(0, -1), OUTSIDE);
        due("list(0, 31)", x.list(0, 31), OUTSIDE);
        far("list(0, far)", far -> x.list(0, far), OUTSIDE);
        due("told(9)", x.told(9), 2);
    }

    private static void listOfOneThatThereIs() {
        says("promise 17, UNKNOWN");
        SoapPole x = of(WEAK);
        due("list(5, 0)", x.list(5, 0), 1);
        due("list(6, 0)", x.list(6, 0), UNKNOWN);
        due("list(-1, 0)", x.list(-1, 0), UNKNOWN);
        far("list(far, 0)", c -> x.list(c, 0), UNKNOWN);
        due("list(1, 0) of one", of("pole 1 2;climber 1 1 1;").list(1, 0), UNKNOWN);
        due("list(0, 0) of no CLIMBERS", Twins.bare().list(0, 0), UNKNOWN);
        due("list(0, 0) of no FEET", new SoapPole().list(0, 0), UNKNOWN);
        due("told(9)", x.told(9), 1);
    }

    private static void listRefusesTheFirstOfSeveral() {
        says("promise 17, UNKNOWN, OUTSIDE, FULL: of several the first");
        SoapPole x = Twins.full();
        due("list(2, 31), full", x.list(2, 31), UNKNOWN);
        due("list(2, 0), full", x.list(2, 0), UNKNOWN);
        due("list(0, 31), full", x.list(0, 31), OUTSIDE);
        due("list(0, 0), full", x.list(0, 0), FULL);
        due("list(6, -1)", of(WEAK).list(6, -1), UNKNOWN);
    }

    // ---- promise 18: tear

    private static void tearEmptiesIt() {
        says("promise 18, THE LIST is empty: how many GOES it had");
        SoapPole x = listed(WEAK, 0, 1, 1, 1);
        due("judge()", x.judge(), 0);
        due("tear()", x.tear(), 2);
        due("told(9)", x.told(9), 0);
        due("judge()", x.judge(), NONE);
        due("enough(0)", x.enough(0), NONE);
        due("tear() of an empty one", x.tear(), 0);
        due("tear() of no FEET", new SoapPole().tear(), 0);
        // Of those torn nothing is left behind a shorter one.
        due("list(0, 0)", x.list(0, 0), 1);
        due("judge()", x.judge(), NONE);
    }

    // ---- promise 19: enough

    private static void enoughForGo0To11() {
        says("promise 19, for GO k (0 .. 11): OUTSIDE; NONE: not so many, too");
        SoapPole x = of("pole 2 7;climber 50 60 4;");
        for (int k = 0; k < 12; k++) {
            due("enough(" + k + ") of no LIST", x.enough(k), NONE);
        }
        for (int i = 0; i < 11; i++) {
            x.list(0, 0);
        }
        due("enough(11) of 11", x.enough(11), NONE);
        // Each GO leaves 3 less on FOOT 0: 2 S + 2 less 3 k is 60 at most, but not one GO sooner.
        due("enough(10) of 11", x.enough(10), 43);
        x.list(0, 0);
        due("enough(0) of 12", x.enough(0), 0);
        due("enough(1) of 12", x.enough(1), 30);
        due("enough(2) of 12", x.enough(2), 31);
        due("enough(11) of 12", x.enough(11), 45);
        due("enough(12)", x.enough(12), OUTSIDE);
        due("enough(-1)", x.enough(-1), OUTSIDE);
        far("enough(far)", k -> x.enough(k), OUTSIDE);
        due("enough(0) of no FEET", new SoapPole().enough(0), NONE);
        due("enough(12) of no FEET", new SoapPole().enough(12), OUTSIDE);
    }

    private static void enoughSlip0To99() {
        says("3, SOAP: the least SLIP (0 .. 99) in place of that on each FOOT; NONE");
        // c1 has it by the second GO if c0 (A 99) has not: at 99 just so, at 100 never.
        due("enough(1), 99", listed("pole 1 0;climber 50 99 0;climber 50 100 0;", 0, 0, 1, 0).enough(1), 99);
        due("enough(1), 100", listed("pole 1 0;climber 50 100 0;climber 50 101 0;", 0, 0, 1, 0).enough(1), NONE);
        due("enough(0), 0", listed("pole 30 99;climber 99 30 0;", 0, 0).enough(0), 0);
        due("enough(0), not by 0 either", listed("pole 30 99;climber 99 29 0;", 0, 0).enough(0), NONE);
        // FOOT 0 as told would be too much: it is not as told.
        due("enough(1), 1", listed("pole 2 50;foot 0 99;climber 50 2 0;climber 50 9 0;", 0, 0, 1, 0).enough(1), 1);
    }

    private static void enoughAtJustThatGo() {
        says("3, SOAP: the HAM is had at just GO k of THE LIST (0 the first): not sooner, not later");
        SoapPole x = listed("pole 1 0;climber 50 10 0;climber 50 5 0;climber 50 20 0;", 0, 0, 1, 0, 2, 0);
        due("enough(0)", x.enough(0), 0);
        // Whatever c1 gets over, c0 has got over ahead of him.
        due("enough(1)", x.enough(1), NONE);
        due("enough(2)", x.enough(2), 10);
        due("enough(3)", x.enough(3), NONE);
        says("3, SOAP: how FAR THE LIST tells is nothing to it");
        due("enough(2)", listed("pole 1 0;climber 50 10 0;climber 50 20 0;", 0, 30, 0, 7, 1, 0).enough(2), 10);
    }

    private static void enoughWithTheSunFromNow() {
        says("3, SOAP: TRIED from now (the SUN, too; GOES go on from those that there were)");
        String pole = "pole 1 0;climber 50 30 0;climber 50 39 0;sun 2 9;";
        SoapPole x = listed(pole, 0, 0, 1, 0);
        due("enough(1), the SUN behind both", x.enough(1), 30);
        x.go(0);
        x.hang();
        due("enough(1), the SUN behind the first", x.enough(1), NONE);
        x = listed("pole 1 0;climber 50 30 0;climber 50 40 0;sun 2 9;", 0, 0, 1, 0);
        x.go(0);
        x.hang();
        due("enough(1), 30 and 9 more", x.enough(1), 30);
    }

    // ---- promise 20: judge

    private static void judgeTheFirstOtherwise() {
        says("3, WRONG: the first GO of it that, going from now, is otherwise; NONE");
        due("judge() of no LIST", of(WEAK).judge(), NONE);
        due("judge() of no FEET", new SoapPole().judge(), NONE);
        due("judge(), right", listed(WEAK, 0, 0).judge(), NONE);
        due("judge(), the first wrong", listed(WEAK, 0, 1).judge(), 0);
        due("judge(), both wrong", listed(WEAK, 0, 1, 1, 1).judge(), 0);
        due("judge(), the second wrong", listed(WEAK, 0, 0, 1, 1).judge(), 1);
        SoapPole x = of(WEAK);
        for (int i = 0; i < 11; i++) {
            x.list(i % 6, 0);
        }
        x.list(0, 1);
        due("judge(), the twelfth wrong", x.judge(), 11);
        due("judge(), FAR above F", listed(WEAK, 0, 0, 0, 30).judge(), 1);
        due("judge(), F of 30", listed("pole 30 0;climber 1 30 0;climber 1 29 0;", 0, 30, 1, 29, 0, 30).judge(), NONE);
    }

    private static void judgeWithWhatIsRubbedOff() {
        says("3, THE LIST: going from now, one behind the other: what is rubbed off, the SUN");
        String pole = "pole 2 20;climber 50 41 8;";
        due("judge()", listed(pole, 0, 1, 0, 2).judge(), NONE);
        due("judge()", listed(pole, 0, 1, 0, 1).judge(), 1);
        // 14 and 9, 20 and 9 behind the SUN are 24 and 30.
        due("judge() with the SUN", listed(pole + "sun 1 9;", 0, 1, 0, 1).judge(), NONE);
        SoapPole x = listed(pole, 0, 2);
        due("judge()", x.judge(), 0);
        x.go(0);
        due("judge() behind a GO", x.judge(), NONE);
    }

    // ---- promise 21: sand

    private static void sandOfEachAlone() {
        says("3, SAND: CLIMBERS (a SET: bit k for k; also such as are not in it) of whom each alone makes THE LIST so");
        due("sand(), CLIMBER 0", listed(WEAK, 0, 1).sand(), 1);
        due("sand(), CLIMBER 5", listed(WEAK, 5, 1).sand(), 32);
        due("sand(), all but 0", listed(WEAK, 0, 0).sand(), 62);
        due("sand(), all but 5", listed(WEAK, 5, 0).sand(), 31);
        due("sand(), 2 and who is not in it", listed("pole 1 0;climber 1 1 0;climber 1 1 0;climber 1 9 0;", 2, 1).sand(), 7);
        due("sand() of no LIST", of(WEAK).sand(), 63);
        due("sand() of no CLIMBERS", Twins.bare().sand(), 0);
        due("sand() of no FEET", new SoapPole().sand(), 0);
        due("sand(), two needed", listed(WEAK, 0, 1, 5, 1).sand(), 0);
        due("sand(), nobody can", listed(WEAK, 0, 2).sand(), 0);
    }

    private static void sandInAllHisGoes() {
        says("3, SAND: having SAND on him in all his GOES, makes all of THE LIST come so");
        due("sand(), in both", listed(WEAK, 0, 1, 0, 1).sand(), 1);
        due("sand(), in one of two", listed(WEAK, 0, 1, 0, 0).sand(), 0);
        due("sand(), the first not", listed(WEAK, 0, 0, 0, 1).sand(), 0);
        due("sand(), 0 so, 1 otherwise", listed(WEAK, 0, 1, 1, 1).sand(), 0);
        due("sand(), 0 so, 1 without", listed(WEAK, 0, 1, 1, 0).sand(), 1);
        SoapPole x = of(WEAK);
        for (int i = 0; i < 11; i++) {
            x.list(3, 1);
        }
        x.list(4, 0);
        due("sand(), of twelve", x.sand(), 8);
        x.tear();
        for (int i = 0; i < 11; i++) {
            x.list(3, 1);
        }
        x.list(3, 0);
        due("sand(), all but the twelfth", x.sand(), 0);
    }

    /** One FOOT of this SLIP takes just so much of him who has SAND on him. */
    private static void half(int slip, int weight, int arms) {
        String pole = "pole 1 " + slip + ";climber " + weight + " ";
        due("sand() of " + pole + arms, listed(pole + arms + " 0;", 0, 1).sand(), 1);
        if (arms > 1) {
            due("sand() of " + pole + (arms - 1), listed(pole + (arms - 1) + " 0;", 0, 1).sand(), 0);
            due("sand() of " + pole + (arms - 1), listed(pole + (arms - 1) + " 0;", 0, 0).sand(), 1);
        }
    }

    private static void sandTakesHalfCut1AtLeast() {
        says("2 A GO, SAND on him: each FOOT takes half as much (cut, 1 at least)");
        half(0, 50, 1);
        half(1, 50, 1);
        half(2, 50, 1);
        half(3, 50, 2);
        half(4, 50, 2);
        half(5, 50, 3);
        half(98, 50, 49);
        half(99, 50, 50);
        half(99, 99, 98);
        half(49, 1, 1);
        // 1 at least: of two FEET that take 1 he gets over one with 1 of ARMS.
        due("sand()", listed("pole 2 0;climber 50 1 0;", 0, 1).sand(), 1);
        due("sand()", listed("pole 2 0;climber 50 1 0;", 0, 2).sand(), 0);
        // Of each FOOT by itself: 1 and 1 of 3 and 3, not 3 of 6.
        due("sand()", listed("pole 2 2;climber 50 2 0;", 0, 2).sand(), 1);
    }

    private static void sandRubsAndSmearsAsOthers() {
        says("2 A GO, SAND: it is ARMS alone of which it takes half");
        // c0 with SAND gets over FOOT 0, 8 off, 2 smeared: 14; then 15 is just enough for c1.
        due("sand()", listed("pole 1 20;climber 50 10 8;climber 50 15 0;", 0, 1, 1, 1).sand(), 1);
        due("sand()", listed("pole 1 20;climber 50 10 8;climber 50 14 0;", 0, 1, 1, 1).sand(), 0);
        due("sand()", listed("pole 1 20;climber 50 10 8;climber 50 14 0;", 0, 1, 1, 0).sand(), 1);
    }

    public static void main(String[] args) {
        listTwelveAtMost();
        listHowFar0To30();
        listOfOneThatThereIs();
        listRefusesTheFirstOfSeveral();
        tearEmptiesIt();
        enoughForGo0To11();
        enoughSlip0To99();
        enoughAtJustThatGo();
        enoughWithTheSunFromNow();
        judgeTheFirstOtherwise();
        judgeWithWhatIsRubbedOff();
        sandOfEachAlone();
        sandInAllHisGoes();
        sandTakesHalfCut1AtLeast();
        sandRubsAndSmearsAsOthers();
        end();
    }
}
