/** Promises 13 to 16 and '3 TRIED from now': a test for each sentence that names a boundary case. */
public final class TriedEdgeTest extends Due {
    /** FOOT 0 takes 41, FOOT 1 takes 21; each GO of c0 or c3 leaves 3 less on FOOT 0: c2, c3 need one of these. */
    private static final String HURDLE = "pole 2 40;foot 1 20;climber 50 50 4;climber 50 50 0;climber 50 60 0;climber 50 60 4;";
    /** One FOOT that takes 1. */
    private static final String EASY = "pole 1 0;";

    private static String six(int strong, int arms) {
        StringBuilder s = new StringBuilder("pole 2 99;foot 1 20;");
        for (int c = 0; c < 6; c++) {
            s.append(c == strong ? "climber 50 " + arms + " 0;" : "climber 50 100 4;");
        }
        return s.toString();
    }

    /** order(-1), order(-2), then all of the row and one more. */
    private static void ordered(SoapPole x, int goes, int who, int... row) {
        due("order(-1)", x.order(NONE), goes);
        due("order(-2)", x.order(-2), who);
        for (int i = 0; i < row.length; i++) {
            due("order(" + i + ")", x.order(i), row[i]);
        }
        due("order(" + row.length + ")", x.order(row.length), NONE);
    }

    /** forOne(c, -1), then all of the row and one more. */
    private static void rowFor(SoapPole x, int c, int... row) {
        due("forOne(" + c + ", -1)", x.forOne(c, NONE), row.length);
        for (int i = 0; i < row.length; i++) {
            due("forOne(" + c + ", " + i + ")", x.forOne(c, i), row[i]);
        }
        due("forOne(" + c + ", " + row.length + ")", x.forOne(c, row.length), NONE);
    }

    private static void noRowFor(SoapPole x, int c) {
        for (int i = -1; i < 7; i++) {
            due("forOne(" + c + ", " + i + ")", x.forOne(c, i), NONE);
        }
    }

    /** rests(-1), then the TURN of each CLIMBER. */
    private static void rested(SoapPole x, int rounds, int... turns) {
        due("rests(-1)", x.rests(NONE), rounds);
        for (int c = 0; c < turns.length; c++) {
            due("rests(" + c + ")", x.rests(c), turns[c]);
        }
        due("rests(" + turns.length + ")", x.rests(turns.length), UNKNOWN);
    }

    // ---- 3 TRIED

    private static void triedChangesNothing() {
        says("3, TRIED from now: nothing changes by it");
        Twins.unchanged("order(-1)", Twins::rich, x -> x.order(NONE), of2(x -> x.order(NONE)));
        Twins.unchanged("order(-2)", Twins::rich, x -> x.order(-2), of2(x -> x.order(-2)));
        Twins.unchanged("forOne(0, -1)", Twins::rich, x -> x.forOne(0, NONE), of2(x -> x.forOne(0, NONE)));
        Twins.unchanged("forOne(1, 0)", Twins::rich, x -> x.forOne(1, 0), of2(x -> x.forOne(1, 0)));
        Twins.unchanged("rests(-1)", Twins::rich, x -> x.rests(NONE), of2(x -> x.rests(NONE)));
        Twins.unchanged("rests(2)", Twins::rich, x -> x.rests(2), of2(x -> x.rests(2)));
        Twins.unchanged("tower(2, 0)", Twins::rich, x -> x.tower(2, 0), of2(x -> x.tower(2, 0)));
        Twins.unchanged("climber(2, 3)", Twins::rich, x -> x.climber(2, 3), of2(x -> x.climber(2, 3)));
        Twins.unchanged("enough(2)", Twins::rich, x -> x.enough(2), of2(x -> x.enough(2)));
        Twins.unchanged("judge()", Twins::rich, x -> x.judge(), of2(x -> x.judge()));
        Twins.unchanged("sand()", Twins::rich, x -> x.sand(), of2(x -> x.sand()));
        // Asked twice, and between other questions, the answers are the same.
        SoapPole x = Twins.rich();
        due("all asked twice", look(x).equals(look(x)) ? 1 : 0, 1);
    }

    private static int of2(java.util.function.ToIntFunction<SoapPole> call) {
        return call.applyAsInt(Twins.rich());
    }

    private static String look(SoapPole x) {
        StringBuilder s = new StringBuilder();
        for (int c = 0; c < 3; c++) {
            s.append(x.order(c)).append(' ').append(x.rests(c)).append(' ').append(x.forOne(c, NONE)).append(' ')
                .append(x.enough(c)).append(' ').append(x.judge()).append(' ').append(x.sand()).append(' ');
        }
        return s.toString();
    }

    private static void triedIfTheHamIsGone() {
        says("3, TRIED: if the HAM is gone, nobody gets it: NONE (RESTS: all never, 0 rounds)");
        SoapPole x = of(HURDLE);
        ordered(x, 2, 2, 0, 2, 1, 3);
        rowFor(x, 2, 0, 2);
        x.go(0);
        x.go(2);
        due("told(8)", x.told(8), 2);
        x.list(2, 2);
        ordered(x, NONE, NONE, NONE, NONE, NONE, NONE);
        for (int c = 0; c < 4; c++) {
            noRowFor(x, c);
        }
        rested(x, 0, NONE, NONE, NONE, NONE);
        due("enough(0)", x.enough(0), NONE);
        due("forOne(4, -1)", x.forOne(4, NONE), UNKNOWN);
        due("rests(4)", x.rests(4), UNKNOWN);
        due("enough(12)", x.enough(12), OUTSIDE);
        says("3, TRIED from now: a new HAM can be had again");
        x.hang();
        ordered(x, 1, 2, 2, 0, 1, 3);
        rested(x, NONE, NONE, NONE, NONE, NONE);
        due("enough(0)", x.enough(0), 0);
    }

    private static void triedFromNow() {
        says("3, TRIED from now: each time anew, when SLIP, GOES or the HAM are others");
        // All FEET of the longest pole are others by one NEW SOAP, and nothing else is.
        SoapPole x = of("pole 30 1;climber 50 60 0;climber 50 90 0;ham 9 1;");
        ordered(x, 1, 0, 0, 1);
        rowFor(x, 0, 0);
        rested(x, NONE, NONE, NONE);
        x.soap(0, 29, 1);
        ordered(x, 1, 1, 1, 0);
        noRowFor(x, 0);
        rested(x, 1, NONE, 5);
        x.soap(29, 29, 1);
        ordered(x, NONE, NONE, NONE, NONE);
        rested(x, 0, NONE, NONE);
        x.begin();
        ordered(x, 1, 0, 0, 1);
        x.keep(0);
        x.soap(0, 29, 1);
        ordered(x, 1, 1, 1, 0);
        x.goBack(0);
        ordered(x, 1, 0, 0, 1);
        rested(x, NONE, NONE, NONE);
        // One FOOT is another, be it the lowest or the last one.
        x.soap(0, 0, 1);
        ordered(x, 1, 1, 1, 0);
        noRowFor(x, 0);
        x.begin();
        ordered(x, 1, 0, 0, 1);
        x.soap(29, 29, 1);
        ordered(x, 1, 1, 1, 0);
        // The same FEET, but other CLIMBERS.
        tell(x, "pole 30 1;climber 50 59 0;climber 50 90 0;ham 9 1;");
        ordered(x, 1, 1, 1, 0);
        noRowFor(x, 0);
        rested(x, 1, NONE, 5);
        // The same FEET and CLIMBERS, but another HAM.
        tell(x, "pole 30 1;climber 50 59 0;climber 50 90 0;ham 9 9;");
        ordered(x, 1, 1, 1, 0);
        rested(x, 0, NONE, NONE);
    }

    private static void triedWithTheSun() {
        says("3, TRIED from now (the SUN, too)");
        // Behind the first GO the SUN undoes what it rubbed off.
        SoapPole x = of(HURDLE + "sun 1 2;");
        ordered(x, NONE, NONE, NONE, NONE, NONE, NONE);
        noRowFor(x, 2);
        x = of(HURDLE + "sun 2 9;");
        ordered(x, 2, 2, 0, 2, 1, 3);
        rowFor(x, 2, 0, 2);
        // The GOES go on from those that there were: now the SUN is behind the first one of a row.
        x.go(1);
        ordered(x, NONE, NONE, NONE, NONE, NONE, NONE);
        noRowFor(x, 2);
    }

    // ---- promise 13, ORDER

    private static void orderByTheFewestGoes() {
        says("3, ORDER: the HAM is had by the fewest GOES: from 1 to all CLIMBERS");
        ordered(of(EASY + "climber 1 1 0;"), 1, 0, 0);
        ordered(of(HURDLE), 2, 2, 0, 2, 1, 3);
        ordered(of(six(2, 106)), 6, 2, 0, 1, 3, 4, 5, 2);
        ordered(of(six(0, 106)), 6, 0, 1, 2, 3, 4, 5, 0);
        ordered(of(six(5, 106)), 6, 5, 0, 1, 2, 3, 4, 5);
        // 109 is enough behind four of them; the fifth one goes behind him.
        ordered(of(six(5, 109)), 5, 5, 0, 1, 2, 3, 5, 4);
        ordered(of(six(5, 121)), 1, 5, 5, 0, 1, 2, 3, 4);
    }

    private static void orderByNoRow() {
        says("3, ORDER: NONE: by no row");
        ordered(of(six(2, 105)), NONE, NONE, NONE, NONE, NONE, NONE, NONE, NONE);
        ordered(of("pole 1 1;climber 50 1 0;"), NONE, NONE, NONE);
        ordered(Twins.bare(), NONE, NONE);
        ordered(new SoapPole(), NONE, NONE);
        // Each one time only: by his second GO he would have it.
        SoapPole x = of("pole 2 10;climber 50 21 8;");
        ordered(x, NONE, NONE, NONE);
        rowFor(x, 0, 0, 0);
    }

    private static void orderOfLikeOnesTheFirst() {
        says("3, ORDER: of like ones the first (the lesser first one, then the next; rows told whole)");
        // By one GO: c1 or c2.
        ordered(of(EASY + "foot 0 5;climber 50 5 0;climber 50 6 0;climber 50 6 0;"), 1, 1, 1, 0, 2);
        // By two: 0 2, 0 3, 3 2.
        ordered(of(HURDLE), 2, 2, 0, 2, 1, 3);
        // By two: 2 0, 2 1.
        ordered(of("pole 2 40;foot 1 20;climber 50 60 0;climber 50 60 0;climber 50 50 4;"), 2, 0, 2, 0, 1);
        // By two: 1 0, 2 0, and 1 2, 2 1 would be, but c1, c2 are too weak.
        ordered(of("pole 2 40;foot 1 20;climber 50 60 0;climber 50 50 4;climber 50 50 4;"), 2, 0, 1, 0, 2);
    }

    private static void orderAskedBeyond() {
        says("promise 13, i = NONE, -2, else the i-th; NONE: not so many");
        SoapPole x = of(HURDLE);
        due("order(3)", x.order(3), 3);
        due("order(4)", x.order(4), NONE);
        due("order(5)", x.order(5), NONE);
        due("order(6)", x.order(6), NONE);
        due("order(-3)", x.order(-3), NONE);
        far("order(far)", i -> x.order(i), NONE);
        SoapPole y = of(six(2, 106));
        due("order(5)", y.order(5), 2);
        due("order(6)", y.order(6), NONE);
        due("order(7)", y.order(7), NONE);
    }

    // ---- promise 14, FOR ONE

    private static void forOneSixAtMost() {
        says("3, FOR ONE: the fewest GOES (6 at most)");
        rowFor(of(EASY + "climber 1 1 0;"), 0, 0);
        rowFor(of("pole 2 99;foot 1 20;climber 50 100 4;climber 50 106 0;"), 1, 0, 0, 0, 0, 0, 1);
        // Behind six GOES he would have it by the seventh.
        noRowFor(of("pole 2 99;foot 1 20;climber 50 100 4;climber 50 105 0;"), 1);
        SoapPole x = of("pole 2 99;foot 1 20;climber 50 100 4;climber 50 105 0;");
        x.go(0);
        rowFor(x, 1, 0, 0, 0, 0, 0, 1);
        rowFor(of(six(2, 106)), 2, 0, 0, 0, 0, 0, 2);
        noRowFor(of(six(2, 105)), 2);
    }

    private static void forOneAnyoneAsOftenAsMayBe() {
        says("3, FOR ONE: anyone as often as may be, himself, too; the last one his");
        rowFor(of("pole 2 10;climber 50 21 8;"), 0, 0, 0);
        rowFor(of(HURDLE), 0, 0, 0, 0, 0, 0);
        rowFor(of(HURDLE), 1, 0, 0, 0, 0, 1);
        rowFor(of(HURDLE), 2, 0, 2);
        rowFor(of(HURDLE), 3, 0, 3);
    }

    private static void forOneNobodyAheadOfHim() {
        says("3, FOR ONE: nobody ahead of him has the HAM");
        // Only c1 rubs anything off, and he has it by his first GO.
        SoapPole x = of("pole 2 40;foot 1 20;climber 50 60 0;climber 50 62 4;");
        noRowFor(x, 0);
        rowFor(x, 1, 1);
        // c0 has it by his second GO, c1 does not: c0 once, then c1, then he.
        x = of("pole 2 40;foot 1 20;climber 50 60 4;climber 50 50 4;climber 50 57 0;");
        rowFor(x, 2, 0, 1, 2);
        rowFor(x, 0, 0, 0);
    }

    private static void forOneOfLikeOnesTheFirst() {
        says("3, FOR ONE: of like ones the first row (the lesser first one, ..)");
        rowFor(of("pole 2 40;foot 1 20;climber 50 60 0;climber 50 50 4;climber 50 50 4;"), 0, 1, 0);
        rowFor(of("pole 2 40;foot 1 20;climber 50 57 0;climber 50 50 4;climber 50 50 4;"), 0, 1, 1, 0);
        rowFor(of("pole 2 40;foot 1 20;climber 50 50 4;climber 50 50 4;climber 50 57 0;"), 2, 0, 0, 2);
        // Only the first one rubs most: the bound by which rows are left out has to look at him, too.
        rowFor(of("pole 2 40;foot 1 20;climber 50 50 20;climber 50 47 0;climber 50 50 1;"), 1, 0, 1);
    }

    private static void forOneOfFeetWithoutSlip() {
        says("3, FOR ONE; 2 A GO, R of its SLIP is off (all, if it has less): of a FOOT rubbed bare 1 is taken");
        // 3 are off FOOT 0, none smeared: 0 and 39 are left, 1 and 40 are taken.
        rowFor(of("pole 2 39;foot 0 3;climber 50 5 3;climber 50 41 0;"), 1, 0, 1);
        noRowFor(of("pole 2 39;foot 0 3;climber 50 5 3;climber 50 40 0;"), 1);
        ordered(of("pole 2 39;foot 0 3;climber 50 5 3;climber 50 41 0;"), 2, 1, 0, 1);
    }

    private static void forOneAskedBeyond() {
        says("promise 14, i = NONE how many GOES, else the i-th; NONE. UNKNOWN");
        SoapPole x = of(HURDLE);
        due("forOne(2, 1)", x.forOne(2, 1), 2);
        due("forOne(2, 2)", x.forOne(2, 2), NONE);
        due("forOne(2, 6)", x.forOne(2, 6), NONE);
        due("forOne(2, -2)", x.forOne(2, -2), NONE);
        far("forOne(2, far)", i -> x.forOne(2, i), NONE);
        far("forOne(far, 0)", c -> x.forOne(c, 0), UNKNOWN);
        due("forOne(3, -1)", x.forOne(3, NONE), 2);
        due("forOne(4, -1)", x.forOne(4, NONE), UNKNOWN);
        due("forOne(-1, -1)", x.forOne(-1, NONE), UNKNOWN);
        due("forOne(6, -1) of six", of(six(2, 106)).forOne(6, NONE), UNKNOWN);
        due("forOne(0, -1) of none", Twins.bare().forOne(0, NONE), UNKNOWN);
        due("forOne(0, -1) of no FEET", new SoapPole().forOne(0, NONE), UNKNOWN);
    }

    // ---- promise 15, RESTS

    private static void restsWorthMoreThanItCosts() {
        says("3, RESTS: V, if he has the HAM, less E, if he goes; of like ones never");
        rested(of(EASY + "climber 1 1 0;ham 2 1;"), 1, 5);
        rested(of(EASY + "climber 1 1 0;ham 1 1;"), 0, NONE);
        rested(of(EASY + "climber 1 1 0;ham 0 1;"), 0, NONE);
        rested(of(EASY + "climber 1 1 0;ham 1 0;"), 1, 5);
        rested(of(EASY + "climber 1 1 0;ham 0 0;"), 0, NONE);
        rested(of(EASY + "climber 1 1 0;ham 100 99;"), 1, 5);
        rested(of(EASY + "climber 1 1 0;ham 99 99;"), 0, NONE);
        rested(of(EASY + "climber 1 1 0;ham 999 0;"), 1, 5);
        // Untold 100 1.
        rested(of(EASY + "climber 1 1 0;"), 1, 5);
    }

    private static void restsOfOneThatCan() {
        says("3, RESTS: first all go never; a TURN 0 to 5, of like ones never, then the latest");
        SoapPole x = of("pole 1 5;climber 50 5 0;climber 50 6 0;climber 50 5 0;");
        rested(x, 1, NONE, 5, NONE);
        rested(of("pole 1 5;climber 50 6 0;climber 50 5 0;"), 1, 5, NONE);
        rested(of("pole 1 5;" + "climber 50 5 0;".repeat(5) + "climber 50 6 0;"), 1, NONE, NONE, NONE, NONE, NONE, 5);
        // He who can not goes never, though it costs nothing.
        rested(of("pole 1 5;climber 50 5 0;climber 50 6 0;ham 9 0;"), 1, NONE, 5);
    }

    private static void restsOfNobodyThatCan() {
        says("3, RESTS: till a round changes nothing: 0 rounds that changed something");
        rested(of("pole 1 5;climber 50 5 0;climber 50 5 20;"), 0, NONE, NONE);
        rested(of("pole 1 5;" + "climber 50 5 0;".repeat(6)), 0, NONE, NONE, NONE, NONE, NONE, NONE);
        rested(Twins.bare(), 0);
        rested(new SoapPole(), 0);
        // One GO rubs for the next one, but nobody pays for the other.
        rested(of(HURDLE), 0, NONE, NONE, NONE, NONE);
    }

    private static void restsThatNeverEnd() {
        says("3, RESTS: NONE for all of it: the 20th round, too, changed something");
        // Each one goes ahead of the other, till nobody can go sooner, and it begins again.
        rested(of(EASY + "climber 1 1 0;climber 1 1 0;"), NONE, NONE, NONE);
        rested(of(EASY + "climber 1 1 0;climber 1 1 0;climber 1 1 0;"), NONE, NONE, NONE, NONE);
        rested(of("pole 1 5;climber 50 6 0;climber 50 5 0;climber 50 6 0;"), NONE, NONE, NONE, NONE);
        rested(of(EASY + "climber 1 1 0;".repeat(6)), NONE, NONE, NONE, NONE, NONE, NONE, NONE);
        // If it is not worth it, it ends at once.
        rested(of(EASY + "climber 1 1 0;climber 1 1 0;ham 5 5;"), 0, NONE, NONE);
    }

    private static void restsAskedForWhom() {
        says("promise 15, c = NONE the rounds, else the TURN of a CLIMBER; UNKNOWN");
        SoapPole x = of("pole 1 5;" + "climber 50 5 0;".repeat(5) + "climber 50 6 0;");
        due("rests(5)", x.rests(5), 5);
        due("rests(6)", x.rests(6), UNKNOWN);
        due("rests(-2)", x.rests(-2), UNKNOWN);
        far("rests(far)", c -> x.rests(c), UNKNOWN);
        due("rests(0) of none", Twins.bare().rests(0), UNKNOWN);
        due("rests(0) of no FEET", new SoapPole().rests(0), UNKNOWN);
        due("rests(-1) of no FEET", new SoapPole().rests(NONE), 0);
    }

    // ---- promise 16, TOWER

    private static void towerHolds() {
        says("3, TOWER: if his A is twice the other's W or more; NONE: it does not hold");
        due("A 20, W 10", of("pole 1 0;climber 1 20 0;climber 10 1 0;").tower(0, 1), 1);
        due("A 19, W 10", of("pole 1 0;climber 1 19 0;climber 10 1 0;").tower(0, 1), NONE);
        due("A 21, W 10", of("pole 1 0;climber 1 21 0;climber 10 1 0;").tower(0, 1), 1);
        due("A 2, W 1", of("pole 1 0;climber 1 2 0;climber 1 1 0;").tower(0, 1), 1);
        due("A 1, W 1", of("pole 1 0;climber 1 1 0;climber 1 1 0;").tower(0, 1), NONE);
        due("A 198, W 99", of("pole 1 0;climber 1 198 0;climber 99 1 0;").tower(0, 1), 1);
        due("A 197, W 99", of("pole 1 0;climber 1 197 0;climber 99 1 0;").tower(0, 1), NONE);
        due("A 999, W 1", of("pole 1 0;climber 99 1 0;climber 1 999 0;").tower(1, 0), 1);
    }

    private static void towerBeginsAtFoot5() {
        says("3, TOWER: that one begins at FOOT 5 (0, if F is 5 or less): how FAR he comes");
        // 3 a FOOT.
        String men = " 10;climber 50 20 0;climber 10 ";
        due("F 1, A 3", of("pole 1" + men + "3 0;").tower(0, 1), 1);
        due("F 1, A 2", of("pole 1" + men + "2 0;").tower(0, 1), 0);
        due("F 4, A 11", of("pole 4" + men + "11 0;").tower(0, 1), 3);
        due("F 5, A 2", of("pole 5" + men + "2 0;").tower(0, 1), 0);
        due("F 5, A 14", of("pole 5" + men + "14 0;").tower(0, 1), 4);
        due("F 5, A 15", of("pole 5" + men + "15 0;").tower(0, 1), 5);
        due("F 6, A 2", of("pole 6" + men + "2 0;").tower(0, 1), 5);
        due("F 6, A 3", of("pole 6" + men + "3 0;").tower(0, 1), 6);
        due("F 7, A 5", of("pole 7" + men + "5 0;").tower(0, 1), 6);
        due("F 30, A 74", of("pole 30" + men + "74 0;").tower(0, 1), 29);
        due("F 30, A 75", of("pole 30" + men + "75 0;").tower(0, 1), 30);
    }

    private static void towerOfTwoThatThereAre() {
        says("promise 16, UNKNOWN (one twice, too; ahead of NOT: no FEET, for then there are no CLIMBERS)");
        SoapPole x = of("pole 7 10;" + "climber 10 20 0;".repeat(6));
        due("tower(0, 5)", x.tower(0, 5), 7);
        due("tower(5, 0)", x.tower(5, 0), 7);
        for (int c = 0; c < 6; c++) {
            due("one twice", x.tower(c, c), UNKNOWN);
        }
        due("tower(0, 6)", x.tower(0, 6), UNKNOWN);
        due("tower(6, 0)", x.tower(6, 0), UNKNOWN);
        due("tower(-1, 0)", x.tower(-1, 0), UNKNOWN);
        due("tower(0, -1)", x.tower(0, -1), UNKNOWN);
        due("tower(6, 6)", x.tower(6, 6), UNKNOWN);
        far("tower(0, far)", c -> x.tower(0, c), UNKNOWN);
        far("tower(far, 0)", c -> x.tower(c, 0), UNKNOWN);
        due("tower(0, 1) of no FEET", new SoapPole().tower(0, 1), UNKNOWN);
        due("tower(0, 1) of no CLIMBERS", Twins.bare().tower(0, 1), UNKNOWN);
        due("tower(0, 1) of one", of("pole 7 10;climber 10 20 0;").tower(0, 1), UNKNOWN);
        // That it does not hold is no refusal, and stands behind them.
        due("tower(0, 2)", of("pole 7 10;climber 99 1 0;climber 99 1 0;").tower(0, 2), UNKNOWN);
    }

    private static void testOrder() {
        orderByTheFewestGoes();
        orderByNoRow();
        orderOfLikeOnesTheFirst();
        orderAskedBeyond();
    }

    private static void testForOne() {
        forOneSixAtMost();
        forOneAnyoneAsOftenAsMayBe();
        forOneNobodyAheadOfHim();
        forOneOfLikeOnesTheFirst();
        forOneOfFeetWithoutSlip();
        forOneAskedBeyond();
    }

    private static void testRests() {
        restsWorthMoreThanItCosts();
        restsOfOneThatCan();
        restsOfNobodyThatCan();
        restsThatNeverEnd();
        restsAskedForWhom();
    }

    public static void main(String[] args) {
        triedChangesNothing();
        triedIfTheHamIsGone();
        triedFromNow();
        triedWithTheSun();
        testOrder();
        testForOne();
        testRests();
        towerHolds();
        towerBeginsAtFoot5();
        towerOfTwoThatThereAre();
        end();
    }
}
