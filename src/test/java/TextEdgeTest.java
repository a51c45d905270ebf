/** Promises 2 to 4 and '1 THE POLE': a test for each sentence that names a boundary case of THE TEXT. */
public final class TextEdgeTest extends Due {
    private static final String SIX = "climber 1 1 1;".repeat(6);

    /** The pole is right, and told(what) is so. */
    private static void tells(String text, int what, int want) {
        due("told(" + what + ") of '" + text + "'", of(text).told(what), want);
    }

    /** The pole is right, and climber(0, what) is so. */
    private static void man(String text, int what, int want) {
        due("climber(0, " + what + ") of '" + text + "'", of(text).climber(0, what), want);
    }

    /** The pole is right, and slip(i) is so. */
    private static void slip(String text, int i, int want) {
        due("slip(" + i + ") of '" + text + "'", of(text).slip(i), want);
    }

    private static String feet(int count) {
        StringBuilder s = new StringBuilder("pole 30 1;");
        for (int i = 0; i < count; i++) {
            s.append("foot ").append(i).append(" 7;");
        }
        return s.toString();
    }

    // ---- promise 2: feed

    private static void feedTakesOneToEightBytes() {
        says("promise 2, n bytes (1 .. 8) of a long: OUTSIDE");
        for (int n = 1; n <= 8; n++) {
            due("feed(" + n + ", 0)", new SoapPole().feed(n, 0), n);
        }
        SoapPole x = new SoapPole();
        x.feed(3, 0);
        due("feed(0, 0)", x.feed(0, 0), OUTSIDE);
        due("feed(9, 0)", x.feed(9, 0), OUTSIDE);
        due("feed(-1, 0)", x.feed(-1, 0), OUTSIDE);
        far("feed(far, 0)", n -> x.feed(n, 0), OUTSIDE);
        due("told(6)", x.told(6), 3);
    }

    private static void feedTakesTheLowestTheHighestOfTheseFirst() {
        says("promise 2, the lowest n bytes, the highest of these first");
        String text = "pole 13 5;foot 12 6;";
        for (int n = 1; n <= 8; n++) {
            for (long above : new long[] {0, -1, 0x3b3b3b3b3b3b3b3bL}) {
                SoapPole x = new SoapPole();
                for (int i = 0; i < text.length(); i += n) {
                    int m = Math.min(n, text.length() - i);
                    long bytes = above;
                    for (int j = 0; j < m; j++) {
                        bytes = bytes << 8 | text.charAt(i + j);
                    }
                    due("feed(" + m + ", " + bytes + ")", x.feed(m, bytes), i + m);
                }
                due("pole() fed by " + n, x.pole(), 13);
                due("slip(12)", x.slip(12), 6);
            }
        }
    }

    private static void feedTakesEachByteWhole() {
        says("promise 2, bytes: 0 to 255, none of them is taken for another one");
        for (int b = 0; b <= 255; b++) {
            SoapPole x = new SoapPole();
            feedAll(x, "pole 3 4");
            due("feed(1, " + b + ")", x.feed(1, b), 9);
            due("pole() with byte " + b + " as the last one", x.pole(), b == ';' ? 3 : -11);
            // Behind a blank or one more figure the end is what cannot stand there.
            due("fault()", x.fault(), b == ';' ? NONE : b == ' ' || b >= '0' && b <= '9' ? 9 : 8);
        }
    }

    private static void feedIsFullAt400() {
        says("promise 2, FULL (400): how many THE TEXT has; THE POLE's text has 400 bytes at most");
        SoapPole x = new SoapPole();
        for (int i = 1; i <= 49; i++) {
            due("feed(8, blanks)", x.feed(8, 0x2020202020202020L), 8 * i);
        }
        due("feed(8, blanks) to 400", x.feed(8, 0x2020202020202020L), 400);
        due("feed(1, a blank) behind 400", x.feed(1, 32), FULL);
        due("feed(8, blanks) behind 400", x.feed(8, 32), FULL);
        due("told(6)", x.told(6), 400);
        for (int n = 2; n <= 8; n++) {
            SoapPole y = new SoapPole();
            feedAll(y, " ".repeat(401 - n));
            due("feed(" + n + ", ..) behind " + (401 - n), y.feed(n, 0x3b3b3b3b3b3b3b3bL), FULL);
            due("told(6)", y.told(6), 401 - n);
            due("feed(" + (n - 1) + ", ..) behind " + (401 - n), y.feed(n - 1, 0x2020202020202020L), 400);
            due("pole()", y.pole(), 0);
        }
    }

    private static void feedRefusesOutsideAheadOfFull() {
        says("promise 2, OUTSIDE, FULL: of several the first");
        due("feed(9, 0), full", Twins.full().feed(9, 0), OUTSIDE);
        due("feed(0, 0), full", Twins.full().feed(0, 0), OUTSIDE);
    }

    private static void textIsEmptyBehindPole() {
        says("promise 3, THE TEXT (it is empty then, with a FAULT, too)");
        SoapPole x = of("pole 3 4;");
        due("told(6)", x.told(6), 0);
        due("feed(1, ';')", x.feed(1, ';'), 1);
        due("pole()", x.pole(), -11);
        due("told(6) behind a FAULT", x.told(6), 0);
        feedAll(x, " ".repeat(400));
        due("feed(1, a blank)", x.feed(1, 32), FULL);
        due("pole()", x.pole(), 0);
        due("told(6) behind 400", x.told(6), 0);
        feedAll(x, " ".repeat(391));
        due("pole()", tell(x, "pole 6 1;"), 6);
    }

    // ---- 1 THE POLE: clauses and their NUMBERS

    private static void poleOfOneToThirtyFeet() {
        says("1 THE POLE, F FEET, 1 .. 30");
        fine("pole 1 4;", 1);
        fine("pole 30 4;", 30);
        bad("pole 0 4;", 2, 5);
        bad("pole 31 4;", 2, 5);
        bad("pole 999 4;", 2, 5);
    }

    private static void poleOfSlip0To99() {
        says("1 THE POLE, SLIP S 0 .. 99 on each");
        tells("pole 30 0;", 10, 0);
        tells("pole 30 99;", 10, 2970);
        bad("pole 3 100;", 2, 7);
        bad("pole 3 999;", 2, 7);
        SoapPole x = of("pole 30 7;");
        for (int i = 0; i < 30; i++) {
            due("slip(" + i + ")", x.slip(i), 7);
        }
    }

    private static void poleFirst() {
        says("1 THE POLE, 'pole' first: another one first than 'pole' is FAULT 1, at its first letter");
        bad("foot 0 1;pole 3 4;", 1, 0);
        bad("climber 1 1 1;pole 3 4;", 1, 0);
        bad("ham 1 1;pole 3 4;", 1, 0);
        bad("sun 1 1;pole 3 4;", 1, 0);
        bad("   ham 1 1;", 1, 3);
        bad("ham", 1, 0);
        // Two of them: still the first one cannot stand there, and no FAULT 3.
        bad("sun 1 1;sun 1 1;", 1, 0);
    }

    private static void poleOnce() {
        says("1 THE POLE, 'pole' once: FAULT 3 at its first letter");
        bad("pole 3 4;pole 3 4;", 3, 9);
        bad("pole 3 4;  pole", 3, 11);
        bad("pole 3 4;pole 31 100;", 3, 9);
        bad("pole 3 4;ham 1 1;pole 3 4;", 3, 17);
    }

    private static void footIsOneThatThereIs() {
        says("1 THE POLE, SLIP S on FOOT I; a FOOT that there is not: FAULT 2 at its first");
        slip("pole 3 4;foot 0 9;", 0, 9);
        slip("pole 3 4;foot 2 9;", 2, 9);
        bad("pole 3 4;foot 3 9;", 2, 14);
        slip("pole 1 4;foot 0 9;", 0, 9);
        bad("pole 1 4;foot 1 9;", 2, 14);
        slip("pole 30 4;foot 29 9;", 29, 9);
        bad("pole 30 4;foot 30 9;", 2, 15);
        bad("pole 30 4;foot 999 9;", 2, 15);
    }

    private static void footOfSlip0To99InPlaceOfIt() {
        says("1 THE POLE, 'foot': SLIP S (0 .. 99) on FOOT I in place of it");
        slip("pole 3 4;foot 1 0;", 1, 0);
        slip("pole 3 4;foot 1 99;", 1, 99);
        bad("pole 3 4;foot 1 100;", 2, 16);
        slips(of("pole 3 4;foot 1 9;"), 4, 9, 4, UNKNOWN);
        slips(of("pole 3 99;foot 1 99;"), 99, 99, 99, UNKNOWN);
    }

    private static void footTwentyAtMost() {
        says("1 THE POLE, 'foot': 20 at most; a 21st one is FAULT 3 at its first letter");
        fine(feet(20), 30);
        tells(feet(20), 10, 20 * 7 + 10);
        String text = feet(20);
        bad(text + "foot 20 7;", 3, text.length());
        bad(text + " foot 20 7;", 3, text.length() + 1);
        // Its FOOT is not looked at: one again, one that there is not.
        bad(text + "foot 0 7;", 3, text.length());
        bad(text + "foot 30 7;", 3, text.length());
        bad(text + "foot", 3, text.length());
        fine(text + "climber 1 1 1;", 30);
        // Those of an earlier text do not count, be it right or not.
        SoapPole x = of(text);
        due("pole() with a FAULT", tell(x, text + "x"), -11);
        due("pole()", tell(x, text), 30);
        due("told(10)", x.told(10), 20 * 7 + 10);
    }

    private static void footEachOnce() {
        says("1 THE POLE, 'foot': each once; a FOOT again is FAULT 4, at it");
        bad("pole 3 4;foot 0 1;foot 0 2;", 4, 23);
        bad("pole 3 4;foot 2 1;foot 1 1;foot 2 1;", 4, 32);
        bad("pole 3 4;foot 2 1;foot   002 1;", 4, 25);
        bad("pole 30 4;foot 29 1;foot 29 1;", 4, 25);
        fine("pole 3 4;foot 2 1;foot 1 1;foot 0 1;", 3);
        // Also when it was told the SLIP that it had.
        bad("pole 3 4;foot 1 4;foot 1 4;", 4, 23);
        // What an earlier text told is no FOOT again.
        SoapPole x = of("pole 3 4;foot 1 5;");
        due("pole()", tell(x, "pole 3 4;foot 1 6;"), 3);
        due("slip(1)", x.slip(1), 6);
        due("pole() with a FAULT", tell(x, "pole 3 4;foot 1 7;foot 0 100;"), -12);
        due("pole()", tell(x, "pole 3 4;foot 1 8;"), 3);
        due("slip(1)", x.slip(1), 8);
    }

    private static void climberOfWeight1To99() {
        says("1 THE POLE, WEIGHT W 1 .. 99");
        man("pole 3 4;climber 1 5 5;", 0, 1);
        man("pole 3 4;climber 99 5 5;", 0, 99);
        bad("pole 3 4;climber 0 5 5;", 2, 17);
        bad("pole 3 4;climber 100 5 5;", 2, 17);
    }

    private static void climberOfArms1To999() {
        says("1 THE POLE, ARMS A 1 .. 999");
        man("pole 3 4;climber 5 1 5;", 1, 1);
        man("pole 3 4;climber 5 999 5;", 1, 999);
        bad("pole 3 4;climber 5 0 5;", 2, 19);
        bad("pole 3 4;climber 5 1000 5;", 2, 19);
    }

    private static void climberRubs0To20() {
        says("1 THE POLE, RUBS off R of each FOOT, 0 .. 20");
        man("pole 3 4;climber 5 5 0;", 2, 0);
        man("pole 3 4;climber 5 5 20;", 2, 20);
        bad("pole 3 4;climber 5 5 21;", 2, 21);
        bad("pole 3 4;climber 5 5 100;", 2, 21);
    }

    private static void climberSixAtMost() {
        says("1 THE POLE, 6 CLIMBERS at most; a seventh one is FAULT 3 at its first letter");
        tells("pole 3 4;" + SIX, 1, 6);
        bad("pole 3 4;" + SIX + "climber 1 1 1;", 3, 9 + SIX.length());
        bad("pole 3 4;" + SIX + "  climber 0 0 99;", 3, 11 + SIX.length());
        bad("pole 3 4;" + SIX + "climber", 3, 9 + SIX.length());
        tells("pole 3 4;", 1, 0);
        tells("pole 3 4;climber 1 1 1;", 1, 1);
        // Those of an earlier text do not count, be it right or not.
        SoapPole x = of("pole 3 4;" + SIX);
        due("pole() with a FAULT", tell(x, "pole 3 4;" + SIX + "x"), -11);
        due("pole()", tell(x, "pole 3 4;" + SIX), 3);
        due("told(1)", x.told(1), 6);
    }

    private static void climbersAsTheyCome() {
        says("Terms: what has a number has it from 0 on, as it comes");
        SoapPole x = of("pole 3 4;climber 7 8 9;foot 1 1;climber 17 18 19;");
        due("climber(0, 0)", x.climber(0, 0), 7);
        due("climber(0, 1)", x.climber(0, 1), 8);
        due("climber(0, 2)", x.climber(0, 2), 9);
        due("climber(1, 0)", x.climber(1, 0), 17);
        due("climber(1, 1)", x.climber(1, 1), 18);
        due("climber(1, 2)", x.climber(1, 2), 19);
    }

    private static void hamWorth0To999Costs0To99() {
        says("1 THE POLE, 'ham': worth V 0 .. 999, a GO costs E, 0 .. 99");
        tells("pole 3 4;ham 0 5;", 2, 0);
        tells("pole 3 4;ham 999 5;", 2, 999);
        bad("pole 3 4;ham 1000 5;", 2, 13);
        tells("pole 3 4;ham 5 0;", 3, 0);
        tells("pole 3 4;ham 5 99;", 3, 99);
        bad("pole 3 4;ham 5 100;", 2, 15);
    }

    private static void hamUntold() {
        says("1 THE POLE, 'ham': 100 1 untold");
        tells("pole 3 4;", 2, 100);
        tells("pole 3 4;", 3, 1);
        // Also behind a pole that told it.
        SoapPole x = of("pole 3 4;ham 7 8;");
        tell(x, "pole 3 4;");
        due("told(2)", x.told(2), 100);
        due("told(3)", x.told(3), 1);
    }

    private static void hamOnce() {
        says("1 THE POLE, 'ham' once: FAULT 3 at its first letter");
        bad("pole 3 4;ham 5 5;ham 5 5;", 3, 17);
        bad("pole 3 4;ham 100 1; ham", 3, 20);
        bad("pole 3 4;ham 5 5;sun 1 1;ham 5 5;", 3, 25);
    }

    private static void sunEvery1To20() {
        says("1 THE POLE, 'sun': every N GOES, 1 .. 20");
        tells("pole 3 4;sun 1 5;", 4, 1);
        tells("pole 3 4;sun 20 5;", 4, 20);
        bad("pole 3 4;sun 0 5;", 2, 13);
        bad("pole 3 4;sun 21 5;", 2, 13);
    }

    private static void sunOf0To9() {
        says("1 THE POLE, 'sun': S more, 0 .. 9");
        tells("pole 3 4;sun 5 0;", 5, 0);
        tells("pole 3 4;sun 5 9;", 5, 9);
        bad("pole 3 4;sun 5 10;", 2, 15);
    }

    private static void sunUntold() {
        says("1 THE POLE, 'sun': 1 0 untold");
        tells("pole 3 4;", 4, 1);
        tells("pole 3 4;", 5, 0);
        SoapPole x = of("pole 3 4;sun 7 8;");
        tell(x, "pole 3 4;");
        due("told(4)", x.told(4), 1);
        due("told(5)", x.told(5), 0);
    }

    private static void sunOnce() {
        says("1 THE POLE, 'sun' once: FAULT 3 at its first letter");
        bad("pole 3 4;sun 5 5;sun 5 5;", 3, 17);
        bad("pole 3 4;sun 1 0; sun", 3, 18);
        bad("pole 3 4;sun 5 5;ham 1 1;sun 5 5;", 3, 25);
    }

    private static void clausesBehindPoleInAnyOrder() {
        says("1 THE POLE: only 'pole' has to be first");
        SoapPole x = of("pole 3 4;sun 5 6;ham 7 8;climber 1 2 3;foot 1 9;climber 4 5 6;foot 0 0;");
        toldAll(x, 3, 2, 7, 8, 5, 6, 0, 0, NONE, 0, 13);
    }

    // ---- 1 THE POLE: NUMBERS, words, blanks

    private static void numbersOfOneToThreeFigures() {
        says("1 THE POLE, NUMBERS have one to three figures; one of four or more is FAULT 2 at its first");
        fine("pole 3 4;", 3);
        fine("pole 03 04;", 3);
        fine("pole 003 004;", 3);
        tells("pole 003 000;", 10, 0);
        bad("pole 0003 4;", 2, 5);
        bad("pole 3 0004;", 2, 7);
        bad("pole 3 0000;", 2, 7);
        bad("pole 3 4;foot 0001 1;", 2, 14);
        bad("pole 3 4;foot 1 0001;", 2, 16);
        bad("pole 3 4;climber 0001 1 1;", 2, 17);
        bad("pole 3 4;climber 1 0001 1;", 2, 19);
        bad("pole 3 4;climber 1 1 0001;", 2, 21);
        bad("pole 3 4;ham 0001 1;", 2, 13);
        bad("pole 3 4;ham 1 0001;", 2, 15);
        bad("pole 3 4;sun 0001 1;", 2, 13);
        bad("pole 3 4;sun 1 0001;", 2, 15);
        // However long: none wraps round to one that is allowed.
        bad("pole 4294967299 4;", 2, 5);
        bad("pole 18446744073709551619 4;", 2, 5);
        bad("pole 3 " + "0".repeat(300) + ";", 2, 7);
        bad("pole " + "9".repeat(395), 2, 5);
    }

    private static void wordsOfSmallLetters() {
        says("1 THE POLE, words are letters a .. z side by side");
        bad("Pole 3 4;", 1, 0);
        bad("POLE 3 4;", 1, 0);
        bad("polE 3 4;", 1, 0);
        bad("pole 3 4;Foot 1 1;", 1, 9);
        bad("pole 3 4;hAm 1 1;", 1, 9);
        // Not letters: these end the word, and cannot stand there themselves.
        bad("pole` 3 4;", 1, 4);
        bad("pole{ 3 4;", 1, 4);
        bad("poleA 3 4;", 1, 4);
        bad("poleZ 3 4;", 1, 4);
        bad("pole_ 3 4;", 1, 4);
        bad("pole\u00e9 3 4;", 1, 4);
        bad("pole\u00f0 3 4;", 1, 4);
        // Letters: these are part of it, and the word cannot stand there.
        bad("polea 3 4;", 1, 0);
        bad("polez 3 4;", 1, 0);
        bad("apole 3 4;", 1, 0);
        bad("zpole 3 4;", 1, 0);
    }

    private static void figuresOfNumbers() {
        says("1 THE POLE, NUMBERS have figures 0 .. 9");
        fine("pole 30 98;", 30);
        fine("pole 12 67;", 12);
        fine("pole 4 5;", 4);
        bad("pole 3/ 4;", 1, 6);
        bad("pole 3: 4;", 1, 6);
        bad("pole / 4;", 1, 5);
        bad("pole : 4;", 1, 5);
        bad("pole -3 4;", 1, 5);
        bad("pole +3 4;", 1, 5);
        bad("pole 3.0 4;", 1, 6);
        bad("pole \u00b3 4;", 1, 5);
    }

    private static void blanksAnywhere() {
        says("1 THE POLE, blanks (32) may stand anywhere but within words and NUMBERS");
        fine(" pole 3 4;", 3);
        fine("pole    3     4    ;   ", 3);
        fine("  pole  3  4  ;  foot  1  1  ;  climber  1  1  1  ;  ham  1  1  ;  sun  1  1  ;  ", 3);
        fine(" ".repeat(391) + "pole 3 4;", 3);
        fine("pole 3 4" + " ".repeat(391) + ";", 3);
        fine("pole 3 4;" + " ".repeat(391), 3);
        bad("po le 3 4;", 1, 0);
        bad("p ole 3 4;", 1, 0);
        bad("pole 3 4;cli mber 1 1 1;", 1, 9);
        bad("pole 1 0 1;", 1, 9);
        bad("pole 10 1 ;foot 1 1 1;", 1, 20);
    }

    private static void onlyByte32IsBlank() {
        says("1 THE POLE, blanks (32): no other byte is one");
        for (int b = 0; b <= 255; b++) {
            boolean other = b != ' ' && b != ';' && (b < '0' || b > '9') && (b < 'a' || b > 'z');
            if (other) {
                bad((char) b + "pole 3 4;", 1, 0);
                bad("pole" + (char) b + "3 4;", 1, 4);
                bad("pole 3" + (char) b + "4;", 1, 6);
                bad("pole 3 4" + (char) b + ";", 1, 8);
                bad("pole 3 4;" + (char) b, 1, 9);
            }
        }
    }

    private static void sideBySideNeedABlank() {
        says("1 THE POLE, two words, two NUMBERS side by side need one");
        bad("polefoot 3 4;", 1, 0);
        bad("pole12;", 1, 6);
        bad("pole34;", 2, 4);
        bad("pole 3 4;climber1 11;", 1, 20);
        // A word and a NUMBER, and what stands next to ';', need none.
        fine("pole3 4;foot1 1;climber1 1 1;ham1 1;sun1 1;", 3);
    }

    // ---- 1 THE POLE: FAULTS

    private static void fault1WordThatCannot() {
        says("1 THE POLE, FAULT 1: a word that cannot, at its first letter");
        bad("soap 3 4;", 1, 0);
        bad("pol 3 4;", 1, 0);
        bad("poles 3 4;", 1, 0);
        bad("pole 3 4;fo 1 1;", 1, 9);
        bad("pole 3 4;feet 1 1;", 1, 9);
        bad("pole 3 4;foots 1 1;", 1, 9);
        bad("pole 3 4;climbe 1 1 1;", 1, 9);
        bad("pole 3 4;climberz 1 1 1;", 1, 9);
        bad("pole 3 4;ha 1 1;", 1, 9);
        bad("pole 3 4;hams 1 1;", 1, 9);
        bad("pole 3 4;su 1 1;", 1, 9);
        bad("pole 3 4;sung 1 1;", 1, 9);
        bad("pole 3 4;   x", 1, 12);
        // One letter another one, at each place of each word.
        for (String word : new String[] {"pole", "foot", "climber", "ham", "sun"}) {
            for (int i = 0; i < word.length(); i++) {
                String other = word.substring(0, i) + (char) (word.charAt(i) ^ 1) + word.substring(i + 1);
                bad(other + " 3 4;", 1, 0);
                bad("pole 3 4;" + other + " 1 1;", 1, 9);
            }
        }
        // In place of a NUMBER, in place of ';', though the word is a right one.
        bad("pole foot 4;", 1, 5);
        bad("pole 3 ham;", 1, 7);
        bad("pole 3 4 foot 1 1;", 1, 9);
        bad("pole 3 4;ham 1 1 sun 1 1;", 1, 17);
    }

    private static void fault1Number() {
        says("1 THE POLE, FAULT 1: a NUMBER where a word or ';' has to stand");
        bad("3 4;", 1, 0);
        bad("pole 3 4;5", 1, 9);
        bad("pole 3 4 5;", 1, 9);
        bad("pole 3 4;foot 1 1 1;", 1, 18);
        bad("pole 3 4;climber 1 1 1 1;", 1, 23);
        bad("pole 3 4;ham 1 1 1;", 1, 17);
        bad("pole 3 4;sun 1 1 1;", 1, 17);
    }

    private static void fault1Semicolon() {
        says("1 THE POLE, FAULT 1: ';' where a word or a NUMBER has to stand");
        bad(";", 1, 0);
        bad(";pole 3 4;", 1, 0);
        bad("pole 3 4;;", 1, 9);
        bad("pole;", 1, 4);
        bad("pole 3;", 1, 6);
        bad("pole 3 4;foot;", 1, 13);
        bad("pole 3 4;foot 1;", 1, 15);
        bad("pole 3 4;climber;", 1, 16);
        bad("pole 3 4;climber 1;", 1, 18);
        bad("pole 3 4;climber 1 1;", 1, 20);
        bad("pole 3 4;ham;", 1, 12);
        bad("pole 3 4;ham 1;", 1, 14);
        bad("pole 3 4;sun;", 1, 12);
        bad("pole 3 4;sun 1;", 1, 14);
    }

    private static void endAtTheLength() {
        says("1 THE POLE, FAULTS: the end at the text's length");
        bad("pole", 1, 4);
        bad("pole ", 1, 5);
        bad("pole 3", 1, 6);
        bad("pole 3 ", 1, 7);
        bad("pole 3 4", 1, 8);
        bad("pole 3 4   ", 1, 11);
        bad("pole 3 4;foot", 1, 13);
        bad("pole 3 4;foot 1", 1, 15);
        bad("pole 3 4;foot 1 1", 1, 17);
        bad("pole 3 4;climber 1 1", 1, 20);
        bad("pole 3 4;climber 1 1 1", 1, 22);
        bad("pole 3 4;ham 1 1", 1, 16);
        bad("pole 3 4;sun 1 1", 1, 16);
        bad("pole 3 4" + " ".repeat(392), 1, 400);
        bad("pole 3 " + " ".repeat(392) + "4", 1, 400);
        bad("pole" + " ".repeat(396), 1, 400);
        // A word cut short cannot stand there: that is ahead of the end.
        bad("pol", 1, 0);
        bad("p", 1, 0);
        bad("pole 3 4;climbe", 1, 9);
    }

    private static void endIsNotWhatALongerTextHadThere() {
        says("1 THE POLE, FAULTS: the end at the text's length, whatever stood there in the text before");
        SoapPole x = of("pole 3 4;");
        due("pole() of 'pole 3 4'", tell(x, "pole 3 4"), -11);
        due("fault()", x.fault(), 8);
        due("pole() of 'pole 3 45;'", tell(x, "pole 3 45;"), 3);
        due("pole() of 'pole 3 4'", tell(x, "pole 3 4"), -11);
        due("fault()", x.fault(), 8);
        due("pole() of 'pole 30 4;'", tell(x, "pole 30 4;"), 30);
        due("pole() of 'pole 3'", tell(x, "pole 3"), -11);
        due("fault()", x.fault(), 6);
        due("pole() of 'poles'", tell(x, "poles"), -11);
        due("fault()", x.fault(), 0);
        due("pole() of 'pole'", tell(x, "pole"), -11);
        due("fault()", x.fault(), 4);
        due("told(10)", x.told(10), 120);
    }

    private static void faultAtTheFirstByte() {
        says("1 THE POLE, FAULTS: at the first byte that has one");
        bad("pole 31 100;", 2, 5);
        bad("pole 3 100 x", 2, 7);
        bad("pole 3 1000", 2, 7);
        bad("pole 3 4;foot 3 100;?", 2, 14);
        bad("pole 3 4;soap 99 1;", 1, 9);
        bad("pole 3 4;pole 0 0", 3, 9);
        bad("pole 3 4;foot 1 1;foot 1 100;", 4, 23);
        bad("pole 3 4;foot 1 100;foot 1 1;", 2, 16);
        bad("pole 3 4;ham 1 1;ham 1000 x;", 3, 17);
        bad("pole 3 4;climber 0 1000 21;", 2, 17);
        bad("pole 3 4;climber 1 1000 21;", 2, 19);
        bad("pole 3 4;climber 1 1 21", 2, 21);
        bad("pole 3 4;sun 0 x", 2, 13);
        bad("pole x 100;", 1, 5);
    }

    private static void faultTheLeastOfThese() {
        says("1 THE POLE, FAULTS: of these (at one byte) the least");
        // 1 ahead of 2: a NUMBER of four figures where none can stand.
        bad("1000", 1, 0);
        bad("pole 3 4;1000", 1, 9);
        bad("pole 3 4 1000;", 1, 9);
        bad("pole 3 4;climber 1 1 1 1000;", 1, 23);
        // 1 ahead of 3: a clause again where none can stand.
        bad("pole 3 4 pole 3 4;", 1, 9);
        bad("pole pole", 1, 5);
        bad("pole 3 4;ham 1 1 ham 1 1;", 1, 17);
        bad("sun 1 1;sun 1 1;", 1, 0);
        // 2 ahead of 4: a FOOT again, told by four figures.
        bad("pole 3 4;foot 1 1;foot 0001 2;", 2, 23);
    }

    private static void emptyTextHasNoFault() {
        says("1 THE POLE: an empty text (or one of blanks alone) has no FAULT: no FEET");
        fine("", 0);
        fine(" ", 0);
        fine(" ".repeat(8), 0);
        fine(" ".repeat(400), 0);
        SoapPole x = Twins.rich();
        x.pole();
        due("pole() of an empty text", x.pole(), 0);
        toldAll(x, 0, 0, 100, 1, 1, 0, 0, 0, NONE, 0, 0);
        due("slip(0)", x.slip(0), UNKNOWN);
        due("climber(0, 0)", x.climber(0, 0), UNKNOWN);
        due("pole() of a blank", tell(of("pole 3 4;"), " "), 0);
    }

    // ---- promise 3: pole

    private static void poleBringsAllBack() {
        says("promise 3, no GOES, the HAM is there; no LIST; IMAGES are gone; THE SEED stays");
        SoapPole x = Twins.had();
        int seed = x.seed(0);
        x.seed(seed);
        x.pole();
        due("pole()", tell(x, "pole 4 30;foot 3 40;climber 50 80 9;"), 4);
        toldAll(x, 4, 1, 100, 1, 1, 0, 0, 0, NONE, 0, 130);
        due("goBack(0)", x.goBack(0), NOT);
        due("goBack(1)", x.goBack(1), NOT);
        due("judge()", x.judge(), NONE);
        due("enough(0)", x.enough(0), NONE);
        due("hang()", x.hang(), NONE);
        due("begin()", x.begin(), 0);
        due("seed(0)", x.seed(0), seed);
    }

    private static void poleOfFewerFeetAndClimbers() {
        says("promise 3, THE TEXT becomes THE POLE: nothing of a larger one is left");
        SoapPole x = of("pole 30 9;foot 29 8;" + SIX);
        due("pole()", tell(x, "pole 1 2;climber 7 8 9;"), 1);
        slips(x, 2, UNKNOWN, UNKNOWN);
        due("slip(29)", x.slip(29), UNKNOWN);
        due("told(10)", x.told(10), 2);
        due("climber(1, 0)", x.climber(1, 0), UNKNOWN);
        due("pole()", tell(x, "pole 30 1;"), 30);
        due("slip(29)", x.slip(29), 1);
        due("told(1)", x.told(1), 0);
    }

    private static void poleAnswersTenLessTheFault() {
        says("promise 3, -10 less the number of its FAULT");
        due("pole(), FAULT 1", tell(new SoapPole(), "?"), -11);
        due("pole(), FAULT 2", tell(new SoapPole(), "pole 0 1;"), -12);
        due("pole(), FAULT 3", tell(new SoapPole(), "pole 1 1;pole"), -13);
        due("pole(), FAULT 4", tell(new SoapPole(), "pole 1 1;foot 0 1;foot 0 1;"), -14);
    }

    private static void spoilt(String text, int number) {
        SoapPole one = Twins.rich();
        SoapPole other = Twins.rich();
        // Both lose the text that they have: its end is a FAULT.
        due("pole()", one.pole(), -11);
        due("pole()", other.pole(), -11);
        due("pole() of '" + text + "'", tell(one, text), -10 - number);
        Twins.alike("'" + text + "'", one, other);
    }

    private static void poleWithAFaultChangesNothingElse() {
        says("promise 3, with a FAULT all else is as it was");
        spoilt("?", 1);
        spoilt("pole 1 1", 1);
        spoilt("pole 4 30;foot 3 40;climber 50 80 9;climber 40 60 5", 1);
        spoilt("pole 9 9;climber 9 9 9;ham 9 9;sun 9 9;foot 9 9;", 2);
        spoilt("pole 5 5;climber 5 5 5;ham 5 5;sun 5 5;ham", 3);
        spoilt("pole 5 5;climber 5 5 5;foot 0 1;foot 0 1;", 4);
        SoapPole x = new SoapPole();
        tell(x, "pole 9 9;climber 9 9 9;ham 9 9;sun 9 9;foot 9 9;");
        toldAll(x, 0, 0, 100, 1, 1, 0, 0, 0, NONE, 0, 0);
    }

    // ---- promise 4: fault

    private static void faultOfTheLatestPole() {
        says("promise 4, the place (from 0 on) of the FAULT of the latest pole(); NONE");
        SoapPole x = new SoapPole();
        due("fault() of a new object", x.fault(), NONE);
        tell(x, "?");
        due("fault() at the first byte", x.fault(), 0);
        tell(x, "pole 3 4" + " ".repeat(392));
        due("fault() at the end of 400", x.fault(), 400);
        feedAll(x, "pole 3 4;climber 9 9 9;");
        due("fault() behind feed", x.fault(), 400);
        x.pole();
        due("fault() behind a right one", x.fault(), NONE);
        tell(x, "pole 3 x;");
        x.go(0);
        x.begin();
        x.keep(0);
        x.goBack(0);
        x.hang();
        x.tear();
        due("fault() behind other calls", x.fault(), 7);
        x.pole();
        due("fault() behind an empty one", x.fault(), NONE);
    }

    private static void testFeed() {
        feedTakesOneToEightBytes();
        feedTakesTheLowestTheHighestOfTheseFirst();
        feedTakesEachByteWhole();
        feedIsFullAt400();
        feedRefusesOutsideAheadOfFull();
        textIsEmptyBehindPole();
    }

    private static void testClauses() {
        poleOfOneToThirtyFeet();
        poleOfSlip0To99();
        poleFirst();
        poleOnce();
        footIsOneThatThereIs();
        footOfSlip0To99InPlaceOfIt();
        footTwentyAtMost();
        footEachOnce();
        climberOfWeight1To99();
        climberOfArms1To999();
        climberRubs0To20();
        climberSixAtMost();
        climbersAsTheyCome();
        hamWorth0To999Costs0To99();
        hamUntold();
        hamOnce();
        sunEvery1To20();
        sunOf0To9();
        sunUntold();
        sunOnce();
        clausesBehindPoleInAnyOrder();
    }

    private static void testSignsAndFaults() {
        numbersOfOneToThreeFigures();
        wordsOfSmallLetters();
        figuresOfNumbers();
        blanksAnywhere();
        onlyByte32IsBlank();
        sideBySideNeedABlank();
        fault1WordThatCannot();
        fault1Number();
        fault1Semicolon();
        endAtTheLength();
        endIsNotWhatALongerTextHadThere();
        faultAtTheFirstByte();
        faultTheLeastOfThese();
        emptyTextHasNoFault();
    }

    public static void main(String[] args) {
        testFeed();
        testClauses();
        testSignsAndFaults();
        poleBringsAllBack();
        poleOfFewerFeetAndClimbers();
        poleAnswersTenLessTheFault();
        poleWithAFaultChangesNothingElse();
        faultOfTheLatestPole();
        end();
    }
}
