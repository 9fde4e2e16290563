/** Part 1, texts; promises 6 to 8. */
final class EdgesOfTexts {
    private static final String SMALL = "d1,2;a3,4;r0;";
    private static final String LAW = "d1,1;";
    private static final String EIGHT_STREETS = LAW + "a1,1;".repeat(8);
    private static final String EIGHT_BEATS = "r0;".repeat(8);

    private EdgesOfTexts() {
    }

    static void test() {
        theTapeHasAnEnd();
        everyByteInEveryPlace();
        lettersStandByThemselves();
        townsHaveAllTheirParts();
        lawsAreBounded();
        streetsAreBounded();
        beatsAreBounded();
        theRoundTurns();
        aTownStandsInPlaceOfAnother();
        theFirstFaultOfTheText();
        theLeastFaultOfAToken();
        whatCannotStandThere();
        runsOfFiguresAndTheEnd();
        numbersNotAsTold();
        noRoom();
        feedTells();
        feedRefuses();
        townEmptiesTheTape();
        allStaysAtAFault();
        faultIsTheLatest();
    }

    /** A text that has a fault of a number at a place, on a new object. */
    private static void faulty(String text, int place, int number) {
        Run run = Run.fresh().feed(text);
        Due.due("town of '" + text + "'", run.call("town"), -1000100 - place);
        Due.due("fault of '" + text + "'", run.call("fault"), number);
    }

    /** A text that tells a town of so many streets and beats. */
    private static Run told(String text, int streets, int beats) {
        Run run = Run.fresh().feed(text);
        Due.due("town of '" + text + "'", run.call("town"), streets);
        Due.due("beats of '" + text + "'", run.call("count", 2), beats);
        return run;
    }

    private static void theTapeHasAnEnd() {
        Doc.says("Part 1", "TEXTS: THE TAPE has at most 110 bytes, that come one by one;");
        Run run = Run.fresh();
        for (int i = 1; i <= 110; i++) {
            run.then("feed(100) = " + i);
        }
        run.then("feed(100) = FULL count(9) = 110 town() = -1000101 count(9) = 0 feed(100) = 1");
        String longest = "d01,01;" + "a10,10;".repeat(8) + "r00;".repeat(8);
        told(longest, 8, 8);
        faulty(longest + ";".repeat(110 - longest.length()), longest.length(), 1);
    }

    /** What each of 256 bytes makes of a small text, when it stands in place of one of its own. */
    private static void everyByteInEveryPlace() {
        Doc.says("Part 1", "TOKENS: letters a to z (each by itself), NUMBERS (figures, 2 at most),"
            + " SIGNS , and ; nothing else, no blanks.");
        for (int place = 0; place < SMALL.length(); place++) {
            for (int letter = 0; letter <= 255; letter++) {
                char[] text = SMALL.toCharArray();
                text[place] = (char) letter;
                int want = faultOf(place, (char) letter);
                if (want == 0) {
                    told(new String(text), 1, 1);
                } else {
                    faulty(new String(text), want / 10, want % 10);
                }
            }
        }
        faulty(" " + SMALL, 0, 1);
        faulty(SMALL + " ", 13, 1);
        faulty(SMALL + "\n", 13, 1);
        faulty("d1, 2;a3,4;r0;", 3, 1);
        faulty("d1 ,2;a3,4;r0;", 2, 1);
    }

    /** 10 times the place of the fault and its number, when a letter stands in a place; 0: none. */
    private static int faultOf(int place, char letter) {
        boolean figure = letter >= '0' && letter <= '9';
        boolean sort = "angtp".indexOf(letter) >= 0;
        int misplaced = 10 * place + 1;
        switch (place) {
            case 1: // REACH
                return !figure ? misplaced : letter > '3' ? 12 : 0;
            case 2: // a figure between "1" and "2" makes a run of three
                return figure ? 11 : letter == ',' ? 0 : misplaced;
            case 4: // "2" and a figure more are not so many THIEVES
                return figure ? 32 : letter == ';' ? 0 : misplaced;
            case 5:
                return sort ? 0 : misplaced;
            case 7: // and one between "3" and "4"
                return figure ? 61 : letter == ',' ? 0 : misplaced;
            case 9: // "4" and a figure more is LOOT, behind which the beat's letter cannot stand
                return figure ? 101 : letter == ';' ? 0 : misplaced;
            case 10: // a street instead of the beat has no ',' behind its DEEP
                return sort ? 121 : letter == 'r' ? 0 : misplaced;
            case 11:
                return !figure ? misplaced : letter == '0' ? 0 : 112;
            case 12: // "00" is street 0, and then the text ends; "01" is none
                return letter == '0' ? 131 : figure ? 112 : letter == ';' ? 0 : misplaced;
            case 0:
                return letter == 'd' ? 0 : misplaced;
            default: // THIEVES, DEEP and LOOT of one figure
                return figure ? 0 : misplaced;
        }
    }

    private static void lettersStandByThemselves() {
        Doc.says("Part 1", "letters a to z (each by itself), NUMBERS (figures, 2 at most)");
        faulty("dd1,2;a3,4;r0;", 1, 1);
        faulty("d1,2;aa3,4;r0;", 6, 1);
        faulty("d1,2;a3,4;rr0;", 11, 1);
        told("d01,02;a03,04;r00;", 1, 1).then("count(4) = 1 count(5) = 2 street(0, 0) = 3 street(0, 1) = 4");
        told("d1,2;a20,60;r0;", 1, 1).then("street(0, 0) = 20 street(0, 1) = 60");
        faulty("d001,2;a3,4;r0;", 1, 1);
    }

    private static void townsHaveAllTheirParts() {
        Doc.says("Part 1", "town: law street { street } beat { beat }.");
        told("d0,0;a1,1;r0;", 1, 1);
        told("d0,0;a1,1;n1,1;r0;", 2, 1);
        told("d0,0;a1,1;r0;r0;", 1, 2);
        told(EIGHT_STREETS + EIGHT_BEATS, 8, 8);
        faulty("a1,1;r0;", 0, 1);
        faulty("d0,0;r0;", 5, 1);
        faulty("d0,0;a1,1;", 10, 1);
        faulty("d0,0;", 5, 1);
        faulty("", 0, 1);
        faulty("d0,0;d0,0;a1,1;r0;", 5, 1);
        faulty("d0,0;a1,1;d0,0;r0;", 10, 1);
        faulty("d0,0;a1,1;r0;d0,0;", 13, 1);
        faulty("d0,0;a1,1;r0;a1,1;", 13, 1);
        faulty("d0,0;a1,1;r0;a1,1;r0;", 13, 1);
    }

    private static void lawsAreBounded() {
        Doc.says("Part 1", "law: d REACH , THIEVES ; (0 to 3; 0 to 9).");
        told("d0,0;a1,1;r0;", 1, 1).then("count(4) = 0 count(5) = 0");
        told("d3,9;a1,1;r0;", 1, 1).then("count(4) = 3 count(5) = 9");
        told("d03,09;a1,1;r0;", 1, 1).then("count(4) = 3 count(5) = 9");
        faulty("d4,9;a1,1;r0;", 1, 2);
        faulty("d3,10;a1,1;r0;", 3, 2);
        faulty("d99,9;a1,1;r0;", 1, 2);
        faulty("d3,99;a1,1;r0;", 3, 2);
        faulty("d3;a1,1;r0;", 2, 1);
        faulty("d,3;a1,1;r0;", 1, 1);
        faulty("d3,;a1,1;r0;", 3, 1);
        faulty("d3,9,a1,1;r0;", 4, 1);
        faulty("d3,9a1,1;r0;", 4, 1);
    }

    private static void streetsAreBounded() {
        Doc.says("Part 1", "street: SORT DEEP , LOOT ; (SORT: a an alley, n a nursery, g a garrison, t a tannery,"
            + " p a pump; 0 to 20; 0 to 60; STREETS 0 .. 7, 8 at most, side by side).");
        told("d0,0;a0,0;n20,60;g1,1;t2,2;p3,3;r0;", 5, 1).then("""
            kind(0) = 1 kind(1) = 2 kind(2) = 3 kind(3) = 4 kind(4) = 5 kind(5) = BAD
            street(0, 0) = 0 street(0, 1) = 0 street(1, 0) = 20 street(1, 1) = 60""");
        String sorts = "angtp";
        for (int i = 0; i < sorts.length(); i++) {
            faulty(LAW + sorts.charAt(i) + "21,1;r0;", 6, 2);
            faulty(LAW + sorts.charAt(i) + "20,61;r0;", 9, 2);
        }
        faulty(LAW + "a1;r0;", 7, 1);
        faulty(LAW + "a,1;r0;", 6, 1);
        faulty(LAW + "a1,;r0;", 8, 1);
        faulty(LAW + "a1,1r0;", 9, 1);
        told(EIGHT_STREETS + "r7;", 8, 1).then("street(7, 0) = 1 street(8, 0) = BAD round(0) = 7");
        faulty(EIGHT_STREETS + "a1,1;r0;", 45, 3);
        // Side by side: the first and the last are not neighbours.
        told(EIGHT_STREETS + "r0;", 8, 1).then("street(1, 2) = 1 street(2, 2) = 0 street(7, 2) = 0");
    }

    private static void beatsAreBounded() {
        Doc.says("Part 1", "beat: r STREET ; (one that there is; BEATS 0 .. 7, 8 at most: THE ROUND;");
        told(LAW + "a1,1;r0;", 1, 1);
        faulty(LAW + "a1,1;r1;", 11, 2);
        told(LAW + "a1,1;a1,1;r1;", 2, 1).then("round(0) = 1 round(1) = BAD");
        faulty(LAW + "a1,1;a1,1;r2;", 16, 2);
        faulty(EIGHT_STREETS + "r8;", 46, 2);
        faulty(EIGHT_STREETS + "r0;r07;r08;", 53, 2);
        faulty(LAW + "a1,1;r;", 11, 1);
        faulty(LAW + "a1,1;r0", 12, 1);
        faulty(LAW + "a1,1;r0,", 12, 1);
        told(LAW + "a1,1;" + EIGHT_BEATS, 1, 8).then("round(7) = 0 round(8) = BAD");
        faulty(LAW + "a1,1;" + EIGHT_BEATS + "r0;", 34, 3);
    }

    private static void theRoundTurns() {
        Doc.says("Part 1", "he is in the STREET of the BEAT that is HOUR left over by how many there are).");
        for (int beats = 1; beats <= 8; beats++) {
            StringBuilder text = new StringBuilder("d0,0;" + "t20,0;".repeat(8));
            for (int b = 0; b < beats; b++) {
                text.append('r').append(7 - b).append(';');
            }
            Run run = told(text.toString(), 8, beats);
            for (int hour = 0; hour <= 17; hour++) {
                int street = 7 - hour % beats;
                run.then("street(" + street + ", 2) = 1");
                run.then("street(" + (street == 0 ? 7 : street - 1) + ", 2) = 0 hours(1)");
            }
        }
        Run.town("d0,0;a1,0;a1,0;r1;r0;").then("""
            street(1, 2) = 1 street(0, 2) = 0 hours(1) street(0, 2) = 1 street(1, 2) = 0
            hours(1) street(1, 2) = 1 street(0, 2) = 0""");
    }

    private static void aTownStandsInPlaceOfAnother() {
        Doc.says("Part 1", "A TOWN that is read stands in place of the one before (none at first):"
            + " HOUR 0, nothing is ROBBED; no ACT can be undone.");
        Run.fresh().then("hours(1) = STATE").feed("d3,9;a9,60;n9,60;g9,60;r2;r1;").then("""
            town() = 3 reach(0) hours(3) count(3) = 3 count(6) = 54 count(8) = 4
            "d1,2;t5,6;p7,8;r1;" town() = 2 count(1) = 2 count(2) = 1 count(3) = 0 count(4) = 1 count(5) = 2
            count(6) = 0 count(7) = 0 count(8) = 0 count(9) = 0 undo() = STATE
            kind(0) = 4 kind(1) = 5 kind(2) = BAD street(0, 0) = 5 street(0, 1) = 6
            street(1, 0) = 7 street(1, 1) = 8 round(0) = 1 round(1) = BAD
            hours(1) undo() = 0 undo() = STATE""");
    }

    private static void theFirstFaultOfTheText() {
        Doc.says("Part 1", "FAULTS, the first TOKEN that has one (its first byte),");
        faulty("d4,99;x", 1, 2);
        faulty("d3,99;x", 3, 2);
        faulty("d3,9;x99", 5, 1);
        faulty("d1,1;a21,61;r9;", 6, 2);
        faulty("d1,1;a20,61;r9;", 9, 2);
        faulty("d1,1;a20,60;r9;", 13, 2);
        faulty("d1,1;a20,60;r10;999", 13, 2);
        faulty("d1,1 ;a21", 4, 1);
    }

    private static void theLeastFaultOfAToken() {
        Doc.says("Part 1", "of one TOKEN the least:");
        faulty("99,1;a1,1;r0;", 0, 1);
        faulty(LAW + "99", 5, 1);
        faulty(LAW + "a1,1;99", 10, 1);
        faulty("d999,1;", 1, 1);
        faulty(EIGHT_STREETS + EIGHT_BEATS + "a1,1;", 69, 1);
        faulty(EIGHT_STREETS + "d", 45, 1);
        faulty(EIGHT_STREETS + "r0;a1,1;", 48, 1);
    }

    private static void whatCannotStandThere() {
        Doc.says("Part 1", "1 it cannot stand there, or is none");
        faulty("r0;", 0, 1);
        faulty("1", 0, 1);
        faulty(",", 0, 1);
        faulty(";", 0, 1);
        faulty("D1,1;", 0, 1);
        faulty("d+1,1;", 1, 1);
        faulty("d-1,1;", 1, 1);
        faulty("d1.1;", 2, 1);
        faulty(LAW + "s1,1;", 5, 1);
        faulty(LAW + "A1,1;", 5, 1);
        faulty(LAW + "a1,1;R0;", 10, 1);
        faulty(LAW + "a1,1;r0;x", 13, 1);
        faulty(LAW + "a1,1;r0;0", 13, 1);
        faulty(LAW + "a1,1;r0;,", 13, 1);
        faulty(LAW + "a1,1;r0;\u0000", 13, 1);
        faulty(LAW + "a1,1;r0;\u00ff", 13, 1);
    }

    private static void runsOfFiguresAndTheEnd() {
        Doc.says("Part 1", "(a run of three figures, at its first; the end: how many bytes there are);");
        faulty("d000,1;", 1, 1);
        faulty("d1,000;", 3, 1);
        faulty("d1,0000000;", 3, 1);
        faulty(LAW + "a000,1;", 6, 1);
        faulty(LAW + "a1,100;", 8, 1);
        faulty(LAW + "a1,1;r000;", 11, 1);
        faulty(LAW + "100", 5, 1);
        faulty("000", 0, 1);
        faulty("d1,111", 3, 1);
        String text = "d01,02;a15,20;t16,30;r01;";
        for (int end = 0; end < text.length(); end++) {
            // What stood on the tape before is no part of the text.
            Run run = Run.town(text).feed(text.substring(0, end));
            Due.due("town cut at " + end, run.call("town"), -1000100 - end);
            Due.due("its fault", run.call("fault"), 1);
        }
        told(text, 2, 1);
        String full = EIGHT_STREETS + EIGHT_BEATS;
        faulty(full.substring(0, full.length() - 1), full.length() - 1, 1);
    }

    private static void numbersNotAsTold() {
        Doc.says("Part 1", "2 a NUMBER that is not as told;");
        faulty("d4", 1, 2);
        faulty("d3,10", 3, 2);
        faulty(LAW + "p21", 6, 2);
        faulty(LAW + "p20,61", 9, 2);
        faulty(LAW + "p20,60;r1", 13, 2);
        faulty(LAW + "p20,60;r0;r01", 16, 2);
        faulty(LAW + "p20,60;r0;r10", 16, 2);
    }

    private static void noRoom() {
        Doc.says("Part 1", "3 a street, a beat more than there is room for (its letter).");
        String sorts = "angtp";
        for (int i = 0; i < sorts.length(); i++) {
            faulty(EIGHT_STREETS + sorts.charAt(i), 45, 3);
            faulty(EIGHT_STREETS + sorts.charAt(i) + "99,99;", 45, 3);
        }
        faulty(EIGHT_STREETS + EIGHT_BEATS + "r", 69, 3);
        faulty(EIGHT_STREETS + EIGHT_BEATS + "r9;", 69, 3);
        faulty(LAW + "a1,1;" + EIGHT_BEATS + "r0;", 34, 3);
        faulty(EIGHT_STREETS, 45, 1);
        told(EIGHT_STREETS + EIGHT_BEATS, 8, 8);
    }

    private static void feedTells() {
        Doc.says(6, "A byte (0 to 255) comes behind the tape: how many it has.");
        Run.fresh().then("""
            feed(0) = 1 feed(255) = 2 feed(100) = 3 count(9) = 3 town() = -1000100
            feed(100) = 1 feed(49) = 2 feed(44) = 3 feed(50) = 4 feed(59) = 5 "a3,4;r0;" town() = 1
            count(4) = 1 count(5) = 2""");
    }

    private static void feedRefuses() {
        Doc.says(6, "BAD; FULL.");
        Bounds.hold("feed", new int[] {100}, 0, 0, 255);
        Run run = Run.fresh().feed("d1,2;a3,4;" + "r0;".repeat(8)).feed("x".repeat(76));
        run.then("""
            count(9) = 110 feed(0) = FULL feed(255) = FULL feed(-1) = BAD feed(256) = BAD
            feed(MOST) = BAD feed(LEAST) = BAD count(9) = 110 town() = -1000134 fault() = 1""");
    }

    private static void townEmptiesTheTape() {
        Doc.says(7, "The tape, empty then, is read: how many STREETS there are.");
        Run.fresh().feed(SMALL).then("count(9) = 13 town() = 1 count(9) = 0 town() = -1000100 count(1) = 1");
        Run.fresh().feed("x" + SMALL).then("town() = -1000100 count(9) = 0").feed(SMALL).then("town() = 1");
        for (int streets = 1; streets <= 8; streets++) {
            told(LAW + "a1,1;".repeat(streets) + "r0;", streets, 1);
        }
    }

    private static void allStaysAtAFault() {
        Doc.says(7, "-1000100 less the place of a FAULT: all stays.");
        String[] texts = {"", "d3,9;p1,1;n2,2;n2,2;n2,2;r3;r3;r3;x", "d0", "d3,9;p1,1;"};
        for (String text : texts) {
            // Scene's tape begins with "d1"; it is emptied, filled with the text, and begun anew.
            Run run = Scene.made().then("town() = -1000102").feed(text);
            Due.due("town of '" + text + "'", run.call("town"), -1000100 - placeIn(text));
            run.then("count(9) = 0 \"d4\" town() = -1000101").feed("d1");
            Scene.unchanged("the fault of '" + text + "'", run, Scene.STATUS);
        }
    }

    private static int placeIn(String text) {
        return text.endsWith("x") ? text.length() - 1 : text.length();
    }

    private static void faultIsTheLatest() {
        Doc.says(8, "The number of the latest FAULT; 0 before one.");
        Run.fresh().then("fault() = 0").feed(SMALL).then("""
            fault() = 0 town() = 1 fault() = 0 town() = -1000100 fault() = 1
            "d4" fault() = 1 town() = -1000101 fault() = 2""").feed(SMALL).then("""
            town() = 1 fault() = 2""").feed(LAW + "a1,1;" + EIGHT_BEATS + "r").then("""
            town() = -1000134 fault() = 3 hours(1) undo() image(0) restore(0) hours(0) = BAD fault() = 3
            "x" town() = -1000100 fault() = 1""");
    }
}
