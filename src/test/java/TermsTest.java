/**
 * The chapter "Terms" of the document, each sentence that names a boundary case by a test of its
 * own, in the order of the chapter. No object is asked for more than 512 calls.
 */
public final class TermsTest {
    private static final int INVALID = Answers.INVALID;
    private static final int STATE = Answers.STATE;
    private static final int FULL = Answers.FULL;
    private static final int NONE = Answers.NONE;
    private static final int TEXT_ERROR = -2000000;

    private static final int M = 0;
    private static final int R = 1;
    private static final int U = 2;
    private static final int W = 3;
    private static final int T = 4;

    private static final int MATCHED = 1;
    private static final int MISSING_IN_B = 2;
    private static final int REPEAT = 3;
    private static final int MISSING_IN_A = 4;

    private static final Answers answers = new Answers("TermsTest");

    private TermsTest() {
    }

    public static void main(String[] args) {
        columns();
        costsOfMatching();
        orderOfMatching();
        throwsAndFaults();
        cuts();
        accounts();
        texts();
        undoAndImages();
        lookingChangesNothing();
        errors();
        answers.end();
    }

    private static void due(String what, long got, long want) {
        answers.due(what, got, want);
    }

    private static void columnIs(BoreholeColumns x, int hole, String want) {
        answers.holds("hole " + hole + " has " + Sight.column(x, hole) + ", due is " + want,
                want.equals(Sight.column(x, hole)));
    }

    private static void refused(String what, Twins.Maker maker, Twins.Call call, int want) {
        due(what, call.on(maker.make()), want);
        answers.holds(what + " changes nothing", Twins.alike(maker, call));
    }

    private static void columns() {
        fourHoles();
        collars();
        atMost24Beds();
        bedsFromTheTopDown();
        marks();
        thicknesses();
        depths();
        lengths();
        noKeyMarkAtFirst();
    }

    private static void fourHoles() {
        answers.part("Columns: four holes, numbered from 0");
        BoreholeColumns x = new BoreholeColumns();
        for (int hole = 0; hole < 4; hole++) {
            due("addBed to hole " + hole, x.addBed(hole, 0, hole, 10 + hole), 1);
            due("setCollar of hole " + hole, x.setCollar(hole, 100 + hole), 0);
        }
        for (int hole = 0; hole < 4; hole++) {
            due("the mark in hole " + hole, x.bed(hole, 0, 0), hole);
            due("the length of hole " + hole, x.hole(hole, 2), 10 + hole);
            due("the collar of hole " + hole, x.hole(hole, 0), 100 + hole);
        }
        due("hole 4", x.hole(4, 0), INVALID);
        due("hole -1", x.hole(-1, 0), INVALID);
    }

    private static void collars() {
        answers.part("Columns: an elevation from -9999 to 9999, at first 0");
        BoreholeColumns x = Holes.with(Holes.many(2, 24, 99));
        due("at first", x.hole(2, 0), 0);
        due("setCollar(2, 9999)", x.setCollar(2, 9999), 0);
        due("the elevation of the top bed", x.bed(2, 0, 3), 9999);
        due("setCollar(2, -9999)", x.setCollar(2, -9999), 9999);
        due("the elevation of the lowest bed", x.bed(2, 23, 3), -9999 - 23 * 99);
        due("setCollar(2, 10000)", x.setCollar(2, 10000), INVALID);
        due("setCollar(2, -10000)", x.setCollar(2, -10000), INVALID);
        due("the collar", x.hole(2, 0), -9999);
    }

    private static void atMost24Beds() {
        answers.part("Columns: at most 24 beds, at first none");
        BoreholeColumns x = new BoreholeColumns();
        for (int hole = 0; hole < 4; hole++) {
            due("at first in hole " + hole, x.hole(hole, 1), 0);
            for (int bed = 0; bed < 24; bed++) {
                due("addBed() to hole " + hole, x.addBed(hole, bed, bed, 2), bed + 1);
            }
            due("a 25th in hole " + hole, x.addBed(hole, 24, 0, 1), FULL);
            due("beds in hole " + hole, x.hole(hole, 1), 24);
        }
        due("all beds", x.count(6), 96);
        due("the last one", x.bed(3, 23, 0), 23);
        due("none behind it", x.bed(3, 24, 0), NONE);
    }

    private static void bedsFromTheTopDown() {
        answers.part("Columns: beds are numbered from 0 from the top down");
        BoreholeColumns x = new BoreholeColumns();
        x.addBed(0, 0, 2, 30);
        x.addBed(0, 0, 0, 10);
        x.addBed(0, 1, 1, 20);
        for (int bed = 0; bed < 3; bed++) {
            due("the mark of bed " + bed, x.bed(0, bed, 0), bed);
            due("the thickness of bed " + bed, x.bed(0, bed, 1), 10 * (bed + 1));
        }
    }

    private static void marks() {
        answers.part("Columns: a mark, a letter a to z, told as a number from 0 to 25");
        BoreholeColumns x = new BoreholeColumns();
        for (int mark = 0; mark < 26; mark++) {
            due("load() of the letter " + mark, Holes.read(x, "0:" + (char) ('a' + mark) + "7;"), 1);
            due("its number", x.bed(0, 0, 0), mark);
            due("found", x.find(0, mark, 0), 0);
        }
        due("a mark 26", x.addBed(1, 0, 26, 1), INVALID);
        due("a mark -1", x.addBed(1, 0, -1, 1), INVALID);
        due("a mark 0", x.addBed(1, 0, 0, 1), 1);
        due("a mark 25", x.addBed(1, 1, 25, 1), 2);
    }

    private static void thicknesses() {
        answers.part("Columns: a thickness from 1 to 99");
        BoreholeColumns x = new BoreholeColumns();
        for (int thickness = 1; thickness <= 99; thickness++) {
            x.addBed(0, 0, 0, thickness);
            due("the thickness " + thickness, x.bed(0, 0, 1), thickness);
            x.removeBed(0, 0);
        }
        due("addBed() of 0", x.addBed(0, 0, 0, 0), INVALID);
        due("addBed() of 100", x.addBed(0, 0, 0, 100), INVALID);
        x.addBed(0, 0, 0, 50);
        due("setThickness() of 0", x.setThickness(0, 0, 0), INVALID);
        due("setThickness() of 100", x.setThickness(0, 0, 100), INVALID);
        due("setThickness() of 1", x.setThickness(0, 0, 1), 50);
        due("setThickness() of 99", x.setThickness(0, 0, 99), 1);
        due("a text of 1", Holes.read(x, "0:a1;"), 1);
        due("a text of 99", Holes.read(x, "0:a99;"), 1);
        due("its thickness", x.bed(0, 0, 1), 99);
    }

    private static void depths() {
        answers.part("Columns: a depth, all above; an elevation, the collar less it");
        BoreholeColumns x = Holes.with(Holes.many(1, 24, 99));
        x.setCollar(1, 990);
        for (int bed = 0; bed < 24; bed++) {
            due("the depth of bed " + bed, x.bed(1, bed, 2), 99 * bed);
            due("the elevation of bed " + bed, x.bed(1, bed, 3), 990 - 99 * bed);
        }
    }

    private static void lengths() {
        answers.part("Columns: a length, the sum of all thicknesses");
        BoreholeColumns x = Holes.with(Holes.many(1, 24, 99), "2:a1b2c4;");
        due("of none", x.hole(0, 2), 0);
        due("of the longest", x.hole(1, 2), 24 * 99);
        due("of three", x.hole(2, 2), 7);
    }

    private static void noKeyMarkAtFirst() {
        answers.part("Columns: a mark is no key mark at first");
        BoreholeColumns x = new BoreholeColumns();
        due("count(5)", x.count(5), 0);
        for (int mark = 0; mark < 26; mark++) {
            due("mark " + mark + " was one", x.setKey(mark, 1), 0);
            due("count(5)", x.count(5), mark + 1);
        }
        for (int mark = 0; mark < 26; mark++) {
            due("mark " + mark + " is one", x.setKey(mark, 0), 1);
        }
        due("count(5)", x.count(5), 0);
    }

    private static void costIs(String what, BoreholeColumns x, int a, int b, int want) {
        due(what + ": cost(" + a + ", " + b + ", 0)", x.cost(a, b, 0), want);
        due(what + ": cost(" + a + ", " + b + ", 1)", x.cost(a, b, 1), want);
    }

    private static void fateIs(String what, BoreholeColumns x, int side, int bed, int why, int partner) {
        due(what + ": why(0, 1, " + side + ", " + bed + ")", x.why(0, 1, side, bed), why);
        due(what + ": partner(0, 1, " + side + ", " + bed + ")", x.partner(0, 1, side, bed), partner);
    }

    private static void costsOfMatching() {
        eachBedIsReadJustOnce();
        aMatchCostsTheDifference();
        aMatchNeedsTheSameMark();
        aMissingBedCostsM();
        aMissingKeyMarkCostsThreeTimesM();
        aRepeatCostsRAndTheDifference();
        theLatestBeds();
        fewerBedsThanW();
        onlyBedsThatWereRead();
        bedsThatAreMissingWereRead();
        theLatestOfTheseIsRepeated();
        oneBedIsRepeatedOften();
        rangeOfM();
        rangeOfR();
        rangeOfU();
        rangeOfW();
        columnsWithoutBeds();
        theGreatestCost();
    }

    private static void eachBedIsReadJustOnce() {
        answers.part("Matching: both are read downwards just once");
        BoreholeColumns x = Holes.with("0:a5b5;", "1:b5a5;");
        x.setNumber(R, 99);
        costIs("what is crossed is not matched", x, 0, 1, 20);
        due("matches", x.matched(0, 1, 1), 1);
        BoreholeColumns y = Holes.with("0:a5b5c5;", "1:a5x5c5y5;");
        due("beds of A", y.matched(0, 1, 1) + y.matched(0, 1, 2), 3);
        due("beds of B", y.matched(0, 1, 1) + y.matched(0, 1, 3) + y.matched(0, 1, 4), 4);
    }

    private static void aMatchCostsTheDifference() {
        answers.part("Matching: a match costs u * the difference without sign");
        BoreholeColumns x = Holes.with("0:a30;", "1:a33;");
        x.setNumber(U, 2);
        costIs("the bed of B is thicker", x, 0, 1, 6);
        costIs("the bed of A is thicker", x, 1, 0, 6);
        x.setThickness(0, 0, 33);
        costIs("none is thicker", x, 0, 1, 0);
    }

    private static void aMatchNeedsTheSameMark() {
        answers.part("Matching: a match, of the same mark");
        BoreholeColumns x = Holes.with("0:a5;", "1:b5;");
        costIs("other marks", x, 0, 1, 20);
        fateIs("other marks", x, 0, 0, MISSING_IN_B, NONE);
        fateIs("other marks", x, 1, 0, MISSING_IN_A, NONE);
    }

    private static void aMissingBedCostsM() {
        answers.part("Matching: a bed that is missing costs m");
        BoreholeColumns x = Holes.with("0:a5b5a5;", "1:a5;");
        x.setNumber(R, 99);
        costIs("two in B", x, 0, 1, 20);
        costIs("two in A", x, 1, 0, 20);
    }

    private static void aMissingKeyMarkCostsThreeTimesM() {
        answers.part("Matching: a missing bed with a key mark costs 3 * m");
        BoreholeColumns x = Holes.with("0:a5b5;", "1:a5;");
        x.setKey(1, 1);
        costIs("in B", x, 0, 1, 30);
        costIs("in A", x, 1, 0, 30);
        x.setKey(0, 1);
        costIs("a match costs no more for it", x, 0, 1, 30);
        x.setKey(1, 0);
        costIs("another mark is the key mark", x, 0, 1, 10);
        BoreholeColumns y = Holes.with("0:a5;", "1:a5a5;");
        y.setKey(0, 1);
        costIs("a repeat costs no more for it", y, 0, 1, 6);
    }

    private static void aRepeatCostsRAndTheDifference() {
        answers.part("Matching: a repeat costs r + u * the difference without sign");
        BoreholeColumns x = Holes.with("0:a5;", "1:a5a7;", "2:a5a3;");
        x.setNumber(U, 2);
        costIs("the repeat is thicker", x, 0, 1, 6 + 4);
        costIs("the repeat is thinner", x, 0, 2, 6 + 4);
        fateIs("a repeat", x, 1, 1, REPEAT, 0);
        costIs("a bed of B is no repeat of one of B", x, 1, 0, 10);
        due("which of A's is missing", x.why(1, 0, 0, 1), MISSING_IN_B);
    }

    private static void theLatestBeds() {
        String nine = "a5b5c5d5e5f5g5h5i5";
        for (int w = 1; w <= 8; w++) {
            answers.part("Matching: among the " + w + " latest ones, the beds i - w to i - 1");
            int first = 9 - w;
            BoreholeColumns x = Holes.with("0:" + nine + ";", "1:" + nine + (char) ('a' + first) + "5;");
            x.setNumber(W, w);
            costIs("the bed i - w", x, 0, 1, 6);
            fateIs("the bed i - w", x, 1, 9, REPEAT, first);
            BoreholeColumns y = Holes.with("0:" + nine + ";", "1:" + nine + (char) ('a' + first - 1) + "5;");
            y.setNumber(W, w);
            costIs("the bed i - w - 1", y, 0, 1, 10);
            fateIs("the bed i - w - 1", y, 1, 9, MISSING_IN_A, NONE);
            BoreholeColumns z = Holes.with("0:" + nine + ";", "1:" + nine + "i5;");
            z.setNumber(W, w);
            fateIs("the bed i - 1", z, 1, 9, REPEAT, 8);
        }
    }

    private static void fewerBedsThanW() {
        answers.part("Matching: fewer beds than w were read");
        BoreholeColumns x = Holes.with("0:a5b5;", "1:a5b5a5;", "2:c5a5;");
        x.setNumber(W, 8);
        costIs("two", x, 0, 1, 6);
        fateIs("two", x, 1, 2, REPEAT, 0);
        costIs("none", x, 0, 2, 20);
    }

    private static void onlyBedsThatWereRead() {
        answers.part("Matching: a repeat, of a bed that was read");
        BoreholeColumns x = Holes.with("0:x5a5;", "1:a5x5a5;");
        x.setNumber(M, 99);
        x.setNumber(R, 1);
        costIs("the bed i is none of them", x, 0, 1, 99);
        fateIs("ahead of it", x, 1, 0, MISSING_IN_A, NONE);
    }

    private static void bedsThatAreMissingWereRead() {
        answers.part("Matching: a bed that is missing in B was read, and can be repeated");
        BoreholeColumns x = Holes.with("0:a5x5;", "1:x5a5;");
        x.setNumber(R, 9);
        costIs("the repeat of a missing bed", x, 0, 1, 10 + 9);
        fateIs("the repeat of a missing bed", x, 0, 0, MISSING_IN_B, NONE);
        fateIs("the repeat of a missing bed", x, 1, 1, REPEAT, 0);
    }

    private static void theLatestOfTheseIsRepeated() {
        answers.part("Matching: the latest one of these is repeated");
        BoreholeColumns x = Holes.with("0:a5a9;", "1:a5a9a5;");
        x.setNumber(R, 1);
        costIs("though another one costs less", x, 0, 1, 1 + 4);
        fateIs("though another one costs less", x, 1, 2, REPEAT, 1);
        BoreholeColumns y = Holes.with("0:a5a9b5;", "1:a5a9b5a5;");
        costIs("a bed of another mark lies below it", y, 0, 1, 6 + 4);
        fateIs("a bed of another mark lies below it", y, 1, 3, REPEAT, 1);
    }

    private static void oneBedIsRepeatedOften() {
        answers.part("Matching: one bed is repeated by several");
        BoreholeColumns x = Holes.with("0:a5;", Holes.many(1, 24, 5));
        costIs("23 times", x, 0, 1, 23 * 6);
        due("repeats", x.matched(0, 1, 3), 23);
        fateIs("the last one", x, 1, 23, REPEAT, 0);
        fateIs("the match", x, 0, 0, MATCHED, 0);
    }

    private static void rangeOfM() {
        answers.part("Matching: m is 1 to 99, at first 10");
        BoreholeColumns x = Holes.with("0:a5;");
        due("setNumber(0, 99)", x.setNumber(M, 99), 10);
        costIs("of 99", x, 0, 1, 99);
        x.setKey(0, 1);
        costIs("a key mark of 99", x, 0, 1, 297);
        due("setNumber(0, 1)", x.setNumber(M, 1), 99);
        costIs("a key mark of 1", x, 0, 1, 3);
        x.setKey(0, 0);
        costIs("of 1", x, 0, 1, 1);
        due("setNumber(0, 0)", x.setNumber(M, 0), INVALID);
        due("setNumber(0, 100)", x.setNumber(M, 100), INVALID);
        due("count(0)", x.count(0), 1);
    }

    private static void rangeOfR() {
        answers.part("Matching: r is 1 to 99, at first 6");
        BoreholeColumns x = Holes.with("0:a5;", "1:a5a5;");
        x.setNumber(M, 99);
        costIs("at first", x, 0, 1, 6);
        due("setNumber(1, 99)", x.setNumber(R, 99), 6);
        x.setKey(0, 1);
        costIs("of 99", x, 0, 1, 99);
        due("setNumber(1, 1)", x.setNumber(R, 1), 99);
        costIs("of 1", x, 0, 1, 1);
        due("setNumber(1, 0)", x.setNumber(R, 0), INVALID);
        due("setNumber(1, 100)", x.setNumber(R, 100), INVALID);
        due("count(1)", x.count(1), 1);
    }

    private static void rangeOfU() {
        answers.part("Matching: u is 0 to 9, at first 1");
        BoreholeColumns x = Holes.with("0:a1;", "1:a20;", "2:a99a1;");
        x.setNumber(M, 99);
        costIs("at first", x, 0, 1, 19);
        due("setNumber(2, 9)", x.setNumber(U, 9), 1);
        costIs("of 9", x, 0, 1, 9 * 19);
        due("setNumber(2, 0)", x.setNumber(U, 0), 9);
        costIs("a match of 0", x, 0, 1, 0);
        costIs("a match and a repeat of 0", x, 0, 2, 6);
        due("setNumber(2, -1)", x.setNumber(U, -1), INVALID);
        due("setNumber(2, 10)", x.setNumber(U, 10), INVALID);
        due("count(2)", x.count(2), 0);
    }

    private static void rangeOfW() {
        answers.part("Matching: w is 1 to 8, at first 3");
        BoreholeColumns x = Holes.with("0:a5b5c5;", "1:a5b5c5a5;", "2:a5b5c5d5;", "3:a5b5c5d5a5;");
        costIs("at first the third latest is in reach", x, 0, 1, 6);
        costIs("and the fourth latest is not", x, 2, 3, 10);
        due("setNumber(3, 8)", x.setNumber(W, 8), 3);
        costIs("of 8", x, 2, 3, 6);
        due("setNumber(3, 1)", x.setNumber(W, 1), 8);
        costIs("of 1", x, 0, 1, 10);
        due("setNumber(3, 0)", x.setNumber(W, 0), INVALID);
        due("setNumber(3, 9)", x.setNumber(W, 9), INVALID);
        due("count(3)", x.count(3), 1);
    }

    private static void columnsWithoutBeds() {
        answers.part("Matching: columns without beds");
        BoreholeColumns x = Holes.with("2:a5b7;");
        costIs("both", x, 0, 1, 0);
        costIs("B", x, 2, 0, 20);
        costIs("A", x, 0, 2, 20);
        for (int what = 1; what <= 5; what++) {
            due("both: matched(0, 1, " + what + ")", x.matched(0, 1, what), 0);
            due("B: matched(2, 0, " + what + ")", x.matched(2, 0, what), what == 2 ? 2 : 0);
            due("A: matched(0, 2, " + what + ")", x.matched(0, 2, what), what == 4 ? 2 : 0);
        }
        due("both: a bed", x.why(0, 1, 0, 0), INVALID);
        due("B: a bed of A", x.why(2, 0, 0, 1), MISSING_IN_B);
        due("B: a bed of B", x.why(2, 0, 1, 0), INVALID);
        due("A: a bed of B", x.why(0, 2, 1, 1), MISSING_IN_A);
        due("B: its partner", x.partner(2, 0, 0, 0), NONE);
        due("both: a fault", x.fault(0, 1, 0, 0), NONE);
        due("B: a fault", x.fault(2, 0, 0, 0), NONE);
        due("both: a sum", x.sumOfThrows(0, 1, 0), NONE);
        due("A: a sum", x.sumOfThrows(0, 2, 2), NONE);
        due("nearest(0, 0)", x.nearest(0, 0), 1);
        due("nearest(0, 1)", x.nearest(0, 1), 0);
        due("nearest(2, 0)", x.nearest(2, 0), 0);
        due("nearest(2, 1)", x.nearest(2, 1), 20);
        due("closed(0, 1, 2)", x.closed(0, 1, 2), 0);
        due("closed(2, 0, 1)", x.closed(2, 0, 1), 0);
    }

    private static void theGreatestCost() {
        answers.part("Matching: the greatest cost there is");
        BoreholeColumns x = Holes.with(Holes.many(0, 24, 1), Holes.many(1, 24, 1).replace('a', 'b'),
                Holes.many(2, 24, 99), Holes.many(3, 24, 1).replace('a', 'c'));
        x.setNumber(M, 99);
        for (int mark = 0; mark < 3; mark++) {
            x.setKey(mark, 1);
        }
        costIs("48 missing key marks", x, 0, 1, 48 * 297);
        for (int bed = 0; bed < 24; bed++) {
            fateIs("48 missing key marks", x, 0, bed, MISSING_IN_B, NONE);
            fateIs("48 missing key marks", x, 1, bed, MISSING_IN_A, NONE);
        }
        due("nearest(3, 0)", x.nearest(3, 0), 0);
        due("nearest(3, 1)", x.nearest(3, 1), 48 * 297);
        x.setNumber(U, 9);
        x.setNumber(R, 99);
        costIs("of the greatest differences", x, 0, 2, 48 * 297);
    }

    private static void orderOfMatching() {
        aMatchComesAheadOfAMissingBed();
        aMatchComesAheadOfARepeat();
        aMatchComesAheadOfOneMissingInA();
        oneMissingInBComesAheadOfARepeat();
        oneMissingInBComesAheadOfOneMissingInA();
        aRepeatComesAheadOfOneMissingInA();
        theCostComesFirst();
        eachTimeFromTheTopOn();
    }

    private static void aMatchComesAheadOfAMissingBed() {
        answers.part("Matching: 1 ahead of 2");
        BoreholeColumns x = Holes.with("0:a5a5;", "1:a5;");
        costIs("either bed is missing", x, 0, 1, 10);
        fateIs("the first one is matched", x, 0, 0, MATCHED, 0);
        fateIs("the second one is missing", x, 0, 1, MISSING_IN_B, NONE);
        BoreholeColumns y = Holes.with("0:a1;", "1:a21;");
        costIs("a match as dear as two missing beds", y, 0, 1, 20);
        fateIs("a match as dear as two missing beds", y, 0, 0, MATCHED, 0);
        y.setThickness(1, 0, 22);
        costIs("a dearer one", y, 0, 1, 20);
        fateIs("a dearer one", y, 0, 0, MISSING_IN_B, NONE);
    }

    /** At a9 and the second a5: a match for 4, or a repeat of the first a5 for 1 and a9 missing for 3. */
    private static void aMatchComesAheadOfARepeat() {
        answers.part("Matching: 1 ahead of 3");
        BoreholeColumns x = Holes.with("0:a5a9;", "1:a5a5;");
        x.setNumber(M, 3);
        x.setNumber(R, 1);
        costIs("either", x, 0, 1, 4);
        fateIs("the match", x, 0, 1, MATCHED, 1);
        fateIs("the match", x, 1, 1, MATCHED, 1);
        x.setThickness(0, 1, 10);
        costIs("a dearer match", x, 0, 1, 4);
        fateIs("a dearer match", x, 0, 1, MISSING_IN_B, NONE);
        fateIs("a dearer match", x, 1, 1, REPEAT, 0);
    }

    private static void aMatchComesAheadOfOneMissingInA() {
        answers.part("Matching: 1 ahead of 4");
        BoreholeColumns x = Holes.with("0:a5;", "1:a5a5;");
        x.setNumber(R, 99);
        costIs("either bed is missing", x, 0, 1, 10);
        fateIs("the first one is matched", x, 1, 0, MATCHED, 0);
        fateIs("the second one is missing", x, 1, 1, MISSING_IN_A, NONE);
    }

    /** At b1 and the second a5: b1 missing and a21 matched for 10 + 16, or a repeat, b1 and a21 missing. */
    private static void oneMissingInBComesAheadOfARepeat() {
        answers.part("Matching: 2 ahead of 3");
        BoreholeColumns x = Holes.with("0:a5b1a21;", "1:a5a5;");
        costIs("either", x, 0, 1, 26);
        fateIs("the missing bed", x, 0, 1, MISSING_IN_B, NONE);
        fateIs("so that a match follows", x, 0, 2, MATCHED, 1);
        x.setThickness(0, 2, 22);
        costIs("a dearer match", x, 0, 1, 26);
        fateIs("a dearer match", x, 1, 1, REPEAT, 0);
        fateIs("a dearer match", x, 0, 2, MISSING_IN_B, NONE);
    }

    private static void oneMissingInBComesAheadOfOneMissingInA() {
        answers.part("Matching: 2 ahead of 4");
        BoreholeColumns x = Holes.with("0:a9b1;", "1:b1a9;");
        x.setNumber(R, 99);
        costIs("either", x, 0, 1, 20);
        fateIs("a is missing in B", x, 0, 0, MISSING_IN_B, NONE);
        fateIs("b is matched", x, 0, 1, MATCHED, 0);
        fateIs("a is missing in A", x, 1, 1, MISSING_IN_A, NONE);
    }

    private static void aRepeatComesAheadOfOneMissingInA() {
        answers.part("Matching: 3 ahead of 4");
        BoreholeColumns x = Holes.with("0:a5;", "1:a5a5;");
        x.setNumber(R, 10);
        costIs("either", x, 0, 1, 10);
        fateIs("the repeat", x, 1, 1, REPEAT, 0);
        x.setNumber(R, 11);
        costIs("a dearer repeat", x, 0, 1, 10);
        fateIs("a dearer repeat", x, 1, 1, MISSING_IN_A, NONE);
    }

    private static void theCostComesFirst() {
        answers.part("Matching: the first thing with which the cost can still be reached");
        BoreholeColumns x = Holes.with("0:a1a5;", "1:a5;");
        costIs("a match would cost more", x, 0, 1, 10);
        fateIs("a1 is missing", x, 0, 0, MISSING_IN_B, NONE);
        fateIs("a5 is matched", x, 0, 1, MATCHED, 0);
        BoreholeColumns y = Holes.with("0:a5;", "1:a1a5;");
        y.setNumber(R, 99);
        costIs("a match would cost more", y, 0, 1, 10);
        fateIs("a1 is missing", y, 1, 0, MISSING_IN_A, NONE);
        fateIs("a5 is matched", y, 1, 1, MATCHED, 0);
    }

    private static void eachTimeFromTheTopOn() {
        answers.part("Matching: each time from the top on");
        BoreholeColumns x = Holes.with("0:a5a5a5a5;", "1:a5a5;");
        costIs("two of four", x, 0, 1, 20);
        for (int bed = 0; bed < 2; bed++) {
            fateIs("the upper ones", x, 0, bed, MATCHED, bed);
            fateIs("the lower ones", x, 0, bed + 2, MISSING_IN_B, NONE);
        }
    }

    private static void faultIs(BoreholeColumns x, int index, int ahead, int thrown, int reason) {
        due("fault(0, 1, " + index + ", 0)", x.fault(0, 1, index, 0), ahead);
        due("fault(0, 1, " + index + ", 1)", x.fault(0, 1, index, 1), thrown);
        due("fault(0, 1, " + index + ", 2)", x.fault(0, 1, index, 2), reason);
    }

    private static void throwsAndFaults() {
        aThrowThatIsJustT();
        rangeOfT();
        noThrowIsNoFault();
        theThrowCountsFromTheMatchAhead();
        reasons();
        whatLiesOutsideIsNoReason();
        aFaultAfterEachMatch();
        oneMatchAlone();
        noMatch();
    }

    private static void aThrowThatIsJustT() {
        answers.part("Faults: the throw, without sign, is at least t");
        BoreholeColumns x = Holes.with("0:a10b20;", "1:a15b20;");
        due("-5 for t = 5", x.matched(0, 1, 5), 1);
        faultIs(x, 0, 0, -5, 0);
        due("5 for t = 5", x.matched(1, 0, 5), 1);
        due("its throw", x.fault(1, 0, 0, 1), 5);
        x.setNumber(T, 6);
        due("-5 for t = 6", x.matched(0, 1, 5), 0);
        due("5 for t = 6", x.matched(1, 0, 5), 0);
        due("fault(0, 1, 0, 1)", x.fault(0, 1, 0, 1), NONE);
        due("fault(1, 0, 0, 1)", x.fault(1, 0, 0, 1), NONE);
        due("no fault in the sum", x.sumOfThrows(0, 1, 1), 0);
        x.setNumber(T, 4);
        due("-5 for t = 4", x.matched(0, 1, 5), 1);
    }

    private static void rangeOfT() {
        answers.part("Faults: t is 1 to 999, at first 5");
        String ten = "c99".repeat(10);
        BoreholeColumns x = Holes.with("0:a1" + ten + "c9z1;", "1:a1z1;");
        due("setNumber(4, 999)", x.setNumber(T, 999), 5);
        due("999 for t = 999", x.matched(0, 1, 5), 1);
        faultIs(x, 0, 0, 999, 1);
        due("its sum", x.sumOfThrows(0, 1, 1), 999);
        due("-999 for t = 999", x.fault(1, 0, 0, 1), -999);
        x.setThickness(0, 11, 8);
        due("998 for t = 999", x.matched(0, 1, 5), 0);
        due("-998 for t = 999", x.matched(1, 0, 5), 0);
        due("setNumber(4, 1)", x.setNumber(T, 1), 999);
        due("998 for t = 1", x.matched(0, 1, 5), 1);
        due("setNumber(4, 0)", x.setNumber(T, 0), INVALID);
        due("setNumber(4, 1000)", x.setNumber(T, 1000), INVALID);
        due("count(4)", x.count(4), 1);
    }

    private static void noThrowIsNoFault() {
        answers.part("Faults: a throw of 0 and one of 1 for t = 1");
        BoreholeColumns x = Holes.with("0:a10b10c10;", "1:a10b11c10;");
        x.setNumber(T, 1);
        due("faults", x.matched(0, 1, 5), 1);
        faultIs(x, 0, 1, -1, 0);
        due("fault(0, 1, 1, 0)", x.fault(0, 1, 1, 0), NONE);
    }

    /** What is between is counted from the top of the match ahead to the top of the match behind. */
    private static void theThrowCountsFromTheMatchAhead() {
        answers.part("Throws: (depth of i' - depth of i) - (depth of j' - depth of j)");
        BoreholeColumns x = Holes.with("0:x9a10b20c5;", "1:y3a14b20c25;");
        due("the throw", x.sumOfThrows(0, 1, 0), -4);
        x.setCollar(0, 77);
        x.setCollar(1, -77);
        due("collars have no part in it", x.sumOfThrows(0, 1, 0), -4);
    }

    private static void reasonIs(int reason, String a, String b, int thrown) {
        answers.part("Faults: the reason " + reason);
        BoreholeColumns x = Holes.with("0:a10" + a + "z5;", "1:a10" + b + "z5;");
        due("faults", x.matched(0, 1, 5), 1);
        faultIs(x, 0, 0, thrown, reason);
    }

    private static void reasons() {
        reasonIs(1, "b20", "", 20);
        reasonIs(1, "b20c1", "", 21);
        reasonIs(2, "", "a10", -10);
        reasonIs(3, "b20", "a10", 10);
        reasonIs(4, "", "c20", -20);
        reasonIs(4, "", "c20d1", -21);
        reasonIs(5, "b20", "c7", 13);
        reasonIs(6, "", "a10c5", -15);
        reasonIs(7, "b40", "a10c5", 25);
        answers.part("Faults: the reason 0 if there was none between");
        BoreholeColumns x = Holes.with("0:a10z5;", "1:a19z5;");
        faultIs(x, 0, 0, -9, 0);
    }

    private static void whatLiesOutsideIsNoReason() {
        answers.part("Faults: what lies ahead of the first match and behind the last one is no reason");
        BoreholeColumns x = Holes.with("0:b9a10z5c9;", "1:d9a19z5z5e9;");
        due("matches", x.matched(0, 1, 1), 2);
        due("faults", x.matched(0, 1, 5), 1);
        faultIs(x, 0, 1, -9, 0);
        BoreholeColumns y = Holes.with("0:a10z5;", "1:y9a19z5;");
        faultIs(y, 0, 0, -9, 0);
        due("a difference of elevations", y.sumOfThrows(0, 1, 2), -9);
        due("a reason of its own for each", Holes.with("0:a10b20c5d5;", "1:a10c5x9d5;").fault(0, 1, 1, 2), 4);
    }

    private static void aFaultAfterEachMatch() {
        answers.part("Faults: as many as there can be");
        BoreholeColumns x = Holes.with(Holes.many(0, 24, 1), Holes.many(1, 24, 99));
        x.setNumber(M, 99);
        due("matches", x.matched(0, 1, 1), 24);
        due("faults", x.matched(0, 1, 5), 23);
        faultIs(x, 22, 22, -98, 0);
        due("no 24th", x.fault(0, 1, 23, 0), NONE);
        due("their sum", x.sumOfThrows(0, 1, 1), -23 * 98);
    }

    private static void oneMatchAlone() {
        answers.part("Throws: one match alone");
        BoreholeColumns x = Holes.with("0:b40a10;", "1:a15c60;");
        due("matches", x.matched(0, 1, 1), 1);
        for (int what = 0; what <= 2; what++) {
            due("sumOfThrows(0, 1, " + what + ")", x.sumOfThrows(0, 1, what), 0);
        }
        due("faults", x.matched(0, 1, 5), 0);
        due("fault(0, 1, 0, 0)", x.fault(0, 1, 0, 0), NONE);
    }

    private static void noMatch() {
        answers.part("Throws: no match");
        BoreholeColumns x = Holes.with("0:b40a10;", "1:c60d7;");
        due("matches", x.matched(0, 1, 1), 0);
        for (int what = 0; what <= 2; what++) {
            due("sumOfThrows(0, 1, " + what + ")", x.sumOfThrows(0, 1, what), NONE);
        }
        due("faults", x.matched(0, 1, 5), 0);
        due("fault(0, 1, 0, 0)", x.fault(0, 1, 0, 0), NONE);
    }

    private static void cutIs(int depth, int by, int beds, String want, int takenOut, int repeated) {
        BoreholeColumns x = Holes.with("2:a10b20c5;", "1:a10b20c5;");
        String call = "cut(2, " + depth + ", " + by + ")";
        due(call, x.cut(2, depth, by), beds);
        columnIs(x, 2, want);
        columnIs(x, 1, "a10b20c5");
        due(call + ", account 1", x.account(1), 70);
        due(call + ", account 2", x.account(2), 0);
        due(call + ", account 3", x.account(3), takenOut);
        due(call + ", account 4", x.account(4), repeated);
        due(call + ", account 0", x.account(0), 70 - takenOut + repeated);
    }

    private static void cutRefused(String why, int depth, int by) {
        refused(why + ", cut(2, " + depth + ", " + by + ")", () -> Holes.with("2:a10b20c5;"),
                x -> x.cut(2, depth, by), INVALID);
    }

    private static void cuts() {
        answers.part("Cuts: a depth of 1");
        cutIs(1, 5, 4, "a1a4b20c5", 5, 0);
        cutIs(1, 9, 3, "a1b20c5", 9, 0);
        cutIs(1, -1, 5, "a1a1a9b20c5", 0, 1);
        cutRefused("a depth of 0", 0, 5);
        answers.part("Cuts: a depth of the length less 1");
        cutIs(34, 1, 3, "a10b20c4", 1, 0);
        cutIs(34, -1, 5, "a10b20c4c1c1", 0, 1);
        cutIs(34, -34, 7, "a10b20c4a10b20c4c1", 0, 34);
        cutRefused("a depth of the length", 35, 5);
        cutRefused("a depth of the length", 35, -5);
        cutRefused("a depth behind it", 36, 1);
        answers.part("Cuts: a throw that is not 0");
        cutRefused("a throw of 0", 15, 0);
        cutIs(15, 1, 4, "a10b5b14c5", 1, 0);
        cutIs(15, -1, 5, "a10b5b1b15c5", 0, 1);
        answers.part("Cuts: a bed keeps its part above p and its part below p + v");
        cutIs(12, 10, 4, "a10b2b8c5", 10, 0);
        cutIs(5, 10, 3, "a5b15c5", 10, 0);
        cutIs(5, 28, 2, "a5c2", 28, 0);
        answers.part("Cuts: a throw that ends at a bed's edge");
        cutIs(15, 15, 3, "a10b5c5", 15, 0);
        cutIs(5, 5, 3, "a5b20c5", 5, 0);
        cutIs(10, 20, 2, "a10c5", 20, 0);
        cutIs(15, -5, 5, "a10b5b5b15c5", 0, 5);
        cutIs(30, -20, 4, "a10b20b20c5", 0, 20);
        answers.part("Cuts: a depth at a bed's edge");
        cutIs(10, 5, 3, "a10b15c5", 5, 0);
        cutIs(10, -3, 4, "a10a3b20c5", 0, 3);
        cutIs(30, -25, 5, "a10b20a5b20c5", 0, 25);
        answers.part("Cuts: a throw that ends at the end");
        cutIs(15, 20, 2, "a10b5", 20, 0);
        cutIs(30, 5, 2, "a10b20", 5, 0);
        answers.part("Cuts: a throw that ends one ahead of the end");
        cutIs(15, 19, 3, "a10b5c1", 19, 0);
        answers.part("Cuts: a throw that ends behind the end");
        cutIs(15, 21, 2, "a10b5", 20, 0);
        cutIs(34, 2, 3, "a10b20c4", 1, 0);
        cutIs(1, 9999, 1, "a1", 34, 0);
        cutIs(34, 9999, 3, "a10b20c4", 1, 0);
        cutRefused("a throw of 10000", 15, 10000);
        answers.part("Cuts: a throw of -depth");
        cutIs(15, -15, 6, "a10b5a10b5b15c5", 0, 15);
        cutIs(10, -10, 4, "a10a10b20c5", 0, 10);
        cutRefused("one more", 15, -16);
        cutRefused("one more", 1, -2);
        answers.part("Cuts: a bed in which p + v lies stays whole where it was");
        cutIs(15, -12, 6, "a10b5a7b5b15c5", 0, 12);
        cutIs(32, -30, 7, "a10b20c2a8b20c2c3", 0, 30);
        cutsOfShortColumns();
        cutsOf24Beds();
    }

    private static void cutsOfShortColumns() {
        answers.part("Cuts: columns of 0, 1 and 2 decimeters");
        refused("cut(0, 1, 1) of none", BoreholeColumns::new, x -> x.cut(0, 1, 1), INVALID);
        refused("cut(0, 0, 1) of none", BoreholeColumns::new, x -> x.cut(0, 0, 1), INVALID);
        refused("cut(0, 1, 1) of one", () -> Holes.with("0:a1;"), x -> x.cut(0, 1, 1), INVALID);
        refused("cut(0, 0, 1) of one", () -> Holes.with("0:a1;"), x -> x.cut(0, 0, 1), INVALID);
        BoreholeColumns two = Holes.with("0:a1b1;");
        due("cut(0, 1, 1) of two", two.cut(0, 1, 1), 1);
        columnIs(two, 0, "a1");
        BoreholeColumns one = Holes.with("0:a2;");
        due("cut(0, 1, -1) of one bed of two", one.cut(0, 1, -1), 3);
        columnIs(one, 0, "a1a1a1");
    }

    private static void roomIs(int beds, int depth, int by, int then) {
        Twins.Maker maker = () -> Holes.with(Holes.many(0, beds, 4));
        String call = "cut(0, " + depth + ", " + by + ") of " + beds + " beds of 4";
        if (then > 24) {
            refused(call + " would make " + then, maker, x -> x.cut(0, depth, by), FULL);
        } else {
            BoreholeColumns x = maker.make();
            due(call, x.cut(0, depth, by), then);
            due(call + ", beds", x.hole(0, 1), then);
        }
    }

    private static void cutsOf24Beds() {
        answers.part("Cuts: a column that would have more than 24 beds");
        roomIs(23, 1, 1, 24);
        roomIs(24, 1, 1, 25);
        roomIs(24, 1, 2, 25);
        roomIs(24, 1, 3, 24);
        roomIs(24, 95, 1, 24);
        roomIs(24, 93, 1, 25);
        roomIs(24, 3, 2, 24);
        roomIs(24, 4, 4, 23);
        roomIs(22, 1, -1, 24);
        roomIs(23, 1, -1, 25);
        roomIs(24, 1, -1, 26);
        roomIs(23, 4, -4, 24);
        roomIs(24, 4, -1, 25);
        roomIs(12, 44, -44, 23);
        roomIs(12, 47, -47, 25);
        roomIs(13, 44, -44, 24);
        roomIs(14, 44, -44, 25);
        roomIs(24, 95, -95, 49);
    }

    private static void accounts() {
        answers.part("Accounts: 0 is 1 less 2 less 3 plus 4");
        BoreholeColumns x = Holes.with("0:a10b20;", "1:c30;");
        accountsAre("what texts tell", x, 60, 60, 0, 0, 0);
        x.addBed(2, 0, 0, 7);
        accountsAre("addBed()", x, 67, 67, 0, 0, 0);
        x.setThickness(0, 0, 15);
        accountsAre("setThickness() to more", x, 72, 72, 0, 0, 0);
        x.setThickness(0, 1, 12);
        accountsAre("setThickness() to less", x, 64, 72, 8, 0, 0);
        x.setThickness(0, 1, 12);
        accountsAre("setThickness() to as much", x, 64, 72, 8, 0, 0);
        x.removeBed(2, 0);
        accountsAre("removeBed()", x, 57, 72, 15, 0, 0);
        x.cut(1, 10, 5);
        accountsAre("what is taken out", x, 52, 72, 15, 5, 0);
        x.cut(1, 10, 9999);
        accountsAre("what was really there", x, 37, 72, 15, 20, 0);
        x.cut(1, 9, -9);
        accountsAre("what is repeated", x, 46, 72, 15, 20, 9);
        Holes.read(x, "1:z3;");
        accountsAre("what the hole had goes, what the text tells comes", x, 30, 75, 34, 20, 9);
        Holes.read(x, "1:;");
        accountsAre("a text without beds", x, 27, 75, 37, 20, 9);
        x.undo();
        accountsAre("undo()", x, 30, 75, 34, 20, 9);
        x.keep(0);
        x.removeBed(1, 0);
        x.back(0);
        accountsAre("back()", x, 30, 75, 34, 20, 9);
    }

    private static void accountsAre(String what, BoreholeColumns x, int... want) {
        for (int account = 0; account <= 4; account++) {
            due(what + ": account(" + account + ")", x.account(account), want[account]);
        }
        due(what + ": the sum", x.account(0), x.account(1) - x.account(2) - x.account(3) + x.account(4));
    }

    private static void loads(String text, int hole, String want) {
        BoreholeColumns x = new BoreholeColumns();
        Holes.write(x, text);
        int beds = want.isEmpty() ? 0 : want.replaceAll("[^a-z]", "").length();
        due("load() of \"" + text + "\"", x.load(), beds);
        columnIs(x, hole, want);
        due("beds in all", x.count(6), beds);
    }

    private static void errorAt(String text, int position) {
        refused("load() of \"" + text + "\"", () -> {
            BoreholeColumns x = Holes.with("1:c3;");
            Holes.write(x, text);
            return x;
        }, x -> x.load(), TEXT_ERROR - position);
    }

    private static void texts() {
        answers.part("Text: at most 100 characters");
        String full = "0:" + "a10 ".repeat(24) + "; ";
        loads(full, 0, "a10".repeat(24));
        refused("a 101st", () -> {
            BoreholeColumns x = new BoreholeColumns();
            Holes.write(x, full);
            return x;
        }, x -> x.appendCharacter(' '), FULL);
        answers.part("Text: a hole, one digit, 0 to 3");
        for (int hole = 0; hole <= 3; hole++) {
            loads(hole + ":b7;", hole, "b7");
        }
        errorAt("4:b7;", 0);
        errorAt("/:b7;", 0);
        errorAt(":b7;", 0);
        errorAt("b7;", 0);
        errorAt("00:b7;", 1);
        answers.part("Text: \":\"");
        errorAt("0;", 1);
        errorAt("0b7;", 1);
        errorAt("0::b7;", 2);
        answers.part("Text: at most 24 beds, perhaps none");
        loads("0:;", 0, "");
        loads(Holes.many(0, 24, 9), 0, "a9".repeat(24));
        answers.part("Text: the letter of a 25th bed");
        errorAt(Holes.many(0, 25, 9), 50);
        errorAt("0:" + "a9".repeat(24) + "  z", 52);
        errorAt("0:" + "a99".repeat(24) + "z9;", 74);
        answers.part("Text: a letter a to z");
        loads("0:a1z1;", 0, "a1z1");
        errorAt("0:`1;", 2);
        errorAt("0:{1;", 2);
        errorAt("0:A1;", 2);
        errorAt("0:7;", 2);
        answers.part("Text: a thickness, 1 or 2 digits, the first not 0");
        loads("0:a1b9c10d99e90;", 0, "a1b9c10d99e90");
        errorAt("0:a0;", 3);
        errorAt("0:a05;", 3);
        errorAt("0:a;", 3);
        errorAt("0:ab5;", 3);
        errorAt("0:a/;", 3);
        errorAt("0:a:;", 3);
        errorAt("0:a5/;", 4);
        errorAt("0:a5:;", 4);
        errorAt("0:a100;", 5);
        textsWithSpaces();
        textsThatEndTooEarly();
        whatStandsBehindTheEnd();
    }

    private static void textsWithSpaces() {
        answers.part("Text: spaces everywhere except within a thickness");
        loads("   2   :   a   12   b   3   ;   ", 2, "a12b3");
        loads(" 2:;", 2, "");
        loads("2 :;", 2, "");
        loads("2: ;", 2, "");
        loads("2:; ", 2, "");
        loads("2:a 12;", 2, "a12");
        loads("2:a12 ;", 2, "a12");
        loads("2:a12 b3;", 2, "a12b3");
        errorAt("2:a1 2;", 5);
        errorAt("2:a12 3;", 6);
        errorAt("2:a 1 2;", 6);
        answers.part("Text: a space is the code 32");
        errorAt("2:\t;", 2);
        errorAt("2:a\u001f1;", 3);
        errorAt("2:a1!;", 4);
        errorAt("\u00a02:;", 0);
        errorAt("2:;\u0000", 3);
    }

    private static void textsThatEndTooEarly() {
        String[] texts = {"", " ", "0", "0 ", "0:", "0:  ", "0:a", "0:a ", "0:a1", "0:a1 ", "0:a12", "0:a12 ", "0:a12b",
            "0:" + "a1".repeat(24), "0:" + "a10 ".repeat(24) + "  ", " ".repeat(100)};
        answers.part("Text: where it ends too early the error position is its length");
        for (String text : texts) {
            errorAt(text, text.length());
        }
    }

    private static void whatStandsBehindTheEnd() {
        answers.part("Text: anything behind the \";\" but spaces");
        loads("0:a1;   ", 0, "a1");
        errorAt("0:a1;;", 5);
        errorAt("0:a1;b1;", 5);
        errorAt("0:a1;  0:b1;", 7);
        errorAt("0:;" + " ".repeat(96) + "x", 99);
    }

    private static void undoAndImages() {
        imagesAreEmptyAtFirst();
        anImageKeepsNeitherTextNorImages();
        anImageKeepsAllElse();
        whichCallsSave();
        whichCallsSaveNothing();
        atMostSixSavedStates();
        undoTakesTheLatestOne();
        undoLeavesTheTextAndTheImages();
    }

    private static void imagesAreEmptyAtFirst() {
        answers.part("Images: two, empty at first");
        BoreholeColumns x = new BoreholeColumns();
        due("count(9)", x.count(9), 0);
        for (int image = 0; image <= 1; image++) {
            int number = image;
            refused("back(" + image + ") of nothing", BoreholeColumns::new, y -> y.back(number), STATE);
        }
        answers.part("Images: one keeps something, and one nothing");
        for (int image = 0; image <= 1; image++) {
            int kept = image;
            Twins.Maker maker = () -> {
                BoreholeColumns y = new BoreholeColumns();
                y.keep(kept);
                return y;
            };
            due("count(9)", maker.make().count(9), 1 << kept);
            due("the one that keeps a state without beds", maker.make().back(kept), 0);
            refused("the other one", maker, y -> y.back(1 - kept), STATE);
        }
    }

    private static void anImageKeepsNeitherTextNorImages() {
        answers.part("Images: all but the text, the images and the saved states");
        BoreholeColumns x = Holes.with("0:a1;");
        Holes.write(x, "3:");
        x.keep(0);
        x.keep(1);
        Holes.write(x, "q7");
        x.addBed(0, 0, 1, 1);
        due("back(0)", x.back(0), 1);
        due("the text", x.count(7), 4);
        due("the images", x.count(9), 3);
        due("the saved states", x.count(8), 3);
        due("the text goes on", x.appendCharacter(';'), 5);
        due("and is read", x.load(), 1);
        columnIs(x, 3, "q7");
    }

    private static void anImageKeepsAllElse() {
        for (int image = 0; image <= 1; image++) {
            answers.part("Images: what image " + image + " keeps");
            BoreholeColumns x = Holes.busy();
            x.keep(image);
            String kept = Sight.of(x);
            changeAll(x);
            answers.holds("all is changed", !kept.equals(Sight.of(x)));
            due("back(" + image + ")", x.back(image), 10);
            answers.holds("all is as it was", kept.equals(Sight.of(x)));
            due("the image stays", x.back(image), 10);
            due("the key mark", x.setKey(2, 0), 1);
            due("another mark", x.setKey(3, 0), 0);
        }
    }

    private static void changeAll(BoreholeColumns x) {
        for (int what = 0; what <= 4; what++) {
            x.setNumber(what, 7);
        }
        x.setKey(2, 0);
        x.setKey(3, 1);
        for (int hole = 0; hole <= 3; hole++) {
            x.setCollar(hole, 55 + hole);
            x.addBed(hole, 0, 9, 33);
            x.cut(hole, 5, 3);
            x.cut(hole, 5, -3);
            x.removeBed(hole, 0);
        }
    }

    private static final Twins.Call[] SAVING = {x -> x.setNumber(0, 12), x -> x.setNumber(4, 6), x -> x.setKey(2, 1),
        x -> x.setKey(0, 1), x -> x.setCollar(1, 100), x -> x.setCollar(1, 101), x -> x.addBed(0, 0, 0, 1),
        x -> x.removeBed(0, 0), x -> x.setThickness(0, 0, 3), x -> x.setThickness(0, 0, 4), x -> x.cut(0, 5, 1),
        x -> x.cut(0, 5, -1), x -> Holes.read(x, "3:;"), x -> Holes.read(x, "0:q7;"), x -> x.back(0), x -> x.back(1)};

    private static void whichCallsSave() {
        for (int k = 0; k < SAVING.length; k++) {
            answers.part("Undo: the successful call " + k + " saves the state ahead of it");
            BoreholeColumns x = Holes.busy();
            x.clearText();
            due("undo()", x.undo(), 5);
            String before = Sight.of(x);
            answers.holds("it is successful", SAVING[k].on(x) >= 0);
            due("count(8)", x.count(8), 6);
            due("undo()", x.undo(), 5);
            answers.holds("all is as it was", before.equals(Sight.of(x)));
            due("the key mark", x.setKey(2, 0), 1);
            due("another mark", x.setKey(0, 0), 0);
        }
    }

    private static void whichCallsSaveNothing() {
        answers.part("Undo: no other call saves a state");
        BoreholeColumns x = Holes.with("0:a10b20;", "1:a10;");
        x.appendCharacter('0');
        x.clearText();
        x.load();
        x.keep(0);
        x.keep(1);
        for (int what = 0; what <= 9; what++) {
            x.count(what);
        }
        x.hole(0, 0);
        x.bed(0, 0, 0);
        x.find(0, 0, 0);
        x.account(0);
        x.cost(0, 1, 0);
        x.cost(0, 1, 1);
        x.why(0, 1, 0, 0);
        x.partner(0, 1, 0, 0);
        x.matched(0, 1, 5);
        x.fault(0, 1, 0, 0);
        x.sumOfThrows(0, 1, 0);
        x.nearest(0, 0);
        x.closed(0, 1, 2);
        due("count(8)", x.count(8), 2);
        due("undo() saves none either", x.undo(), 1);
        due("count(8)", x.count(8), 1);
        due("undo()", x.undo(), 0);
        due("undo() of none", x.undo(), STATE);
    }

    private static void atMostSixSavedStates() {
        answers.part("Undo: at most six saved states");
        BoreholeColumns x = new BoreholeColumns();
        for (int bed = 0; bed < 6; bed++) {
            x.addBed(0, bed, bed, 1);
            due("count(8)", x.count(8), bed + 1);
        }
        for (int left = 5; left >= 0; left--) {
            due("undo()", x.undo(), left);
            due("beds", x.hole(0, 1), left);
        }
        due("a seventh undo()", x.undo(), STATE);
        for (int more = 1; more <= 8; more++) {
            answers.part("Undo: with the " + (6 + more) + "th the oldest one is discarded");
            BoreholeColumns y = new BoreholeColumns();
            for (int bed = 0; bed < 6 + more; bed++) {
                y.addBed(0, bed, bed, 1);
            }
            due("count(8)", y.count(8), 6);
            for (int left = 5; left >= 0; left--) {
                due("undo()", y.undo(), left);
                due("beds", y.hole(0, 1), left + more);
            }
            due("a seventh undo()", y.undo(), STATE);
            due("beds then", y.hole(0, 1), more);
        }
    }

    private static void undoTakesTheLatestOne() {
        answers.part("Undo: the most recently saved state, which is discarded");
        BoreholeColumns x = new BoreholeColumns();
        x.setCollar(0, 1);
        x.setCollar(0, 2);
        due("undo()", x.undo(), 1);
        due("the collar", x.hole(0, 0), 1);
        x.setCollar(0, 3);
        x.setCollar(0, 4);
        due("undo()", x.undo(), 2);
        due("the collar", x.hole(0, 0), 3);
        due("undo()", x.undo(), 1);
        due("the collar", x.hole(0, 0), 1);
        due("undo()", x.undo(), 0);
        due("the collar", x.hole(0, 0), 0);
    }

    private static void undoLeavesTheTextAndTheImages() {
        answers.part("Undo: neither the text nor the images");
        BoreholeColumns x = new BoreholeColumns();
        x.addBed(0, 0, 0, 5);
        x.addBed(0, 0, 1, 5);
        x.keep(1);
        Holes.write(x, "1:q7;");
        x.undo();
        x.undo();
        due("beds", x.count(6), 0);
        due("the image", x.count(9), 2);
        due("the text", x.count(7), 5);
        due("back(1)", x.back(1), 2);
        due("load()", x.load(), 1);
        due("undo() of load()", x.undo(), 1);
        due("the text that was read stays gone", x.count(7), 0);
    }

    private static final Twins.Call[] LOOKING = {x -> x.count(5), x -> x.hole(0, 2), x -> x.bed(0, 5, 3),
        x -> x.find(0, 0, 2), x -> x.account(0), x -> x.cost(0, 1, 0), x -> x.cost(0, 1, 1), x -> x.why(0, 1, 1, 1),
        x -> x.partner(0, 1, 0, 5), x -> x.matched(0, 1, 5), x -> x.fault(0, 1, 0, 1), x -> x.sumOfThrows(0, 1, 2),
        x -> x.nearest(3, 1), x -> x.closed(0, 1, 2), x -> x.bed(0, 6, 0), x -> x.find(3, 0, 0), x -> x.fault(0, 1, 9, 0),
        x -> x.sumOfThrows(0, 3, 0)};

    private static void lookingChangesNothing() {
        for (int k = 0; k < LOOKING.length; k++) {
            answers.part("looking and matching: nothing changes by the call " + k);
            answers.holds("alike", Twins.alike(Holes::busy, LOOKING[k]));
        }
    }

    /** More of the codes is told promise by promise, in BoundsTest. */
    private static void errors() {
        answers.part("Errors: the code that is named first");
        BoreholeColumns x = Holes.with(Holes.many(0, 24, 4));
        due("addBed() without room, of a wrong mark", x.addBed(0, 0, 26, 1), INVALID);
        due("cut() without room, of a wrong depth", x.cut(0, 96, 1), INVALID);
        due("back() of nothing, of a wrong image", x.back(2), INVALID);
        answers.part("Errors: NONE, only if no error code applies");
        due("bed() that there is not, of a wrong property", x.bed(0, 24, 4), INVALID);
        due("find() of a mark that there is not, wrongly numbered", x.find(0, 1, -1), INVALID);
        due("fault() that there is not, of a wrong hole", x.fault(0, 4, 0, 0), INVALID);
        due("sumOfThrows() of no match, wrongly asked", x.sumOfThrows(0, 1, 3), INVALID);
    }
}
