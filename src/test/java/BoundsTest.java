/**
 * Of each promise the ranges of its arguments, what it returns, and its error codes in their order,
 * each by a test of its own. What is refused is asked of one of two objects that are alike, and
 * leaves them alike. No object is asked for more than 512 calls.
 */
public final class BoundsTest {
    private static final int INVALID = Answers.INVALID;
    private static final int STATE = Answers.STATE;
    private static final int FULL = Answers.FULL;
    private static final int NONE = Answers.NONE;
    private static final int TEXT_ERROR = -2000000;

    private static final Answers answers = new Answers("BoundsTest");

    /** A call with one argument left open. */
    interface Open {
        int on(BoreholeColumns x, int argument);
    }

    /** A call with its two holes left open. */
    interface Pair {
        int on(BoreholeColumns x, int a, int b);
    }

    private BoundsTest() {
    }

    public static void main(String[] args) {
        promise01ANewObject();
        promise02SetNumber();
        promise03SetKey();
        promise04SetCollar();
        promise05AddBed();
        promise06RemoveBed();
        promise07SetThickness();
        promise08Cut();
        promise09AppendCharacter();
        promise10ClearText();
        promise11Load();
        promise12Keep();
        promise13Back();
        promise14Undo();
        promise15Count();
        promise16Hole();
        promise17Bed();
        promise18Find();
        promise19Account();
        promise20Cost();
        promise21Why();
        promise22Partner();
        promise23Matched();
        promise24Fault();
        promise25SumOfThrows();
        promise26Nearest();
        promise27Closed();
        answers.end();
    }

    private static void due(String what, long got, long want) {
        answers.due(what, got, want);
    }

    private static void refused(String what, Twins.Maker maker, Twins.Call call, int want) {
        due(what, call.on(maker.make()), want);
        answers.holds(what + " changes nothing", Twins.alike(maker, call));
    }

    private static void refused(String what, Twins.Call call, int want) {
        refused(what, Holes::busy, call, want);
    }

    /** What lies just outside of a range and far outside of it is refused. */
    private static void outside(String call, int from, int to, Twins.Maker maker, Open open) {
        int[] outside = {from - 1, to + 1, from - 256, to + 256, from - 65536, to + 65536,
            Integer.MIN_VALUE, Integer.MIN_VALUE + 1, Integer.MAX_VALUE, Integer.MAX_VALUE - 1};
        for (int argument : outside) {
            String told = call.replace("?", String.valueOf(argument));
            due(told, open.on(maker.make(), argument), INVALID);
        }
        refused(call.replace("?", "one less"), maker, x -> open.on(x, from - 1), INVALID);
        refused(call.replace("?", "one more"), maker, x -> open.on(x, to + 1), INVALID);
    }

    private static void outside(String call, int from, int to, Open open) {
        outside(call, from, to, Holes::busy, open);
    }

    /** Every number of a range is taken, each by an object of its own. */
    private static void inside(String call, int from, int to, Open open) {
        for (int argument = from; argument <= to; argument++) {
            int answer = open.on(Holes.busy(), argument);
            answers.holds(call.replace("?", String.valueOf(argument)) + " answered " + answer, answer > INVALID);
        }
    }

    private static void holeIsFrom0To3(String call, Open open) {
        inside(call, 0, 3, open);
        outside(call, 0, 3, open);
    }

    private static void columnIs(BoreholeColumns x, int hole, String want) {
        answers.holds("hole " + hole + " has " + Sight.column(x, hole) + ", due is " + want,
                want.equals(Sight.column(x, hole)));
    }

    private static BoreholeColumns full() {
        return Holes.with(Holes.many(0, 24, 4));
    }

    private static void promise01ANewObject() {
        answers.part("promise 1: without beds");
        due("count(6)", new BoreholeColumns().count(6), 0);
        answers.part("promise 1: without key marks");
        due("count(5)", new BoreholeColumns().count(5), 0);
        answers.part("promise 1: without images");
        due("count(9)", new BoreholeColumns().count(9), 0);
        answers.part("promise 1: with an empty text");
        due("count(7)", new BoreholeColumns().count(7), 0);
        due("load()", new BoreholeColumns().load(), TEXT_ERROR);
        answers.part("promise 1: without saved states");
        due("count(8)", new BoreholeColumns().count(8), 0);
        answers.part("promise 1: with nothing of another object");
        String before = Twins.of(BoreholeColumns::new);
        Holes.busy();
        answers.holds("a new one is as an earlier one", before.equals(Twins.of(BoreholeColumns::new)));
    }

    private static void promise02SetNumber() {
        int[] first = {10, 6, 1, 3, 5};
        int[] least = {1, 1, 0, 1, 1};
        int[] most = {99, 99, 9, 8, 999};
        for (int what = 0; what <= 4; what++) {
            int number = what;
            answers.part("promise 2: the range of the number " + what);
            for (int value = least[what]; value <= most[what]; value++) {
                BoreholeColumns x = new BoreholeColumns();
                due("setNumber(" + what + ", " + value + ")", x.setNumber(what, value), first[what]);
                due("then", x.count(what), value);
            }
            outside("setNumber(" + what + ", ?)", least[what], most[what], (x, value) -> x.setNumber(number, value));
            answers.part("promise 2: returns the previous number " + what);
            BoreholeColumns x = new BoreholeColumns();
            x.setNumber(what, most[what]);
            due("setNumber()", x.setNumber(what, least[what]), most[what]);
            due("setNumber() once more", x.setNumber(what, least[what]), least[what]);
            for (int other = 0; other <= 4; other++) {
                due("count(" + other + ")", x.count(other), other == what ? least[what] : first[other]);
            }
        }
        answers.part("promise 2: what, 0 to 4");
        outside("setNumber(?, 5)", 0, 4, (x, what) -> x.setNumber(what, 5));
    }

    private static void promise03SetKey() {
        answers.part("promise 3: mark, 0 to 25");
        inside("setKey(?, 1)", 0, 25, (x, mark) -> x.setKey(mark, 1));
        outside("setKey(?, 1)", 0, 25, (x, mark) -> x.setKey(mark, 1));
        answers.part("promise 3: is, 1 or 0");
        inside("setKey(0, ?)", 0, 1, (x, is) -> x.setKey(0, is));
        outside("setKey(0, ?)", 0, 1, (x, is) -> x.setKey(0, is));
        answers.part("promise 3: returns 1 if it was one, otherwise 0");
        for (int mark = 0; mark <= 25; mark++) {
            BoreholeColumns x = new BoreholeColumns();
            due("setKey(" + mark + ", 0) of none", x.setKey(mark, 0), 0);
            due("setKey(" + mark + ", 1) of none", x.setKey(mark, 1), 0);
            due("setKey(" + mark + ", 1) of one", x.setKey(mark, 1), 1);
            due("count(5)", x.count(5), 1);
            due("setKey(" + mark + ", 0) of one", x.setKey(mark, 0), 1);
            due("count(5)", x.count(5), 0);
        }
    }

    private static void promise04SetCollar() {
        answers.part("promise 4: hole, 0 to 3");
        holeIsFrom0To3("setCollar(?, 7)", (x, hole) -> x.setCollar(hole, 7));
        answers.part("promise 4: elevation, -9999 to 9999");
        inside("setCollar(0, ?)", -9999, -9998, (x, elevation) -> x.setCollar(0, elevation));
        inside("setCollar(0, ?)", 9998, 9999, (x, elevation) -> x.setCollar(0, elevation));
        outside("setCollar(0, ?)", -9999, 9999, (x, elevation) -> x.setCollar(0, elevation));
        answers.part("promise 4: returns the previous elevation");
        for (int hole = 0; hole <= 3; hole++) {
            BoreholeColumns x = new BoreholeColumns();
            due("setCollar() of hole " + hole, x.setCollar(hole, -9999), 0);
            due("setCollar() again", x.setCollar(hole, 9999), -9999);
            due("setCollar() once more", x.setCollar(hole, 9999), 9999);
            due("hole()", x.hole(hole, 0), 9999);
        }
    }

    private static void promise05AddBed() {
        answers.part("promise 5: hole, 0 to 3");
        holeIsFrom0To3("addBed(?, 0, 0, 1)", (x, hole) -> x.addBed(hole, 0, 0, 1));
        answers.part("promise 5: index, 0 to the number of its beds");
        inside("addBed(0, ?, 0, 1)", 0, 6, (x, index) -> x.addBed(0, index, 0, 1));
        outside("addBed(0, ?, 0, 1)", 0, 6, (x, index) -> x.addBed(0, index, 0, 1));
        inside("addBed(3, ?, 0, 1)", 0, 0, (x, index) -> x.addBed(3, index, 0, 1));
        outside("addBed(3, ?, 0, 1)", 0, 0, (x, index) -> x.addBed(3, index, 0, 1));
        answers.part("promise 5: index, the number of the new bed");
        String[] want = {"z9a10b20c5", "a10z9b20c5", "a10b20z9c5", "a10b20c5z9"};
        for (int index = 0; index <= 3; index++) {
            BoreholeColumns x = Holes.with("0:a10b20c5;");
            x.addBed(0, index, 25, 9);
            columnIs(x, 0, want[index]);
        }
        answers.part("promise 5: mark, 0 to 25");
        inside("addBed(0, 0, ?, 1)", 0, 25, (x, mark) -> x.addBed(0, 0, mark, 1));
        outside("addBed(0, 0, ?, 1)", 0, 25, (x, mark) -> x.addBed(0, 0, mark, 1));
        answers.part("promise 5: thickness, 1 to 99");
        inside("addBed(0, 0, 0, ?)", 1, 99, (x, thickness) -> x.addBed(0, 0, 0, thickness));
        outside("addBed(0, 0, 0, ?)", 1, 99, (x, thickness) -> x.addBed(0, 0, 0, thickness));
        answers.part("promise 5: returns the number of beds then");
        due("of a hole with 6", Holes.busy().addBed(0, 6, 0, 1), 7);
        due("of a hole with none", Holes.busy().addBed(3, 0, 0, 1), 1);
        due("of a hole with 23", Holes.with(Holes.many(0, 23, 4)).addBed(0, 23, 0, 1), 24);
        answers.part("promise 5: CAPACITY_EXCEEDED if the hole has 24 beds");
        refused("at the end", BoundsTest::full, x -> x.addBed(0, 24, 0, 1), FULL);
        refused("at the top", BoundsTest::full, x -> x.addBed(0, 0, 25, 99), FULL);
        answers.part("promise 5: INVALID_ARGUMENT ahead of CAPACITY_EXCEEDED");
        refused("index", BoundsTest::full, x -> x.addBed(0, 25, 0, 1), INVALID);
        refused("index", BoundsTest::full, x -> x.addBed(0, -1, 0, 1), INVALID);
        refused("mark", BoundsTest::full, x -> x.addBed(0, 24, 26, 1), INVALID);
        refused("mark", BoundsTest::full, x -> x.addBed(0, 24, -1, 1), INVALID);
        refused("thickness", BoundsTest::full, x -> x.addBed(0, 24, 0, 0), INVALID);
        refused("thickness", BoundsTest::full, x -> x.addBed(0, 24, 0, 100), INVALID);
    }

    private static void promise06RemoveBed() {
        answers.part("promise 6: hole, 0 to 3");
        inside("removeBed(?, 0)", 0, 2, (x, hole) -> x.removeBed(hole, 0));
        outside("removeBed(?, 0)", 0, 3, (x, hole) -> x.removeBed(hole, 0));
        answers.part("promise 6: a bed of the hole");
        inside("removeBed(0, ?)", 0, 5, (x, bed) -> x.removeBed(0, bed));
        outside("removeBed(0, ?)", 0, 5, (x, bed) -> x.removeBed(0, bed));
        outside("removeBed(0, ?) of 24", 0, 23, BoundsTest::full, (x, bed) -> x.removeBed(0, bed));
        refused("removeBed(3, 0) of no beds", x -> x.removeBed(3, 0), INVALID);
        answers.part("promise 6: returns its thickness");
        String[] left = {"b99c20", "a1c20", "a1b99"};
        int[] thicknesses = {1, 99, 20};
        for (int bed = 0; bed <= 2; bed++) {
            BoreholeColumns x = Holes.with("1:a1b99c20;");
            due("removeBed(1, " + bed + ")", x.removeBed(1, bed), thicknesses[bed]);
            columnIs(x, 1, left[bed]);
            due("account(2)", x.account(2), thicknesses[bed]);
        }
        BoreholeColumns x = full();
        due("the last one of 24", x.removeBed(0, 23), 4);
        due("beds then", x.hole(0, 1), 23);
    }

    private static void promise07SetThickness() {
        answers.part("promise 7: hole, 0 to 3");
        inside("setThickness(?, 0, 5)", 0, 2, (x, hole) -> x.setThickness(hole, 0, 5));
        outside("setThickness(?, 0, 5)", 0, 3, (x, hole) -> x.setThickness(hole, 0, 5));
        answers.part("promise 7: a bed of the hole");
        inside("setThickness(0, ?, 5)", 0, 5, (x, bed) -> x.setThickness(0, bed, 5));
        outside("setThickness(0, ?, 5)", 0, 5, (x, bed) -> x.setThickness(0, bed, 5));
        outside("setThickness(0, ?, 5) of 24", 0, 23, BoundsTest::full, (x, bed) -> x.setThickness(0, bed, 5));
        refused("setThickness(3, 0, 5) of no beds", x -> x.setThickness(3, 0, 5), INVALID);
        answers.part("promise 7: thickness, 1 to 99");
        inside("setThickness(0, 0, ?)", 1, 99, (x, thickness) -> x.setThickness(0, 0, thickness));
        outside("setThickness(0, 0, ?)", 1, 99, (x, thickness) -> x.setThickness(0, 0, thickness));
        answers.part("promise 7: returns the previous thickness");
        BoreholeColumns x = Holes.with("0:a10b20;");
        due("to more", x.setThickness(0, 1, 99), 20);
        due("to less", x.setThickness(0, 1, 1), 99);
        due("to as much", x.setThickness(0, 1, 1), 1);
        columnIs(x, 0, "a10b1");
        answers.part("promise 7: what is more comes, what is less goes by edits");
        due("account(1)", x.account(1), 30 + 79);
        due("account(2)", x.account(2), 98);
    }

    private static void promise08Cut() {
        answers.part("promise 8: hole, 0 to 3");
        inside("cut(?, 5, 1)", 0, 2, (x, hole) -> x.cut(hole, 5, 1));
        outside("cut(?, 5, 1)", 0, 3, (x, hole) -> x.cut(hole, 5, 1));
        answers.part("promise 8: depth, 1 to the length of the column less 1");
        inside("cut(0, ?, 1)", 1, 31, (x, depth) -> x.cut(0, depth, 1));
        outside("cut(0, ?, 1)", 1, 31, (x, depth) -> x.cut(0, depth, 1));
        outside("cut(0, ?, -1)", 1, 31, (x, depth) -> x.cut(0, depth, -1));
        refused("cut(3, 1, 1) of no beds", x -> x.cut(3, 1, 1), INVALID);
        answers.part("promise 8: by, -depth to 9999");
        inside("cut(0, 5, ?)", -5, -1, (x, by) -> x.cut(0, 5, by));
        inside("cut(0, 5, ?)", 1, 40, (x, by) -> x.cut(0, 5, by));
        inside("cut(0, 5, ?)", 9998, 9999, (x, by) -> x.cut(0, 5, by));
        outside("cut(0, 5, ?)", -5, 9999, (x, by) -> x.cut(0, 5, by));
        outside("cut(0, 31, ?)", -31, 9999, (x, by) -> x.cut(0, 31, by));
        answers.part("promise 8: by, not 0");
        refused("cut(0, 5, 0)", x -> x.cut(0, 5, 0), INVALID);
        answers.part("promise 8: returns the number of beds then");
        due("of a3 a2 a7 b5 b10 c5, in the third", Holes.busy().cut(0, 6, 1), 7);
        due("two beds less", Holes.busy().cut(0, 5, 12), 4);
        due("all but the first", Holes.busy().cut(0, 3, 29), 1);
        due("all there once more", Holes.busy().cut(0, 27, -27), 11);
        BoreholeColumns high = Holes.busy();
        high.cut(1, 5, -3);
        due("the collar stays", high.hole(1, 0), 100);
        answers.part("promise 8: CAPACITY_EXCEEDED if there would be more than 24 beds");
        refused("25", BoundsTest::full, x -> x.cut(0, 1, 1), FULL);
        refused("26", BoundsTest::full, x -> x.cut(0, 95, -1), FULL);
        due("24", full().cut(0, 1, 4), 24);
        answers.part("promise 8: INVALID_ARGUMENT ahead of CAPACITY_EXCEEDED");
        refused("depth", BoundsTest::full, x -> x.cut(0, 96, -1), INVALID);
        refused("depth", BoundsTest::full, x -> x.cut(0, 0, 1), INVALID);
        refused("by", BoundsTest::full, x -> x.cut(0, 1, -2), INVALID);
        refused("by", BoundsTest::full, x -> x.cut(0, 95, -96), INVALID);
        refused("by", BoundsTest::full, x -> x.cut(0, 1, 0), INVALID);
        refused("by", BoundsTest::full, x -> x.cut(0, 1, 10000), INVALID);
    }

    private static BoreholeColumns fullText() {
        BoreholeColumns x = new BoreholeColumns();
        Holes.write(x, "0:a1;" + " ".repeat(95));
        return x;
    }

    private static void promise09AppendCharacter() {
        answers.part("promise 9: character code, 0 to 255");
        inside("appendCharacter(?)", 0, 255, (x, character) -> x.appendCharacter(character));
        outside("appendCharacter(?)", 0, 255, (x, character) -> x.appendCharacter(character));
        answers.part("promise 9: returns the new length of the text");
        BoreholeColumns x = new BoreholeColumns();
        for (int length = 1; length <= 100; length++) {
            due("appendCharacter(" + length + ")", x.appendCharacter(length), length);
            due("count(7)", x.count(7), length);
        }
        answers.part("promise 9: CAPACITY_EXCEEDED if the text has 100 characters");
        refused("a 101st", BoundsTest::fullText, y -> y.appendCharacter(' '), FULL);
        due("the text is as it was", fullText().load(), 1);
        answers.part("promise 9: INVALID_ARGUMENT ahead of CAPACITY_EXCEEDED");
        refused("256", BoundsTest::fullText, y -> y.appendCharacter(256), INVALID);
        refused("-1", BoundsTest::fullText, y -> y.appendCharacter(-1), INVALID);
    }

    private static void promise10ClearText() {
        answers.part("promise 10: returns the previous length of the text");
        due("of an empty one", new BoreholeColumns().clearText(), 0);
        due("of 6", Holes.busy().clearText(), 6);
        due("of a full one", fullText().clearText(), 100);
        answers.part("promise 10: makes the text empty");
        BoreholeColumns x = fullText();
        x.clearText();
        due("count(7)", x.count(7), 0);
        due("clearText() again", x.clearText(), 0);
        due("load()", x.load(), TEXT_ERROR);
        due("appendCharacter()", x.appendCharacter('1'), 1);
        due("nothing stands behind it", x.load(), TEXT_ERROR - 1);
    }

    private static void promise11Load() {
        answers.part("promise 11: returns the number of beds of the hole then");
        due("none", Holes.read(new BoreholeColumns(), "3:;"), 0);
        due("two, of more in other holes", Holes.read(Holes.busy(), "3:a1b2;"), 2);
        due("24", Holes.read(new BoreholeColumns(), Holes.many(3, 24, 1)), 24);
        answers.part("promise 11: the text becomes empty");
        BoreholeColumns x = fullText();
        x.load();
        due("count(7)", x.count(7), 0);
        due("load() again", x.load(), TEXT_ERROR);
        answers.part("promise 11: the column in place of what the hole had");
        BoreholeColumns y = Holes.with("1:a1b2c3;", "1:z9;");
        columnIs(y, 1, "z9");
        due("what it had goes", y.account(2), 6);
        due("what the text tells comes", y.account(1), 15);
        y.setCollar(1, 7);
        Holes.read(y, "1:;");
        columnIs(y, 1, "");
        due("the collar stays", y.hole(1, 0), 7);
        answers.part("promise 11: nothing changes if the text has an error, and the text is kept");
        refused("at its end", x1 -> x1.load(), TEXT_ERROR - 6);
        BoreholeColumns late = Holes.busy();
        due("load()", late.load(), TEXT_ERROR - 6);
        due("appendCharacter()", late.appendCharacter(';'), 7);
        due("load() when it is ended", late.load(), 2);
        columnIs(late, 1, "q7r8");
    }

    private static void promise12Keep() {
        answers.part("promise 12: image, 0 or 1");
        inside("keep(?)", 0, 1, (x, image) -> x.keep(image));
        outside("keep(?)", 0, 1, (x, image) -> x.keep(image));
        answers.part("promise 12: returns the number of beds of all its holes");
        due("of none", new BoreholeColumns().keep(0), 0);
        due("of 10", Holes.busy().keep(1), 10);
        due("of 96", Holes.with(Holes.many(0, 24, 1), Holes.many(1, 24, 1), Holes.many(2, 24, 1),
                Holes.many(3, 24, 1)).keep(0), 96);
        answers.part("promise 12: in place of what it kept");
        for (int image = 0; image <= 1; image++) {
            BoreholeColumns x = Holes.with("0:a1b1;");
            x.keep(0);
            x.keep(1);
            x.addBed(0, 0, 0, 5);
            x.keep(image);
            x.addBed(0, 0, 0, 6);
            due("back() to it", x.back(image), 3);
            due("back() to the other one", x.back(1 - image), 2);
        }
    }

    private static void promise13Back() {
        answers.part("promise 13: image, 0 or 1");
        inside("back(?)", 0, 1, (x, image) -> x.back(image));
        outside("back(?)", 0, 1, (x, image) -> x.back(image));
        answers.part("promise 13: ILLEGAL_STATE if it keeps nothing");
        refused("back(0)", BoundsTest::full, x -> x.back(0), STATE);
        refused("back(1)", BoundsTest::full, x -> x.back(1), STATE);
        answers.part("promise 13: INVALID_ARGUMENT ahead of ILLEGAL_STATE");
        outside("back(?) while none keeps anything", 0, 1, BoundsTest::full, (x, image) -> x.back(image));
        answers.part("promise 13: returns the number of beds of all holes then");
        BoreholeColumns x = Holes.busy();
        due("back(0)", x.back(0), 8);
        due("count(6)", x.count(6), 8);
        columnIs(x, 0, "a10b20c5");
        due("back(1)", x.back(1), 11);
        due("count(6)", x.count(6), 11);
        columnIs(x, 0, "a3a2a7b5b10c5");
        answers.part("promise 13: the image stays");
        for (int round = 0; round < 3; round++) {
            x.removeBed(0, 0);
            due("back(0)", x.back(0), 8);
            due("count(9)", x.count(9), 3);
        }
        answers.part("promise 13: what is changed then is not changed in the image");
        x.setThickness(0, 0, 77);
        x.back(0);
        columnIs(x, 0, "a10b20c5");
    }

    private static void promise14Undo() {
        answers.part("promise 14: returns the number of states that are still saved");
        BoreholeColumns x = Holes.busy();
        for (int left = 5; left >= 0; left--) {
            due("undo()", x.undo(), left);
            due("count(8)", x.count(8), left);
        }
        answers.part("promise 14: ILLEGAL_STATE if there is none");
        due("undo()", x.undo(), STATE);
        refused("undo() of a new object", BoreholeColumns::new, y -> y.undo(), STATE);
        refused("undo() of a full image", () -> {
            BoreholeColumns y = new BoreholeColumns();
            y.keep(0);
            Holes.write(y, "0:a1");
            return y;
        }, y -> y.undo(), STATE);
        answers.part("promise 14: restores the most recently saved state");
        BoreholeColumns y = Holes.busy();
        y.undo();
        columnIs(y, 2, "a10a11b20");
        y.undo();
        columnIs(y, 1, "a12c5");
        y.undo();
        columnIs(y, 0, "a10b5b10c5");
        due("account(4)", y.account(4), 0);
        y.undo();
        columnIs(y, 0, "a10b20c5");
        due("account(3)", y.account(3), 0);
        y.undo();
        due("the collar", y.hole(1, 0), 0);
        due("a key mark", y.count(5), 1);
        y.undo();
        due("a key mark", y.count(5), 0);
        due("m", y.count(0), 12);
    }

    private static void promise15Count() {
        answers.part("promise 15: what, 0 to 9");
        outside("count(?)", 0, 9, (x, what) -> x.count(what));
        answers.part("promise 15: returns the number");
        int[] want = {12, 6, 1, 3, 5, 1, 10, 6, 6, 3};
        for (int what = 0; what <= 9; what++) {
            due("count(" + what + ")", Holes.busy().count(what), want[what]);
        }
        answers.part("promise 15: the images that keep something, as a bit mask");
        for (int mask = 0; mask <= 3; mask++) {
            BoreholeColumns x = new BoreholeColumns();
            for (int image = 0; image <= 1; image++) {
                if ((mask & 1 << image) != 0) {
                    x.keep(image);
                }
            }
            due("count(9)", x.count(9), mask);
        }
    }

    private static void promise16Hole() {
        answers.part("promise 16: hole, 0 to 3");
        holeIsFrom0To3("hole(?, 1)", (x, hole) -> x.hole(hole, 1));
        outside("hole(?, 0)", 0, 3, (x, hole) -> x.hole(hole, 0));
        answers.part("promise 16: what, 0 to 2");
        outside("hole(0, ?)", 0, 2, (x, what) -> x.hole(0, what));
        answers.part("promise 16: returns the property");
        int[][] want = {{0, 6, 32}, {100, 2, 21}, {0, 2, 30}, {0, 0, 0}};
        for (int hole = 0; hole <= 3; hole++) {
            for (int what = 0; what <= 2; what++) {
                due("hole(" + hole + ", " + what + ")", Holes.busy().hole(hole, what), want[hole][what]);
            }
        }
    }

    private static void promise17Bed() {
        answers.part("promise 17: hole, 0 to 3");
        inside("bed(?, 0, 1)", 0, 2, (x, hole) -> x.bed(hole, 0, 1));
        outside("bed(?, 0, 1)", 0, 3, (x, hole) -> x.bed(hole, 0, 1));
        answers.part("promise 17: what, 0 to 3");
        inside("bed(0, 0, ?)", 0, 3, (x, what) -> x.bed(0, 0, what));
        outside("bed(0, 0, ?)", 0, 3, (x, what) -> x.bed(0, 0, what));
        answers.part("promise 17: INVALID_ARGUMENT if bed is negative");
        refused("bed(0, -1, 0)", x -> x.bed(0, -1, 0), INVALID);
        refused("bed(3, -1, 0) of no beds", x -> x.bed(3, -1, 0), INVALID);
        refused("bed(0, least, 0)", x -> x.bed(0, Integer.MIN_VALUE, 0), INVALID);
        answers.part("promise 17: NONE if there are not so many");
        for (int what = 0; what <= 3; what++) {
            due("the seventh of six", Holes.busy().bed(0, 6, what), NONE);
            due("the first of none", Holes.busy().bed(3, 0, what), NONE);
            due("the 25th of 24", full().bed(0, 24, what), NONE);
            due("the last of all", full().bed(0, Integer.MAX_VALUE, what), NONE);
        }
        answers.part("promise 17: INVALID_ARGUMENT ahead of NONE");
        refused("hole", x -> x.bed(4, 99, 0), INVALID);
        refused("hole", x -> x.bed(-1, 99, 0), INVALID);
        refused("what", x -> x.bed(0, 6, 4), INVALID);
        refused("what", x -> x.bed(0, 6, -1), INVALID);
        answers.part("promise 17: returns the property, of 0 the top one");
        BoreholeColumns x = Holes.busy();
        int[][] want = {{0, 12, 0, 100}, {2, 9, 12, 88}};
        for (int bed = 0; bed <= 1; bed++) {
            for (int what = 0; what <= 3; what++) {
                due("bed(1, " + bed + ", " + what + ")", x.bed(1, bed, what), want[bed][what]);
            }
        }
        due("the last of 24", full().bed(0, 23, 2), 92);
    }

    private static void promise18Find() {
        answers.part("promise 18: hole, 0 to 3");
        inside("find(?, 0, 0)", 0, 2, (x, hole) -> x.find(hole, 0, 0));
        outside("find(?, 0, 0)", 0, 3, (x, hole) -> x.find(hole, 0, 0));
        answers.part("promise 18: mark, 0 to 25");
        outside("find(0, ?, 0)", 0, 25, (x, mark) -> x.find(0, mark, 0));
        BoreholeColumns all = Holes.with("0:abcdefghijklmnopqrstuvwx;".replaceAll("([a-z])", "$11"), "1:y1z1;");
        for (int mark = 0; mark <= 25; mark++) {
            due("find() of " + mark, all.find(mark / 24, mark, 0), mark % 24);
        }
        answers.part("promise 18: which, 0 for the topmost bed with this mark");
        int[] want = {0, 1, 2, NONE, NONE};
        for (int which = 0; which <= 4; which++) {
            due("find(0, 0, " + which + ")", Holes.busy().find(0, 0, which), want[which]);
        }
        due("find(0, 1, 1)", Holes.busy().find(0, 1, 1), 4);
        answers.part("promise 18: INVALID_ARGUMENT if which is negative");
        refused("find(0, 0, -1)", x -> x.find(0, 0, -1), INVALID);
        refused("find(0, 0, least)", x -> x.find(0, 0, Integer.MIN_VALUE), INVALID);
        answers.part("promise 18: NONE if there are not so many");
        due("of a mark that is not there", Holes.busy().find(0, 25, 0), NONE);
        due("of a hole without beds", Holes.busy().find(3, 0, 0), NONE);
        due("the 24th of 24", full().find(0, 0, 23), 23);
        due("the 25th of 24", full().find(0, 0, 24), NONE);
        due("the last of all", full().find(0, 0, Integer.MAX_VALUE), NONE);
        answers.part("promise 18: INVALID_ARGUMENT ahead of NONE");
        refused("hole", x -> x.find(4, 25, 0), INVALID);
        refused("mark", x -> x.find(3, 26, 0), INVALID);
        refused("mark", x -> x.find(3, -1, 0), INVALID);
        refused("which", x -> x.find(3, 0, -1), INVALID);
    }

    private static void promise19Account() {
        answers.part("promise 19: what, 0 to 4");
        outside("account(?)", 0, 4, (x, what) -> x.account(what));
        answers.part("promise 19: returns the sum");
        int[] want = {83, 97, 11, 5, 2};
        for (int what = 0; what <= 4; what++) {
            due("account(" + what + ")", Holes.busy().account(what), want[what]);
            due("account(" + what + ") of a new object", new BoreholeColumns().account(what), 0);
        }
        due("account(0) of the longest columns", Holes.with(Holes.many(0, 24, 99), Holes.many(1, 24, 99),
                Holes.many(2, 24, 99), Holes.many(3, 24, 99)).account(0), 4 * 24 * 99);
    }

    /** Of a call with two holes: either is 0 to 3, and they are not the same one. */
    private static void holesOfPair(String name, String rest, Pair pair) {
        outside(name + "(?, 1" + rest, 0, 3, (x, a) -> pair.on(x, a, 1));
        outside(name + "(1, ?" + rest, 0, 3, (x, b) -> pair.on(x, 1, b));
        for (int hole = 0; hole <= 3; hole++) {
            int same = hole;
            refused(name + "(" + hole + ", " + hole + rest, x -> pair.on(x, same, same), INVALID);
        }
    }

    /** Columns of one bed in each hole, so that every two of them can be asked for. */
    private static BoreholeColumns four() {
        return Holes.with("0:a5;", "1:a6;", "2:a8;", "3:a12;");
    }

    private static void promise20Cost() {
        answers.part("promise 20: a and b, 0 to 3, not the same");
        holesOfPair("cost", ", 0)", (x, a, b) -> x.cost(a, b, 0));
        holesOfPair("cost", ", 1)", (x, a, b) -> x.cost(a, b, 1));
        answers.part("promise 20: way, 0 or 1");
        outside("cost(0, 1, ?)", 0, 1, (x, way) -> x.cost(0, 1, way));
        answers.part("promise 20: returns the cost, the two ways agree");
        int[][] want = {{0, 1, 3, 7}, {1, 0, 2, 6}, {3, 2, 0, 4}, {7, 6, 4, 0}};
        for (int a = 0; a <= 3; a++) {
            for (int b = 0; b <= 3; b++) {
                for (int way = 0; way <= 1 && a != b; way++) {
                    due("cost(" + a + ", " + b + ", " + way + ")", four().cost(a, b, way), want[a][b]);
                }
            }
        }
    }

    private static void promise21Why() {
        answers.part("promise 21: a and b, 0 to 3, not the same");
        holesOfPair("why", ", 0, 0)", (x, a, b) -> x.why(a, b, 0, 0));
        holesOfPair("why", ", 1, 0)", (x, a, b) -> x.why(a, b, 1, 0));
        answers.part("promise 21: side, 0 or 1");
        outside("why(0, 1, ?, 0)", 0, 1, (x, side) -> x.why(0, 1, side, 0));
        answers.part("promise 21: a bed of a");
        inside("why(0, 1, 0, ?)", 0, 5, (x, bed) -> x.why(0, 1, 0, bed));
        outside("why(0, 1, 0, ?)", 0, 5, (x, bed) -> x.why(0, 1, 0, bed));
        outside("why(3, 0, 0, ?) of no beds", 0, -1, (x, bed) -> x.why(3, 0, 0, bed));
        answers.part("promise 21: a bed of b");
        inside("why(0, 1, 1, ?)", 0, 1, (x, bed) -> x.why(0, 1, 1, bed));
        outside("why(0, 1, 1, ?)", 0, 1, (x, bed) -> x.why(0, 1, 1, bed));
        outside("why(0, 3, 1, ?) of no beds", 0, -1, (x, bed) -> x.why(0, 3, 1, bed));
        answers.part("promise 21: returns 1 to 4");
        int[] ofA = {1, 2, 1};
        int[] ofB = {1, 3, 4, 1};
        for (int bed = 0; bed < 3; bed++) {
            due("why(0, 1, 0, " + bed + ")", everyStep().why(0, 1, 0, bed), ofA[bed]);
        }
        for (int bed = 0; bed < 4; bed++) {
            due("why(0, 1, 1, " + bed + ")", everyStep().why(0, 1, 1, bed), ofB[bed]);
        }
    }

    /** A match, b missing in B, a repeat of a, d missing in A, a match of c. */
    private static BoreholeColumns everyStep() {
        return Holes.with("0:a10b20c5;", "1:a10a11d7c9;");
    }

    private static void promise22Partner() {
        answers.part("promise 22: a and b, 0 to 3, not the same");
        holesOfPair("partner", ", 0, 0)", (x, a, b) -> x.partner(a, b, 0, 0));
        holesOfPair("partner", ", 1, 0)", (x, a, b) -> x.partner(a, b, 1, 0));
        answers.part("promise 22: side, 0 or 1");
        outside("partner(0, 1, ?, 0)", 0, 1, (x, side) -> x.partner(0, 1, side, 0));
        answers.part("promise 22: a bed of a");
        outside("partner(0, 1, 0, ?)", 0, 5, (x, bed) -> x.partner(0, 1, 0, bed));
        outside("partner(3, 0, 0, ?) of no beds", 0, -1, (x, bed) -> x.partner(3, 0, 0, bed));
        answers.part("promise 22: a bed of b");
        outside("partner(0, 1, 1, ?)", 0, 1, (x, bed) -> x.partner(0, 1, 1, bed));
        outside("partner(0, 3, 1, ?) of no beds", 0, -1, (x, bed) -> x.partner(0, 3, 1, bed));
        answers.part("promise 22: returns the bed of the other column, NONE if it is missing in one");
        int[] ofA = {0, NONE, 3};
        int[] ofB = {0, 0, NONE, 2};
        for (int bed = 0; bed < 3; bed++) {
            due("partner(0, 1, 0, " + bed + ")", everyStep().partner(0, 1, 0, bed), ofA[bed]);
        }
        for (int bed = 0; bed < 4; bed++) {
            due("partner(0, 1, 1, " + bed + ")", everyStep().partner(0, 1, 1, bed), ofB[bed]);
        }
        answers.part("promise 22: a bed of a that is repeated, but not matched, is missing");
        BoreholeColumns x = Holes.with("0:a5x5;", "1:x5a5;");
        x.setNumber(1, 9);
        due("the repeat", x.partner(0, 1, 1, 1), 0);
        due("what it repeats", x.partner(0, 1, 0, 0), NONE);
        answers.part("promise 22: INVALID_ARGUMENT ahead of NONE");
        refused("the same hole twice, bed 1 of it", y -> y.partner(0, 0, 0, 1), INVALID);
        refused("a bed that is missing, on a wrong side", BoundsTest::everyStep, y -> y.partner(0, 1, 2, 1), INVALID);
    }

    private static void promise23Matched() {
        answers.part("promise 23: a and b, 0 to 3, not the same");
        holesOfPair("matched", ", 1)", (x, a, b) -> x.matched(a, b, 1));
        holesOfPair("matched", ", 5)", (x, a, b) -> x.matched(a, b, 5));
        answers.part("promise 23: what, 1 to 5");
        outside("matched(0, 1, ?)", 1, 5, (x, what) -> x.matched(0, 1, what));
        answers.part("promise 23: returns the number, of matches the pairs");
        BoreholeColumns x = Holes.with("0:a10b20b3y20c5;", "1:a10a11a10a12d7e20f1g1c9;");
        int[] want = {2, 3, 3, 4, 1};
        for (int what = 1; what <= 5; what++) {
            due("matched(0, 1, " + what + ")", x.matched(0, 1, what), want[what - 1]);
        }
        due("24 pairs", Holes.with(Holes.many(0, 24, 3), Holes.many(3, 24, 3)).matched(3, 0, 1), 24);
    }

    private static void promise24Fault() {
        answers.part("promise 24: a and b, 0 to 3, not the same");
        holesOfPair("fault", ", 0, 0)", (x, a, b) -> x.fault(a, b, 0, 0));
        answers.part("promise 24: what, 0 to 2");
        outside("fault(0, 1, 0, ?)", 0, 2, (x, what) -> x.fault(0, 1, 0, what));
        answers.part("promise 24: INVALID_ARGUMENT if index is negative");
        refused("fault(0, 1, -1, 0)", BoundsTest::threeFaults, x -> x.fault(0, 1, -1, 0), INVALID);
        refused("fault(0, 1, least, 0)", BoundsTest::threeFaults, x -> x.fault(0, 1, Integer.MIN_VALUE, 0), INVALID);
        answers.part("promise 24: returns the bed of a ahead of it, its throw, its reason");
        int[][] want = {{0, 20, 1}, {2, -7, 4}, {4, 9, 0}};
        for (int index = 0; index <= 2; index++) {
            for (int what = 0; what <= 2; what++) {
                due("fault(0, 1, " + index + ", " + what + ")", threeFaults().fault(0, 1, index, what), want[index][what]);
            }
        }
        answers.part("promise 24: NONE if there are not so many");
        for (int what = 0; what <= 2; what++) {
            due("a fourth", threeFaults().fault(0, 1, 3, what), NONE);
            due("the last of all", threeFaults().fault(0, 1, Integer.MAX_VALUE, what), NONE);
            due("one of none", new BoreholeColumns().fault(0, 1, 0, what), NONE);
        }
        answers.part("promise 24: INVALID_ARGUMENT ahead of NONE");
        refused("what", x -> x.fault(2, 3, 0, 3), INVALID);
        refused("what", x -> x.fault(2, 3, 0, -1), INVALID);
        refused("index", x -> x.fault(2, 3, -1, 0), INVALID);
        refused("hole", x -> x.fault(3, 3, 0, 0), INVALID);
        refused("hole", x -> x.fault(3, 4, 99, 0), INVALID);
    }

    /** Throws of 20, -7, -3 (which is no fault), and 9. */
    private static BoreholeColumns threeFaults() {
        return Holes.with("0:a10b20c5d5e19f1;", "1:a10c5x7d8e10f1;");
    }

    private static void promise25SumOfThrows() {
        answers.part("promise 25: a and b, 0 to 3, not the same");
        holesOfPair("sumOfThrows", ", 0)", (x, a, b) -> x.sumOfThrows(a, b, 0));
        answers.part("promise 25: what, 0 to 2");
        outside("sumOfThrows(0, 1, ?)", 0, 2, (x, what) -> x.sumOfThrows(0, 1, what));
        answers.part("promise 25: returns the sum");
        int[] want = {19, 22, 19};
        for (int what = 0; what <= 2; what++) {
            BoreholeColumns x = threeFaults();
            x.setCollar(0, -9999);
            x.setCollar(1, 9999);
            due("sumOfThrows(0, 1, " + what + ")", x.sumOfThrows(0, 1, what), want[what]);
            due("sumOfThrows(1, 0, " + what + ")", x.sumOfThrows(1, 0, what), -want[what]);
            due("of one match", four().sumOfThrows(0, 3, what), 0);
        }
        answers.part("promise 25: NONE if there is no match");
        for (int what = 0; what <= 2; what++) {
            due("beds, but no match", Holes.with("0:a5;", "1:b5;").sumOfThrows(0, 1, what), NONE);
            due("no beds", new BoreholeColumns().sumOfThrows(2, 3, what), NONE);
        }
        answers.part("promise 25: INVALID_ARGUMENT ahead of NONE");
        refused("what", x -> x.sumOfThrows(0, 3, 3), INVALID);
        refused("what", x -> x.sumOfThrows(0, 3, -1), INVALID);
        refused("hole", x -> x.sumOfThrows(3, 3, 0), INVALID);
        refused("hole", x -> x.sumOfThrows(3, 4, 0), INVALID);
    }

    private static void promise26Nearest() {
        answers.part("promise 26: hole, 0 to 3");
        holeIsFrom0To3("nearest(?, 0)", (x, hole) -> x.nearest(hole, 0));
        holeIsFrom0To3("nearest(?, 1)", (x, hole) -> x.nearest(hole, 1));
        answers.part("promise 26: what, 0 or 1");
        outside("nearest(0, ?)", 0, 1, (x, what) -> x.nearest(0, what));
        answers.part("promise 26: the other hole, and the cost");
        int[] other = {1, 0, 1, 2};
        int[] cost = {1, 1, 2, 4};
        for (int hole = 0; hole <= 3; hole++) {
            due("nearest(" + hole + ", 0)", four().nearest(hole, 0), other[hole]);
            due("nearest(" + hole + ", 1)", four().nearest(hole, 1), cost[hole]);
        }
        answers.part("promise 26: of several the smallest one");
        int[] smallest = {1, 0, 0, 0};
        for (int hole = 0; hole <= 3; hole++) {
            BoreholeColumns x = Holes.with("0:a5;", "1:a5;", "2:a5;", "3:a5;");
            due("nearest(" + hole + ", 0) of all alike", x.nearest(hole, 0), smallest[hole]);
            due("nearest(" + hole + ", 1) of all alike", x.nearest(hole, 1), 0);
        }
        BoreholeColumns late = Holes.with("0:a5;", "1:a9;", "2:a8;", "3:a2;");
        due("of the last two", late.nearest(0, 0), 2);
        due("their cost", late.nearest(0, 1), 3);
        answers.part("promise 26: the column of the hole is the column A");
        BoreholeColumns x = Holes.with("0:a5;", "1:a5a5;", "2:a5b5;", "3:c9d9e9f9;");
        due("nearest(0, 0), by a repeat", x.nearest(0, 0), 1);
        due("nearest(0, 1), by a repeat", x.nearest(0, 1), 6);
        due("nearest(1, 1), where the same bed is missing", x.nearest(1, 1), 10);
    }

    private static void promise27Closed() {
        answers.part("promise 27: a, b and c, 0 to 3, no two the same");
        for (int a = 0; a <= 3; a++) {
            for (int b = 0; b <= 3; b++) {
                for (int c = 0; c <= 3; c++) {
                    boolean others = a != b && b != c && a != c;
                    due("closed(" + a + ", " + b + ", " + c + ")", four().closed(a, b, c), others ? 1 : INVALID);
                }
            }
        }
        outside("closed(?, 1, 2)", 0, 3, (x, a) -> x.closed(a, 1, 2));
        outside("closed(0, ?, 2)", 0, 3, (x, b) -> x.closed(0, b, 2));
        outside("closed(0, 1, ?)", 0, 3, (x, c) -> x.closed(0, 1, c));
        refused("closed(0, 1, 0)", x -> x.closed(0, 1, 0), INVALID);
        answers.part("promise 27: returns the number of beds");
        due("of columns without beds", new BoreholeColumns().closed(0, 1, 2), 0);
        due("of 24", Holes.with(Holes.many(0, 24, 3), Holes.many(1, 24, 3), Holes.many(2, 24, 3)).closed(2, 0, 1), 24);
        due("of two of three", Holes.with("0:a5b5c5;", "1:a5b5c5;", "2:a5c5;").closed(0, 1, 2), 2);
        due("of beds with other numbers", Holes.with("0:x5a5;", "1:a5;", "2:y5z5a5;").closed(0, 1, 2), 1);
        answers.part("promise 27: matched with no bed over another hole");
        due("missing in b", Holes.with("0:a5;", "2:a5;").closed(0, 1, 2), 0);
        due("missing in c", Holes.with("0:a5;", "1:a5;").closed(0, 1, 2), 0);
        answers.part("promise 27: matched with another bed over another hole");
        BoreholeColumns x = Holes.with("0:b5;", "1:b5a5b9;", "2:b9;");
        due("closed(0, 1, 2)", x.closed(0, 1, 2), 0);
        due("partner(0, 1, 0, 0)", x.partner(0, 1, 0, 0), 0);
        due("partner(1, 2, 0, 0)", x.partner(1, 2, 0, 0), NONE);
        due("partner(0, 2, 0, 0)", x.partner(0, 2, 0, 0), 0);
        promise27TheFirstOneNamedIsTheColumnA();
        answers.part("promise 27: a repeat is no match");
        due("of one bed and two", Holes.with("0:a5;", "1:a5a5;", "2:a5a5;").closed(0, 1, 2), 1);
    }

    /** Columns of which another column A, in one of the three matchings alone, would change the number. */
    private static void promise27TheFirstOneNamedIsTheColumnA() {
        answers.part("promise 27: of a and b, a is the column A");
        BoreholeColumns x = Holes.with("0:a5;", "1:a9a5;", "2:a5a5;");
        due("partner(0, 1, 0, 0), of two for 10 the upper one", x.partner(0, 1, 0, 0), 0);
        due("partner(1, 0, 1, 0), where no bed of B repeats", x.partner(1, 0, 1, 0), 1);
        due("closed(0, 1, 2)", x.closed(0, 1, 2), 1);
        answers.part("promise 27: of b and c, b is the column A");
        BoreholeColumns y = Holes.with("0:a5;", "1:a5a5;", "2:b5a5;");
        due("partner(1, 2, 0, 0), where no bed of B repeats", y.partner(1, 2, 0, 0), NONE);
        due("partner(2, 1, 1, 0), of a repeat below it", y.partner(2, 1, 1, 0), 1);
        due("closed(0, 1, 2)", y.closed(0, 1, 2), 0);
        answers.part("promise 27: of a and c, a is the column A");
        BoreholeColumns z = Holes.with("0:a5;", "1:a5a5;", "2:a9a5;");
        due("partner(0, 2, 0, 0), of two for 10 the upper one", z.partner(0, 2, 0, 0), 0);
        due("partner(2, 0, 1, 0), where no bed of B repeats", z.partner(2, 0, 1, 0), 1);
        due("closed(0, 1, 2)", z.closed(0, 1, 2), 1);
    }
}
