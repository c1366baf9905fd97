/** Each promise by hand: ordinary calls, the edges that the document names, and wrong arguments. */
public final class PromisesTest {
    private static final int INVALID = Answers.INVALID;
    private static final int STATE = Answers.STATE;
    private static final int FULL = Answers.FULL;
    private static final int NONE = Answers.NONE;
    private static final int TEXT_ERROR = -2000000;
    private static final int[] FAR = {Integer.MIN_VALUE, Integer.MAX_VALUE, -1};

    private static final Answers answers = new Answers("PromisesTest");

    private PromisesTest() {
    }

    public static void main(String[] args) {
        promise01ANewObject();
        promise02SetNumber();
        promise03SetKey();
        promise04SetCollar();
        promise05AddBed();
        promise06RemoveBed();
        promise07SetThickness();
        promise08Cut();
        promise08CutWithoutRoom();
        promise09AppendCharacter();
        promise10ClearText();
        promise11Load();
        promise11LoadErrors();
        promise12Keep();
        promise13Back();
        promise14Undo();
        promise15Count();
        promise16Hole();
        promise17Bed();
        promise18Find();
        promise19Account();
        promise20Cost();
        promise20CostOfFullColumns();
        promise21Why();
        promise21WhyPrefersTheFirst();
        promise22Partner();
        promise23Matched();
        promise24Fault();
        promise25SumOfThrows();
        promise26Nearest();
        promise27Closed();
        answers.end();
    }

    private static void due(String what, long got, long want) {
        answers.due(what, got, want);
    }

    private static void write(BoreholeColumns x, String text) {
        x.clearText();
        for (int k = 0; k < text.length(); k++) {
            x.appendCharacter(text.charAt(k));
        }
    }

    private static int read(BoreholeColumns x, String text) {
        write(x, text);
        return x.load();
    }

    private static BoreholeColumns with(String... texts) {
        BoreholeColumns x = new BoreholeColumns();
        for (String text : texts) {
            answers.holds(text + " is read", read(x, text) >= 0);
        }
        return x;
    }

    private static void columnIs(BoreholeColumns x, int hole, String want) {
        answers.holds("hole " + hole + " has " + Sight.column(x, hole) + ", due is " + want, want.equals(Sight.column(x, hole)));
    }

    private static void promise01ANewObject() {
        answers.part("promise 1");
        BoreholeColumns x = new BoreholeColumns();
        int[] numbers = {10, 6, 1, 3, 5, 0, 0, 0, 0, 0};
        for (int what = 0; what < numbers.length; what++) {
            due("count(" + what + ")", x.count(what), numbers[what]);
        }
        for (int what = 0; what <= 4; what++) {
            due("account(" + what + ")", x.account(what), 0);
        }
        for (int hole = 0; hole < 4; hole++) {
            for (int what = 0; what <= 2; what++) {
                due("hole(" + hole + ", " + what + ")", x.hole(hole, what), 0);
            }
            due("bed(" + hole + ", 0, 0)", x.bed(hole, 0, 0), NONE);
        }
        due("back(0)", x.back(0), STATE);
        due("back(1)", x.back(1), STATE);
        due("undo()", x.undo(), STATE);
        due("load()", x.load(), TEXT_ERROR);
        BoreholeColumns other = new BoreholeColumns();
        other.addBed(0, 0, 0, 1);
        other.setNumber(0, 99);
        due("an object of its own", x.count(6) + x.count(0), 10);
    }

    private static void promise02SetNumber() {
        answers.part("promise 2");
        BoreholeColumns x = new BoreholeColumns();
        int[] first = {10, 6, 1, 3, 5};
        int[] least = {1, 1, 0, 1, 1};
        int[] most = {99, 99, 9, 8, 999};
        for (int what = 0; what < 5; what++) {
            int number = what;
            due("setNumber(" + what + ", most)", x.setNumber(what, most[what]), first[what]);
            due("setNumber(" + what + ", least)", x.setNumber(what, least[what]), most[what]);
            due("count(" + what + ")", x.count(what), least[what]);
            answers.refused(x, "setNumber(" + what + ", too small)", () -> x.setNumber(number, least[number] - 1), INVALID);
            answers.refused(x, "setNumber(" + what + ", too great)", () -> x.setNumber(number, most[number] + 1), INVALID);
            for (int far : FAR) {
                answers.refused(x, "setNumber(" + what + ", " + far + ")", () -> x.setNumber(number, far), INVALID);
            }
        }
        for (int far : FAR) {
            answers.refused(x, "setNumber(" + far + ", 1)", () -> x.setNumber(far, 1), INVALID);
        }
        answers.refused(x, "setNumber(5, 1)", () -> x.setNumber(5, 1), INVALID);
        due("the others stay", x.count(0) + x.count(1) + x.count(2) + x.count(3) + x.count(4), 4);
        due("saved states", x.count(8), 6);
    }

    private static void promise03SetKey() {
        answers.part("promise 3");
        BoreholeColumns x = new BoreholeColumns();
        due("setKey(0, 1)", x.setKey(0, 1), 0);
        due("setKey(0, 1) again", x.setKey(0, 1), 1);
        due("setKey(25, 1)", x.setKey(25, 1), 0);
        due("count(5)", x.count(5), 2);
        due("setKey(0, 0)", x.setKey(0, 0), 1);
        due("setKey(0, 0) again", x.setKey(0, 0), 0);
        due("setKey(25, 1) again", x.setKey(25, 1), 1);
        due("saved states", x.count(8), 6);
        answers.refused(x, "setKey(26, 1)", () -> x.setKey(26, 1), INVALID);
        answers.refused(x, "setKey(32, 1)", () -> x.setKey(32, 1), INVALID);
        answers.refused(x, "setKey(1, 2)", () -> x.setKey(1, 2), INVALID);
        for (int far : FAR) {
            answers.refused(x, "setKey(" + far + ", 1)", () -> x.setKey(far, 1), INVALID);
            answers.refused(x, "setKey(1, " + far + ")", () -> x.setKey(1, far), INVALID);
        }
        BoreholeColumns y = with("0:a1b1;");
        y.setKey(1, 1);
        due("three times m for a key mark of A", y.cost(0, 1, 0), 10 + 30);
        due("three times m for a key mark of B", y.cost(1, 0, 1), 10 + 30);
    }

    private static void promise04SetCollar() {
        answers.part("promise 4");
        BoreholeColumns x = new BoreholeColumns();
        due("setCollar(0, 9999)", x.setCollar(0, 9999), 0);
        due("setCollar(0, -9999)", x.setCollar(0, -9999), 9999);
        due("setCollar(3, 7)", x.setCollar(3, 7), 0);
        due("setCollar(0, 1)", x.setCollar(0, 1), -9999);
        due("hole(0, 0)", x.hole(0, 0), 1);
        due("hole(1, 0)", x.hole(1, 0), 0);
        due("hole(3, 0)", x.hole(3, 0), 7);
        due("saved states", x.count(8), 4);
        answers.refused(x, "setCollar(0, 10000)", () -> x.setCollar(0, 10000), INVALID);
        answers.refused(x, "setCollar(0, -10000)", () -> x.setCollar(0, -10000), INVALID);
        answers.refused(x, "setCollar(4, 0)", () -> x.setCollar(4, 0), INVALID);
        for (int far : FAR) {
            answers.refused(x, "setCollar(" + far + ", 0)", () -> x.setCollar(far, 0), INVALID);
        }
    }

    private static void promise05AddBed() {
        answers.part("promise 5");
        BoreholeColumns x = new BoreholeColumns();
        due("addBed(0, 0, 0, 1)", x.addBed(0, 0, 0, 1), 1);
        due("addBed(0, 1, 25, 99)", x.addBed(0, 1, 25, 99), 2);
        due("addBed(0, 1, 2, 5)", x.addBed(0, 1, 2, 5), 3);
        due("addBed(0, 0, 3, 7)", x.addBed(0, 0, 3, 7), 4);
        columnIs(x, 0, "d7a1c5z99");
        due("account(1)", x.account(1), 112);
        due("saved states", x.count(8), 4);
        answers.refused(x, "addBed(0, 5, 0, 1)", () -> x.addBed(0, 5, 0, 1), INVALID);
        answers.refused(x, "addBed(4, 0, 0, 1)", () -> x.addBed(4, 0, 0, 1), INVALID);
        answers.refused(x, "addBed(0, 0, 26, 1)", () -> x.addBed(0, 0, 26, 1), INVALID);
        answers.refused(x, "addBed(0, 0, 0, 0)", () -> x.addBed(0, 0, 0, 0), INVALID);
        answers.refused(x, "addBed(0, 0, 0, 100)", () -> x.addBed(0, 0, 0, 100), INVALID);
        for (int far : FAR) {
            answers.refused(x, "addBed(" + far + ", 0, 0, 1)", () -> x.addBed(far, 0, 0, 1), INVALID);
            answers.refused(x, "addBed(0, " + far + ", 0, 1)", () -> x.addBed(0, far, 0, 1), INVALID);
            answers.refused(x, "addBed(0, 0, " + far + ", 1)", () -> x.addBed(0, 0, far, 1), INVALID);
            answers.refused(x, "addBed(0, 0, 0, " + far + ")", () -> x.addBed(0, 0, 0, far), INVALID);
        }
        for (int bed = 4; bed < 24; bed++) {
            due("addBed() number " + bed, x.addBed(0, bed, 1, 2), bed + 1);
        }
        answers.refused(x, "addBed(0, 24, 0, 1) of a full hole", () -> x.addBed(0, 24, 0, 1), FULL);
        answers.refused(x, "addBed(0, 0, 0, 1) of a full hole", () -> x.addBed(0, 0, 0, 1), FULL);
        answers.refused(x, "addBed(0, 25, 0, 1) of a full hole", () -> x.addBed(0, 25, 0, 1), INVALID);
        answers.refused(x, "addBed(0, 0, 26, 1) of a full hole", () -> x.addBed(0, 0, 26, 1), INVALID);
        answers.refused(x, "addBed(0, 0, 0, 100) of a full hole", () -> x.addBed(0, 0, 0, 100), INVALID);
        due("another hole has room", x.addBed(3, 0, 0, 1), 1);
    }

    private static void promise06RemoveBed() {
        answers.part("promise 6");
        BoreholeColumns x = with("0:a1b2c3d4;");
        answers.refused(x, "removeBed(0, 4)", () -> x.removeBed(0, 4), INVALID);
        answers.refused(x, "removeBed(1, 0)", () -> x.removeBed(1, 0), INVALID);
        answers.refused(x, "removeBed(4, 0)", () -> x.removeBed(4, 0), INVALID);
        for (int far : FAR) {
            answers.refused(x, "removeBed(" + far + ", 0)", () -> x.removeBed(far, 0), INVALID);
            answers.refused(x, "removeBed(0, " + far + ")", () -> x.removeBed(0, far), INVALID);
        }
        due("removeBed(0, 1)", x.removeBed(0, 1), 2);
        columnIs(x, 0, "a1c3d4");
        due("removeBed(0, 2)", x.removeBed(0, 2), 4);
        due("removeBed(0, 0)", x.removeBed(0, 0), 1);
        columnIs(x, 0, "c3");
        due("removeBed(0, 0) again", x.removeBed(0, 0), 3);
        due("account(2)", x.account(2), 10);
        due("account(1)", x.account(1), 10);
        due("saved states", x.count(8), 5);
        answers.refused(x, "removeBed(0, 0) of none", () -> x.removeBed(0, 0), INVALID);
        String full = "0:a1a1a1a1a1a1a1a1a1a1a1a1a1a1a1a1a1a1a1a1a1a1a1z9;";
        BoreholeColumns y = with(full);
        due("removeBed(0, 0) of a full hole", y.removeBed(0, 0), 1);
        due("the last one moved up", y.bed(0, 22, 0), 25);
        due("and left its place", y.bed(0, 23, 0), NONE);
    }

    private static void promise07SetThickness() {
        answers.part("promise 7");
        BoreholeColumns x = with("0:a10b20;");
        due("setThickness(0, 0, 99)", x.setThickness(0, 0, 99), 10);
        due("account(1)", x.account(1), 30 + 89);
        due("account(2)", x.account(2), 0);
        due("setThickness(0, 1, 1)", x.setThickness(0, 1, 1), 20);
        due("account(1)", x.account(1), 30 + 89);
        due("account(2)", x.account(2), 19);
        due("setThickness(0, 1, 1) again", x.setThickness(0, 1, 1), 1);
        due("account(2)", x.account(2), 19);
        due("saved states", x.count(8), 4);
        columnIs(x, 0, "a99b1");
        answers.refused(x, "setThickness(0, 0, 0)", () -> x.setThickness(0, 0, 0), INVALID);
        answers.refused(x, "setThickness(0, 0, 100)", () -> x.setThickness(0, 0, 100), INVALID);
        answers.refused(x, "setThickness(0, 2, 5)", () -> x.setThickness(0, 2, 5), INVALID);
        answers.refused(x, "setThickness(1, 0, 5)", () -> x.setThickness(1, 0, 5), INVALID);
        answers.refused(x, "setThickness(4, 0, 5)", () -> x.setThickness(4, 0, 5), INVALID);
        for (int far : FAR) {
            answers.refused(x, "setThickness(" + far + ", 0, 1)", () -> x.setThickness(far, 0, 1), INVALID);
            answers.refused(x, "setThickness(0, " + far + ", 1)", () -> x.setThickness(0, far, 1), INVALID);
            answers.refused(x, "setThickness(0, 0, " + far + ")", () -> x.setThickness(0, 0, far), INVALID);
        }
    }

    private static void cutIs(String column, int depth, int by, int beds, String want) {
        BoreholeColumns x = with("2:" + column + ";");
        String call = "cut(2, " + depth + ", " + by + ") of " + column;
        int length = x.hole(2, 2);
        due(call, x.cut(2, depth, by), beds);
        columnIs(x, 2, want);
        int change = x.hole(2, 2) - length;
        due(call + ", account 1", x.account(1), length);
        due(call + ", account 2", x.account(2), 0);
        due(call + ", account 3", x.account(3), by > 0 ? -change : 0);
        due(call + ", account 4", x.account(4), by < 0 ? -by : 0);
        due(call + ", account 4 is what came", x.account(4), by < 0 ? change : 0);
        due(call + ", saved states", x.count(8), 2);
    }

    private static void promise08Cut() {
        answers.part("promise 8");
        cutIs("a10b20c5", 15, 10, 4, "a10b5b5c5");
        cutIs("a10b20c5", 10, 20, 2, "a10c5");
        cutIs("a10b20c5", 10, 5, 3, "a10b15c5");
        cutIs("a10b20c5", 5, 5, 3, "a5b20c5");
        cutIs("a10b20c5", 5, 10, 3, "a5b15c5");
        cutIs("a10b20c5", 5, 26, 2, "a5c4");
        cutIs("a10b20c5", 30, 5, 2, "a10b20");
        cutIs("a10b20c5", 34, 1, 3, "a10b20c4");
        cutIs("a10b20c5", 31, 9999, 3, "a10b20c1");
        cutIs("a10b20c5", 1, 9999, 1, "a1");
        cutIs("a10b20c5", 15, -12, 6, "a10b5a7b5b15c5");
        cutIs("a10b20c5", 10, -10, 4, "a10a10b20c5");
        cutIs("a10b20c5", 10, -3, 4, "a10a3b20c5");
        cutIs("a10b20c5", 30, -20, 4, "a10b20b20c5");
        cutIs("a10b20c5", 15, -1, 5, "a10b5b1b15c5");
        cutIs("a10b20c5", 1, -1, 5, "a1a1a9b20c5");
        cutIs("a10b20c5", 34, -34, 7, "a10b20c4a10b20c4c1");
        cutIs("a2", 1, 1, 1, "a1");
        cutIs("a2", 1, -1, 3, "a1a1a1");
        BoreholeColumns x = with("0:a10b20c5;");
        answers.refused(x, "cut(0, 0, 1)", () -> x.cut(0, 0, 1), INVALID);
        answers.refused(x, "cut(0, 35, 1)", () -> x.cut(0, 35, 1), INVALID);
        answers.refused(x, "cut(0, 5, 0)", () -> x.cut(0, 5, 0), INVALID);
        answers.refused(x, "cut(0, 5, -6)", () -> x.cut(0, 5, -6), INVALID);
        answers.refused(x, "cut(0, 5, 10000)", () -> x.cut(0, 5, 10000), INVALID);
        answers.refused(x, "cut(1, 1, 1) of no beds", () -> x.cut(1, 1, 1), INVALID);
        answers.refused(x, "cut(4, 5, 1)", () -> x.cut(4, 5, 1), INVALID);
        for (int far : FAR) {
            answers.refused(x, "cut(" + far + ", 5, 1)", () -> x.cut(far, 5, 1), INVALID);
            answers.refused(x, "cut(0, " + far + ", 1)", () -> x.cut(0, far, 1), INVALID);
        }
        answers.refused(x, "cut(0, 5, least)", () -> x.cut(0, 5, Integer.MIN_VALUE), INVALID);
        answers.refused(x, "cut(0, 5, most)", () -> x.cut(0, 5, Integer.MAX_VALUE), INVALID);
        BoreholeColumns one = with("0:a1;");
        answers.refused(one, "cut(0, 1, 1) of one decimeter", () -> one.cut(0, 1, 1), INVALID);
        BoreholeColumns high = with("0:a10b20c5;");
        high.setCollar(0, 500);
        high.cut(0, 15, -12);
        due("the collar stays", high.hole(0, 0), 500);
    }

    private static void promise08CutWithoutRoom() {
        answers.part("promise 8, room");
        BoreholeColumns x = new BoreholeColumns();
        for (int bed = 0; bed < 24; bed++) {
            x.addBed(1, bed, bed, 4);
        }
        answers.refused(x, "cut(1, 1, 1) would make 25", () -> x.cut(1, 1, 1), FULL);
        answers.refused(x, "cut(1, 95, -1) would make 26", () -> x.cut(1, 95, -1), FULL);
        answers.refused(x, "cut(1, 4, -1) would make 25", () -> x.cut(1, 4, -1), FULL);
        answers.refused(x, "cut(1, 95, -95) would make 49", () -> x.cut(1, 95, -95), FULL);
        answers.refused(x, "cut(1, 1, -2) asks for too much", () -> x.cut(1, 1, -2), INVALID);
        due("cut(1, 1, 4) keeps 24", x.cut(1, 1, 4), 24);
        due("cut(1, 1, 3)", x.cut(1, 1, 3), 23);
        due("cut(1, 5, -4) makes 24", x.cut(1, 5, -4), 24);
        due("account(3)", x.account(3), 7);
        due("account(4)", x.account(4), 4);
        due("account(0)", x.account(0), 96 - 7 + 4);
    }

    private static void promise09AppendCharacter() {
        answers.part("promise 9");
        BoreholeColumns x = new BoreholeColumns();
        answers.refused(x, "appendCharacter(256)", () -> x.appendCharacter(256), INVALID);
        for (int far : FAR) {
            answers.refused(x, "appendCharacter(" + far + ")", () -> x.appendCharacter(far), INVALID);
        }
        due("appendCharacter(0)", x.appendCharacter(0), 1);
        due("appendCharacter(255)", x.appendCharacter(255), 2);
        for (int length = 3; length <= 100; length++) {
            due("appendCharacter(32)", x.appendCharacter(32), length);
        }
        answers.refused(x, "appendCharacter(32) of a full text", () -> x.appendCharacter(32), FULL);
        answers.refused(x, "appendCharacter(256) of a full text", () -> x.appendCharacter(256), INVALID);
        answers.refused(x, "appendCharacter(-1) of a full text", () -> x.appendCharacter(-1), INVALID);
        due("no state is saved", x.count(8), 0);
        due("the first character is kept", x.load(), TEXT_ERROR);
        BoreholeColumns y = with("0:a1;");
        y.appendCharacter(48);
        due("undo()", y.undo(), 0);
        due("the text is no part of the state", y.count(7), 1);
    }

    private static void promise10ClearText() {
        answers.part("promise 10");
        BoreholeColumns x = new BoreholeColumns();
        due("clearText() of none", x.clearText(), 0);
        write(x, "0:a1");
        due("clearText()", x.clearText(), 4);
        due("count(7)", x.count(7), 0);
        due("no state is saved", x.count(8), 0);
        due("clearText() again", x.clearText(), 0);
        write(x, " ".repeat(100));
        due("clearText() of a full text", x.clearText(), 100);
        due("appendCharacter(48)", x.appendCharacter(48), 1);
        due("nothing of the old text is left", x.load(), TEXT_ERROR - 1);
    }

    private static void promise11Load() {
        answers.part("promise 11");
        BoreholeColumns x = new BoreholeColumns();
        x.setCollar(3, 44);
        due("load()", read(x, "  3 : a 1 b 23  z 99 ;  "), 3);
        columnIs(x, 3, "a1b23z99");
        due("the text becomes empty", x.count(7), 0);
        due("a state is saved", x.count(8), 2);
        due("the collar stays", x.hole(3, 0), 44);
        due("account(1)", x.account(1), 123);
        due("account(2)", x.account(2), 0);
        due("load() once more", read(x, "3:q10;"), 1);
        columnIs(x, 3, "q10");
        due("account(1)", x.account(1), 133);
        due("account(2)", x.account(2), 123);
        due("load() of no beds", read(x, "3:;"), 0);
        due("account(2)", x.account(2), 133);
        due("account(0)", x.account(0), 0);
        due("undo()", x.undo(), 3);
        columnIs(x, 3, "q10");
        due("account(2) after undo()", x.account(2), 123);
        due("the text stays empty", x.count(7), 0);
        due("24 beds", read(x, "0:" + "a10".repeat(24) + ";"), 24);
        due("24 beds and spaces", read(x, "0:" + "a1 ".repeat(24) + "; "), 24);
        due("a text of 100 characters", read(x, "0:" + "a10 ".repeat(24) + "; "), 24);
        write(x, "1:b5;");
        due("load()", x.load(), 1);
        due("load() of the empty text", x.load(), TEXT_ERROR);
    }

    private static void errorAt(String text, int position) {
        BoreholeColumns x = with("1:c3;");
        write(x, text);
        answers.refused(x, "load() of \"" + text + "\"", () -> x.load(), TEXT_ERROR - position);
        answers.refused(x, "load() again of \"" + text + "\"", () -> x.load(), TEXT_ERROR - position);
    }

    private static void promise11LoadErrors() {
        answers.part("promise 11, errors");
        String[] texts = {"", "   ", "4:;", "a", "-1:;", "/:;", "0", "0 ", "0;", "00:;", "0 1:;", ":a1;", "0:", "0:  ", "0::",
            "0:A1;", "0:`1;", "0:{1;", "0:1;", "0:a", "0:a ", "0:a;", "0:a0;", "0:a01;", "0:ab1;", "0:a /;", "0:a:;",
            "0:a1", "0:a12", "0:a12 ", "0:a123;", "0:a1 2;", "0:a12 3;", "0:a1:;", "0:a1;;", "0:a1; ;", "0:a1;  x", "0:a1;0",
            "0:a1\t;", "0:a1;\u0000", "0:\u00ff", "0:a\u00b21;", "0:a1,b2;"};
        int[] positions = {0, 3, 0, 0, 0, 0, 1, 2, 1, 1, 2, 0, 2, 4, 2,
            2, 2, 2, 2, 3, 4, 3, 3, 3, 3, 4, 3,
            4, 5, 6, 5, 5, 6, 4, 5, 6, 7, 5,
            4, 5, 2, 3, 4};
        due("texts and positions", texts.length, positions.length);
        for (int k = 0; k < texts.length; k++) {
            errorAt(texts[k], positions[k]);
        }
        errorAt("0:" + "a1".repeat(25) + ";", 50);
        errorAt("0:" + "a1".repeat(24) + " b", 51);
        errorAt("0:" + "a1".repeat(24) + "1 5", 52);
        errorAt("0:" + "a1".repeat(24), 50);
        errorAt("0:" + "a10 ".repeat(24) + "  ", 100);
        errorAt("0:a1;" + " ".repeat(94) + "x", 99);
        BoreholeColumns x = new BoreholeColumns();
        write(x, "0:a1");
        due("load()", x.load(), TEXT_ERROR - 4);
        due("the text is kept", x.count(7), 4);
        x.appendCharacter(';');
        due("load() when it is mended", x.load(), 1);
    }

    private static void promise12Keep() {
        answers.part("promise 12");
        BoreholeColumns x = with("0:a1b2;", "3:c3;");
        due("keep(0)", x.keep(0), 3);
        due("count(9)", x.count(9), 1);
        due("no state is saved", x.count(8), 2);
        due("keep(1)", x.keep(1), 3);
        due("count(9)", x.count(9), 3);
        x.addBed(1, 0, 0, 5);
        due("keep(0) in place of it", x.keep(0), 4);
        x.removeBed(0, 0);
        due("back(0)", x.back(0), 4);
        due("back(1)", x.back(1), 3);
        answers.refused(x, "keep(2)", () -> x.keep(2), INVALID);
        for (int far : FAR) {
            answers.refused(x, "keep(" + far + ")", () -> x.keep(far), INVALID);
        }
        BoreholeColumns y = new BoreholeColumns();
        due("keep(1) of no beds", y.keep(1), 0);
        due("count(9)", y.count(9), 2);
    }

    private static void promise13Back() {
        answers.part("promise 13");
        BoreholeColumns x = with("0:a10b20;");
        answers.refused(x, "back(0) of nothing", () -> x.back(0), STATE);
        answers.refused(x, "back(2)", () -> x.back(2), INVALID);
        for (int far : FAR) {
            answers.refused(x, "back(" + far + ")", () -> x.back(far), INVALID);
        }
        x.setCollar(0, 5);
        x.setKey(3, 1);
        x.setNumber(0, 77);
        x.cut(0, 15, 5);
        x.keep(0);
        answers.refused(x, "back(1) of nothing", () -> x.back(1), STATE);
        String kept = Sight.column(x, 0);
        x.setCollar(0, 6);
        x.setKey(4, 1);
        x.setNumber(0, 78);
        x.cut(0, 15, -5);
        x.removeBed(0, 0);
        write(x, "0:");
        due("back(0)", x.back(0), 3);
        columnIs(x, 0, kept);
        due("the collar", x.hole(0, 0), 5);
        due("the key marks", x.count(5), 1);
        due("the number", x.count(0), 77);
        due("account(2)", x.account(2), 0);
        due("account(3)", x.account(3), 5);
        due("account(4)", x.account(4), 0);
        due("the text stays", x.count(7), 2);
        due("the image stays", x.count(9), 1);
        due("saved states", x.count(8), 6);
        x.removeBed(0, 0);
        due("back(0) a second time", x.back(0), 3);
        columnIs(x, 0, kept);
        due("undo()", x.undo(), 5);
        due("beds after undo()", x.count(6), 2);
        due("the image is no part of the state", x.count(9), 1);
    }

    private static void promise14Undo() {
        answers.part("promise 14");
        BoreholeColumns x = new BoreholeColumns();
        answers.refused(x, "undo() of nothing", () -> x.undo(), STATE);
        for (int bed = 0; bed < 7; bed++) {
            x.addBed(0, bed, bed, 1);
        }
        due("six are saved", x.count(8), 6);
        for (int left = 5; left >= 0; left--) {
            due("undo()", x.undo(), left);
            due("beds", x.count(6), left + 1);
            due("account(1)", x.account(1), left + 1);
        }
        answers.refused(x, "undo() of nothing", () -> x.undo(), STATE);
        due("the seventh is gone", x.count(6), 1);
        BoreholeColumns y = with("0:a10b20;");
        String before = Sight.of(y);
        y.setNumber(1, 6);
        y.undo();
        y.setKey(0, 1);
        y.undo();
        y.setCollar(0, 1);
        y.undo();
        y.addBed(0, 0, 0, 1);
        y.undo();
        y.removeBed(0, 0);
        y.undo();
        y.setThickness(0, 0, 1);
        y.undo();
        y.cut(0, 5, -5);
        y.undo();
        answers.holds("undo() after each call", before.equals(Sight.of(y)));
        y.setNumber(1, 6);
        due("a call that changes no number is saved too", y.count(8), 2);
    }

    private static void promise15Count() {
        answers.part("promise 15");
        BoreholeColumns x = with("0:a1b2;", "1:c3;", "3:d4e5f6;");
        x.setKey(0, 1);
        x.setKey(25, 1);
        x.setKey(7, 1);
        x.setNumber(4, 999);
        write(x, "abc");
        x.keep(1);
        int[] want = {10, 6, 1, 3, 999, 3, 6, 3, 6, 2};
        for (int what = 0; what < want.length; what++) {
            due("count(" + what + ")", x.count(what), want[what]);
        }
        answers.refused(x, "count(10)", () -> x.count(10), INVALID);
        for (int far : FAR) {
            answers.refused(x, "count(" + far + ")", () -> x.count(far), INVALID);
        }
    }

    private static void promise16Hole() {
        answers.part("promise 16");
        BoreholeColumns x = with("2:a10b99;");
        x.setCollar(2, -5);
        due("hole(2, 0)", x.hole(2, 0), -5);
        due("hole(2, 1)", x.hole(2, 1), 2);
        due("hole(2, 2)", x.hole(2, 2), 109);
        due("hole(3, 2)", x.hole(3, 2), 0);
        answers.refused(x, "hole(4, 0)", () -> x.hole(4, 0), INVALID);
        answers.refused(x, "hole(0, 3)", () -> x.hole(0, 3), INVALID);
        for (int far : FAR) {
            answers.refused(x, "hole(" + far + ", 0)", () -> x.hole(far, 0), INVALID);
            answers.refused(x, "hole(0, " + far + ")", () -> x.hole(0, far), INVALID);
        }
    }

    private static void promise17Bed() {
        answers.part("promise 17");
        BoreholeColumns x = with("1:a10z99c3;");
        x.setCollar(1, 100);
        int[][] want = {{0, 10, 0, 100}, {25, 99, 10, 90}, {2, 3, 109, -9}};
        for (int bed = 0; bed < 3; bed++) {
            for (int what = 0; what < 4; what++) {
                due("bed(1, " + bed + ", " + what + ")", x.bed(1, bed, what), want[bed][what]);
            }
        }
        for (int what = 0; what < 4; what++) {
            due("bed(1, 3, " + what + ")", x.bed(1, 3, what), NONE);
            due("bed(1, most, " + what + ")", x.bed(1, Integer.MAX_VALUE, what), NONE);
            due("bed(0, 0, " + what + ")", x.bed(0, 0, what), NONE);
        }
        due("bed(1, 3, 4)", x.bed(1, 3, 4), INVALID);
        due("bed(1, 0, 4)", x.bed(1, 0, 4), INVALID);
        due("bed(1, 0, -1)", x.bed(1, 0, -1), INVALID);
        due("bed(4, 3, 0)", x.bed(4, 3, 0), INVALID);
        due("bed(-1, 0, 0)", x.bed(-1, 0, 0), INVALID);
        due("bed(1, -1, 0)", x.bed(1, -1, 0), INVALID);
        due("bed(1, least, 0)", x.bed(1, Integer.MIN_VALUE, 0), INVALID);
    }

    private static void promise18Find() {
        answers.part("promise 18");
        BoreholeColumns x = with("1:a1b2a3z4a5;");
        due("find(1, 0, 0)", x.find(1, 0, 0), 0);
        due("find(1, 0, 1)", x.find(1, 0, 1), 2);
        due("find(1, 0, 2)", x.find(1, 0, 2), 4);
        due("find(1, 0, 3)", x.find(1, 0, 3), NONE);
        due("find(1, 0, most)", x.find(1, 0, Integer.MAX_VALUE), NONE);
        due("find(1, 25, 0)", x.find(1, 25, 0), 3);
        due("find(1, 2, 0)", x.find(1, 2, 0), NONE);
        due("find(0, 0, 0)", x.find(0, 0, 0), NONE);
        due("find(4, 0, 0)", x.find(4, 0, 0), INVALID);
        due("find(-1, 0, 0)", x.find(-1, 0, 0), INVALID);
        due("find(1, 26, 0)", x.find(1, 26, 0), INVALID);
        due("find(1, -1, 0)", x.find(1, -1, 0), INVALID);
        due("find(1, 0, -1)", x.find(1, 0, -1), INVALID);
        x.removeBed(1, 4);
        due("a bed that is gone is not found", x.find(1, 0, 2), NONE);
    }

    private static void promise19Account() {
        answers.part("promise 19");
        BoreholeColumns x = with("0:a10b20;", "1:c30;");
        x.addBed(2, 0, 0, 7);
        x.removeBed(1, 0);
        x.setThickness(0, 0, 15);
        x.setThickness(0, 1, 12);
        x.cut(0, 20, 9999);
        x.cut(0, 3, -2);
        int[] want = {7 + 22, 72, 38, 7, 2};
        for (int what = 0; what < 5; what++) {
            due("account(" + what + ")", x.account(what), want[what]);
        }
        answers.refused(x, "account(5)", () -> x.account(5), INVALID);
        for (int far : FAR) {
            answers.refused(x, "account(" + far + ")", () -> x.account(far), INVALID);
        }
        x.undo();
        due("account(4) after undo()", x.account(4), 0);
        due("account(0) after undo()", x.account(0), 27);
    }

    private static void costIs(BoreholeColumns x, int a, int b, int want) {
        due("cost(" + a + ", " + b + ", 0)", x.cost(a, b, 0), want);
        due("cost(" + a + ", " + b + ", 1)", x.cost(a, b, 1), want);
    }

    private static void promise20Cost() {
        answers.part("promise 20");
        BoreholeColumns x = with("0:a10b20c5;", "1:a12c5;", "2:a10a11b20;");
        costIs(x, 0, 1, 2 + 10);
        costIs(x, 1, 0, 2 + 10);
        costIs(x, 0, 3, 30);
        costIs(x, 3, 0, 30);
        costIs(x, 0, 2, 6 + 1 + 10);
        costIs(x, 2, 0, 1 + 10 + 10 - 1);
        x.setNumber(2, 9);
        costIs(x, 0, 1, 18 + 10);
        x.setNumber(2, 0);
        costIs(x, 0, 1, 10);
        x.setNumber(0, 99);
        costIs(x, 0, 3, 297);
        x.setKey(1, 1);
        costIs(x, 0, 3, 5 * 99);
        costIs(x, 3, 0, 5 * 99);
        BoreholeColumns far = with("0:a5b5c5d5;", "1:a5b5c5d5a7;");
        far.setNumber(3, 4);
        costIs(far, 0, 1, 6 + 2);
        far.setNumber(3, 3);
        costIs(far, 0, 1, 10);
        BoreholeColumns behind = with("0:a5b5c5d5;", "1:d5a5;");
        costIs(behind, 0, 1, 40);
        behind.setNumber(3, 4);
        costIs(behind, 0, 1, 36);
        BoreholeColumns unread = with("0:a1b1c1;", "1:b1a1b1c1;");
        unread.setNumber(0, 99);
        unread.setNumber(1, 1);
        costIs(unread, 0, 1, 99);
        BoreholeColumns late = with("0:a1a9;", "1:a1a9a1;");
        late.setNumber(1, 1);
        late.setNumber(3, 2);
        costIs(late, 0, 1, 1 + 8);
        answers.refused(x, "cost(0, 0, 0)", () -> x.cost(0, 0, 0), INVALID);
        answers.refused(x, "cost(0, 4, 0)", () -> x.cost(0, 4, 0), INVALID);
        answers.refused(x, "cost(4, 0, 0)", () -> x.cost(4, 0, 0), INVALID);
        answers.refused(x, "cost(0, 1, 2)", () -> x.cost(0, 1, 2), INVALID);
        for (int wrong : FAR) {
            answers.refused(x, "cost(" + wrong + ", 0, 0)", () -> x.cost(wrong, 0, 0), INVALID);
            answers.refused(x, "cost(0, " + wrong + ", 1)", () -> x.cost(0, wrong, 1), INVALID);
            answers.refused(x, "cost(0, 1, " + wrong + ")", () -> x.cost(0, 1, wrong), INVALID);
        }
    }

    private static void promise20CostOfFullColumns() {
        answers.part("promise 20, full columns");
        BoreholeColumns x = with("0:" + "a1".repeat(24) + ";", "1:" + "b1".repeat(24) + ";", "2:" + "a99".repeat(24) + ";");
        x.setNumber(0, 99);
        x.setKey(0, 1);
        x.setKey(1, 1);
        costIs(x, 0, 1, 48 * 297);
        due("matched(0, 1, 2)", x.matched(0, 1, 2), 24);
        due("matched(0, 1, 4)", x.matched(0, 1, 4), 24);
        due("why(0, 1, 1, 23)", x.why(0, 1, 1, 23), 4);
        due("why(0, 1, 0, 23)", x.why(0, 1, 0, 23), 2);
        costIs(x, 0, 2, 24 * 98);
        due("matched(0, 2, 1)", x.matched(0, 2, 1), 24);
        due("sumOfThrows(0, 2, 0)", x.sumOfThrows(0, 2, 0), 23 - 23 * 99);
        due("matched(0, 2, 5)", x.matched(0, 2, 5), 23);
        due("fault(0, 2, 22, 0)", x.fault(0, 2, 22, 0), 22);
        due("fault(0, 2, 23, 0)", x.fault(0, 2, 23, 0), NONE);
    }

    /** Of a10 b20 c5 and a10 a11 d7 c9: a match, b missing in B, a repeat, d missing in A, c match. */
    private static BoreholeColumns everyStep() {
        return with("0:a10b20c5;", "1:a10a11d7c9;");
    }

    private static void promise21Why() {
        answers.part("promise 21");
        BoreholeColumns x = everyStep();
        int[] whyA = {1, 2, 1};
        int[] whyB = {1, 3, 4, 1};
        for (int bed = 0; bed < 3; bed++) {
            due("why(0, 1, 0, " + bed + ")", x.why(0, 1, 0, bed), whyA[bed]);
        }
        for (int bed = 0; bed < 4; bed++) {
            due("why(0, 1, 1, " + bed + ")", x.why(0, 1, 1, bed), whyB[bed]);
        }
        due("why(1, 0, 0, 1), an a that is not the latest", x.why(1, 0, 0, 1), 2);
        due("why(0, 2, 0, 0)", x.why(0, 2, 0, 0), 2);
        due("why(2, 0, 1, 0)", x.why(2, 0, 1, 0), 4);
        answers.refused(x, "why(0, 1, 0, 3)", () -> x.why(0, 1, 0, 3), INVALID);
        answers.refused(x, "why(0, 1, 1, 4)", () -> x.why(0, 1, 1, 4), INVALID);
        answers.refused(x, "why(0, 2, 1, 0)", () -> x.why(0, 2, 1, 0), INVALID);
        answers.refused(x, "why(0, 1, 2, 0)", () -> x.why(0, 1, 2, 0), INVALID);
        answers.refused(x, "why(0, 0, 0, 0)", () -> x.why(0, 0, 0, 0), INVALID);
        answers.refused(x, "why(4, 0, 1, 0)", () -> x.why(4, 0, 1, 0), INVALID);
        answers.refused(x, "why(0, 4, 0, 0)", () -> x.why(0, 4, 0, 0), INVALID);
        for (int far : FAR) {
            answers.refused(x, "why(" + far + ", 0, 1, 0)", () -> x.why(far, 0, 1, 0), INVALID);
            answers.refused(x, "why(0, " + far + ", 0, 0)", () -> x.why(0, far, 0, 0), INVALID);
            answers.refused(x, "why(0, 1, " + far + ", 0)", () -> x.why(0, 1, far, 0), INVALID);
            answers.refused(x, "why(0, 1, 0, " + far + ")", () -> x.why(0, 1, 0, far), INVALID);
        }
    }

    private static void promise21WhyPrefersTheFirst() {
        answers.part("promise 21, which comes first");
        BoreholeColumns x = with("0:a1a1;", "1:a1;");
        due("a match comes ahead of a missing bed", x.why(0, 1, 0, 0), 1);
        due("so the second bed is missing", x.why(0, 1, 0, 1), 2);
        BoreholeColumns y = with("0:a1;", "1:a1a1;");
        y.setNumber(1, 10);
        due("a match comes ahead of one that is missing in A", y.why(0, 1, 1, 0), 1);
        due("a repeat comes ahead of one that is missing in A", y.why(0, 1, 1, 1), 3);
        y.setNumber(1, 11);
        due("but not if it costs more", y.why(0, 1, 1, 1), 4);
        BoreholeColumns z = with("0:a1b1;", "1:a1a1;");
        due("a bed missing in B comes ahead of a repeat", z.why(0, 1, 0, 1), 2);
        due("which may come behind it", z.partner(0, 1, 1, 1), 0);
        BoreholeColumns w = with("0:a1b1a1;", "1:a1a1;");
        w.setNumber(0, 6);
        w.setNumber(1, 12);
        due("a match can cost as much", w.cost(0, 1, 0), 6);
        due("and is taken", w.why(0, 1, 1, 1), 1);
        BoreholeColumns far = with("0:a9b1;", "1:b1a9;");
        far.setNumber(1, 99);
        due("cost(0, 1, 0)", far.cost(0, 1, 0), 20);
        due("a bed missing in B comes ahead of one missing in A", far.why(0, 1, 0, 0), 2);
        due("so that b is matched", far.why(0, 1, 0, 1), 1);
        BoreholeColumns late = with("0:a5b5a9c1;", "1:c1a5;");
        due("the latest one is repeated", late.partner(0, 1, 1, 1), 2);
        due("though it was missing in B", late.why(0, 1, 0, 2), 2);
        due("and the cost is that of the latest one", late.cost(0, 1, 0), 30 + 10);
    }

    private static void promise22Partner() {
        answers.part("promise 22");
        BoreholeColumns x = everyStep();
        int[] ofA = {0, NONE, 3};
        int[] ofB = {0, 0, NONE, 2};
        for (int bed = 0; bed < 3; bed++) {
            due("partner(0, 1, 0, " + bed + ")", x.partner(0, 1, 0, bed), ofA[bed]);
        }
        for (int bed = 0; bed < 4; bed++) {
            due("partner(0, 1, 1, " + bed + ")", x.partner(0, 1, 1, bed), ofB[bed]);
        }
        x.removeBed(1, 3);
        due("a match that is no more", x.partner(0, 1, 0, 2), NONE);
        answers.refused(x, "partner(0, 1, 0, 3)", () -> x.partner(0, 1, 0, 3), INVALID);
        answers.refused(x, "partner(0, 1, 1, 3)", () -> x.partner(0, 1, 1, 3), INVALID);
        answers.refused(x, "partner(0, 1, 2, 0)", () -> x.partner(0, 1, 2, 0), INVALID);
        answers.refused(x, "partner(1, 1, 0, 0)", () -> x.partner(1, 1, 0, 0), INVALID);
        answers.refused(x, "partner(0, 4, 0, 0)", () -> x.partner(0, 4, 0, 0), INVALID);
        for (int far : FAR) {
            answers.refused(x, "partner(" + far + ", 0, 1, 0)", () -> x.partner(far, 0, 1, 0), INVALID);
            answers.refused(x, "partner(0, " + far + ", 0, 0)", () -> x.partner(0, far, 0, 0), INVALID);
            answers.refused(x, "partner(0, 1, " + far + ", 0)", () -> x.partner(0, 1, far, 0), INVALID);
            answers.refused(x, "partner(0, 1, 0, " + far + ")", () -> x.partner(0, 1, 0, far), INVALID);
        }
    }

    private static void promise23Matched() {
        answers.part("promise 23");
        BoreholeColumns x = everyStep();
        x.setNumber(4, 2);
        int[] want = {2, 1, 1, 1, 1};
        for (int what = 1; what <= 5; what++) {
            due("matched(0, 1, " + what + ")", x.matched(0, 1, what), want[what - 1]);
            due("matched(2, 3, " + what + ")", x.matched(2, 3, what), 0);
            due("matched(0, 3, " + what + ")", x.matched(0, 3, what), what == 2 ? 3 : 0);
            due("matched(3, 0, " + what + ")", x.matched(3, 0, what), what == 4 ? 3 : 0);
        }
        x.addBed(1, 0, 25, 1);
        due("one more is missing in A", x.matched(0, 1, 4), 2);
        answers.refused(x, "matched(0, 1, 0)", () -> x.matched(0, 1, 0), INVALID);
        answers.refused(x, "matched(0, 1, 6)", () -> x.matched(0, 1, 6), INVALID);
        answers.refused(x, "matched(0, 0, 1)", () -> x.matched(0, 0, 1), INVALID);
        answers.refused(x, "matched(4, 0, 1)", () -> x.matched(4, 0, 1), INVALID);
        for (int far : FAR) {
            answers.refused(x, "matched(" + far + ", 0, 1)", () -> x.matched(far, 0, 1), INVALID);
            answers.refused(x, "matched(0, " + far + ", 1)", () -> x.matched(0, far, 1), INVALID);
            answers.refused(x, "matched(0, 1, " + far + ")", () -> x.matched(0, 1, far), INVALID);
        }
    }

    private static void faultIs(BoreholeColumns x, int index, int ahead, int thrown, int reason) {
        due("fault(0, 1, " + index + ", 0)", x.fault(0, 1, index, 0), ahead);
        due("fault(0, 1, " + index + ", 1)", x.fault(0, 1, index, 1), thrown);
        due("fault(0, 1, " + index + ", 2)", x.fault(0, 1, index, 2), reason);
    }

    private static void promise24Fault() {
        answers.part("promise 24");
        BoreholeColumns x = everyStep();
        x.setNumber(4, 1);
        faultIs(x, 0, 0, 30 - 28, 7);
        due("fault(0, 1, 1, 0)", x.fault(0, 1, 1, 0), NONE);
        x.setNumber(4, 2);
        due("of just t it is a fault", x.matched(0, 1, 5), 1);
        x.setNumber(4, 3);
        due("of less it is none", x.matched(0, 1, 5), 0);
        BoreholeColumns y = with("0:x3a10b20c5d5e6f9g1;", "1:y9a10c15d5z2e11f14g1;");
        y.setNumber(4, 5);
        due("matched(0, 1, 1)", y.matched(0, 1, 1), 6);
        due("matched(0, 1, 5)", y.matched(0, 1, 5), 4);
        faultIs(y, 0, 1, 20, 1);
        faultIs(y, 1, 3, -10, 0);
        faultIs(y, 2, 5, -5, 0);
        faultIs(y, 3, 6, -5, 0);
        due("fault(0, 1, 4, 1)", y.fault(0, 1, 4, 1), NONE);
        y.setNumber(4, 2);
        faultIs(y, 2, 4, -2, 4);
        BoreholeColumns repeat = with("0:a10c5;", "1:a10a10c5;");
        faultIs(repeat, 0, 0, -10, 2);
        BoreholeColumns lower = with("0:a10b20c5;", "1:z1a10b29c5;");
        faultIs(lower, 0, 1, -9, 0);
        due("fault(0, 1, 1, 0)", lower.fault(0, 1, 1, 0), NONE);
        due("fault(1, 0, 0, 0)", lower.fault(1, 0, 0, 0), 2);
        due("fault(1, 0, 0, 1)", lower.fault(1, 0, 0, 1), 9);
        due("sumOfThrows(0, 1, 2)", lower.sumOfThrows(0, 1, 2), -9);
        answers.refused(y, "fault(0, 1, -1, 0)", () -> y.fault(0, 1, -1, 0), INVALID);
        answers.refused(y, "fault(0, 1, 0, 3)", () -> y.fault(0, 1, 0, 3), INVALID);
        answers.refused(y, "fault(0, 1, 99, 3)", () -> y.fault(0, 1, 99, 3), INVALID);
        answers.refused(y, "fault(0, 1, 0, -1)", () -> y.fault(0, 1, 0, -1), INVALID);
        answers.refused(y, "fault(0, 0, 0, 0)", () -> y.fault(0, 0, 0, 0), INVALID);
        answers.refused(y, "fault(0, 4, 0, 0)", () -> y.fault(0, 4, 0, 0), INVALID);
        due("fault(0, 1, most, 0)", y.fault(0, 1, Integer.MAX_VALUE, 0), NONE);
        due("fault(0, 1, least, 0)", y.fault(0, 1, Integer.MIN_VALUE, 0), INVALID);
        for (int far : FAR) {
            answers.refused(y, "fault(" + far + ", 0, 0, 0)", () -> y.fault(far, 0, 0, 0), INVALID);
            answers.refused(y, "fault(0, " + far + ", 0, 0)", () -> y.fault(0, far, 0, 0), INVALID);
        }
    }

    private static void promise25SumOfThrows() {
        answers.part("promise 25");
        BoreholeColumns x = with("0:x3a10b20c5d5e6f9g1;", "1:y9a10c15d5z2e11f14g1;");
        due("sumOfThrows(0, 1, 0)", x.sumOfThrows(0, 1, 0), 20 - 10 - 2 - 5 - 5);
        due("sumOfThrows(0, 1, 1)", x.sumOfThrows(0, 1, 1), 20 - 10 - 5 - 5);
        due("sumOfThrows(0, 1, 2)", x.sumOfThrows(0, 1, 2), 20 - 10 - 2 - 5 - 5);
        x.setCollar(0, 400);
        x.setCollar(1, -300);
        due("the collars do not tell in it", x.sumOfThrows(0, 1, 2), -2);
        x.setNumber(4, 11);
        due("sumOfThrows(0, 1, 1) of the great ones", x.sumOfThrows(0, 1, 1), 20);
        x.setNumber(4, 999);
        due("sumOfThrows(0, 1, 1) of none", x.sumOfThrows(0, 1, 1), 0);
        due("sumOfThrows(0, 1, 0) is without t", x.sumOfThrows(0, 1, 0), -2);
        BoreholeColumns one = with("0:a3b4;", "1:b9;", "2:c1;");
        for (int what = 0; what <= 2; what++) {
            due("sumOfThrows(0, 1, " + what + ") of one match", one.sumOfThrows(0, 1, what), 0);
            due("sumOfThrows(0, 2, " + what + ") of no match", one.sumOfThrows(0, 2, what), NONE);
            due("sumOfThrows(3, 2, " + what + ") of no bed", one.sumOfThrows(3, 2, what), NONE);
        }
        due("sumOfThrows(0, 2, 3) is wrong ahead of that", one.sumOfThrows(0, 2, 3), INVALID);
        answers.refused(x, "sumOfThrows(0, 1, -1)", () -> x.sumOfThrows(0, 1, -1), INVALID);
        answers.refused(x, "sumOfThrows(0, 0, 0)", () -> x.sumOfThrows(0, 0, 0), INVALID);
        answers.refused(x, "sumOfThrows(0, 4, 0)", () -> x.sumOfThrows(0, 4, 0), INVALID);
        for (int far : FAR) {
            answers.refused(x, "sumOfThrows(" + far + ", 0, 0)", () -> x.sumOfThrows(far, 0, 0), INVALID);
            answers.refused(x, "sumOfThrows(0, " + far + ", 0)", () -> x.sumOfThrows(0, far, 0), INVALID);
        }
    }

    private static void promise26Nearest() {
        answers.part("promise 26");
        BoreholeColumns x = new BoreholeColumns();
        int[] first = {1, 0, 0, 0};
        for (int hole = 0; hole < 4; hole++) {
            due("nearest(" + hole + ", 0) of none", x.nearest(hole, 0), first[hole]);
            due("nearest(" + hole + ", 1) of none", x.nearest(hole, 1), 0);
        }
        read(x, "0:a10b20;");
        read(x, "2:a10b25;");
        read(x, "3:a11b24;");
        due("nearest(0, 0), of two the smaller one", x.nearest(0, 0), 2);
        due("nearest(0, 1)", x.nearest(0, 1), 5);
        due("nearest(2, 0)", x.nearest(2, 0), 3);
        due("nearest(2, 1)", x.nearest(2, 1), 2);
        due("nearest(1, 0)", x.nearest(1, 0), 0);
        due("nearest(1, 1)", x.nearest(1, 1), 20);
        BoreholeColumns way = with("0:a5;", "1:a5a5;", "2:a5b5;", "3:c9d9e9f9;");
        due("the hole itself is the column A: nearest(0, 1)", way.nearest(0, 1), 6);
        due("nearest(0, 0)", way.nearest(0, 0), 1);
        due("nearest(1, 1)", way.nearest(1, 1), 10);
        answers.refused(x, "nearest(4, 0)", () -> x.nearest(4, 0), INVALID);
        answers.refused(x, "nearest(0, 2)", () -> x.nearest(0, 2), INVALID);
        for (int far : FAR) {
            answers.refused(x, "nearest(" + far + ", 0)", () -> x.nearest(far, 0), INVALID);
            answers.refused(x, "nearest(0, " + far + ")", () -> x.nearest(0, far), INVALID);
        }
    }

    private static void promise27Closed() {
        answers.part("promise 27");
        BoreholeColumns x = with("0:a5b5c5;", "1:a5b5c5;", "2:a5c5;");
        due("closed(0, 1, 2)", x.closed(0, 1, 2), 2);
        due("closed(0, 2, 1)", x.closed(0, 2, 1), 2);
        due("closed(0, 1, 3)", x.closed(0, 1, 3), 0);
        due("closed(0, 3, 1)", x.closed(0, 3, 1), 0);
        BoreholeColumns other = with("0:b5;", "1:b5a5b9;", "2:b9;");
        due("partner(0, 1, 0, 0)", other.partner(0, 1, 0, 0), 0);
        due("partner(1, 2, 0, 2)", other.partner(1, 2, 0, 2), 0);
        due("another bed than over the other hole", other.closed(0, 1, 2), 0);
        due("closed the other way, where a match (4) and a repeat (6) come ahead of 10 + 10", other.closed(0, 2, 1), 1);
        BoreholeColumns repeats = with("0:a5;", "1:a5a5;", "2:a5a5;");
        due("repeats are no matches", repeats.closed(0, 1, 2), 1);
        answers.refused(x, "closed(0, 1, 0)", () -> x.closed(0, 1, 0), INVALID);
        answers.refused(x, "closed(0, 1, 1)", () -> x.closed(0, 1, 1), INVALID);
        answers.refused(x, "closed(0, 0, 1)", () -> x.closed(0, 0, 1), INVALID);
        answers.refused(x, "closed(0, 1, 4)", () -> x.closed(0, 1, 4), INVALID);
        answers.refused(x, "closed(0, 4, 1)", () -> x.closed(0, 4, 1), INVALID);
        answers.refused(x, "closed(4, 0, 1)", () -> x.closed(4, 0, 1), INVALID);
        for (int far : FAR) {
            answers.refused(x, "closed(" + far + ", 0, 1)", () -> x.closed(far, 0, 1), INVALID);
            answers.refused(x, "closed(0, " + far + ", 1)", () -> x.closed(0, far, 1), INVALID);
            answers.refused(x, "closed(0, 1, " + far + ")", () -> x.closed(0, 1, far), INVALID);
        }
    }
}
