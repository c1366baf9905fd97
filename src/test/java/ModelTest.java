import java.util.List;

/**
 * Long runs of calls, each answer compared with that of the model. No run has more than 512 calls,
 * since what later ones answer is free; so each ends with one long look, drawn from several.
 */
public final class ModelTest {
    private static final int MOST_CALLS = 512;
    private static final int MOST_CALLS_OF_A_STEP = 13;
    private static final int MOST_CALLS_OF_A_TEXT = 110;
    private static final int MOST_CALLS_OF_A_LONG_LOOK = 180;

    private static final Answers answers = new Answers("ModelTest");

    private BoreholeColumns x = new BoreholeColumns();
    private Model model = new Model();
    private long seed;
    private int calls = 0;
    private int marks = 3;
    private String pending = "";

    private ModelTest(long seed) {
        this.seed = seed * 7919 + 17;
    }

    public static void main(String[] args) {
        for (int run = 1; run <= 2000 && answers.wrongOnes() == 0; run++) {
            answers.part("run " + run);
            new ModelTest(run).run(run % 4);
        }
        for (int run = 1; run <= 300 && answers.wrongOnes() == 0; run++) {
            answers.part("short columns " + run);
            new ModelTest(run + 100000).shortColumns();
        }
        for (int run = 1; run <= 400 && answers.wrongOnes() == 0; run++) {
            answers.part("texts " + run);
            new ModelTest(run + 200000).texts();
        }
        answers.end();
    }

    private int below(int bound) {
        seed = seed * 6364136223846793005L + 1442695040888963407L;
        return (int) ((seed >>> 33) % bound);
    }

    private int from(int first, int last) {
        return first + below(last - first + 1);
    }

    /** Mostly a number of the range, now and then one about its ends or far off. */
    private int about(int first, int last) {
        return switch (below(24)) {
            case 0 -> first - 1;
            case 1 -> last + 1;
            case 2 -> first;
            case 3 -> last;
            case 4 -> below(2) == 0 ? Integer.MIN_VALUE : Integer.MAX_VALUE;
            default -> last < first ? first : from(first, last);
        };
    }

    private void run(int kind) {
        marks = kind == 0 ? 26 : kind + 1;
        int filling = kind == 3 ? 120 : 25;
        while (calls + MOST_CALLS_OF_A_STEP + MOST_CALLS_OF_A_LONG_LOOK <= MOST_CALLS) {
            if (!pending.isEmpty()) {
                append();
            } else if (calls < filling) {
                add();
            } else {
                step();
            }
        }
        lookLong();
        keptToTheCalls();
    }

    private void shortColumns() {
        marks = 2;
        for (int hole = 0; hole < 2; hole++) {
            for (int bed = below(6); bed > 0; bed--) {
                addTo(hole, 0, below(2), from(1, 4));
            }
        }
        set(0, from(1, 4));
        set(1, from(1, 4));
        set(2, below(3));
        set(3, from(1, 3));
        set(4, from(1, 3));
        if (below(2) == 0) {
            due("setKey", x.setKey(0, 1), model.setKey(0, 1));
        }
        List<Model.Step> every = model.stepsByEveryWay(0, 1);
        answers.holds("the model's own two ways agree", every.equals(model.steps(0, 1)));
        lookAtPair(0, 1);
        lookAtPair(1, 0);
        keptToTheCalls();
    }

    private void texts() {
        while (calls + MOST_CALLS_OF_A_TEXT + MOST_CALLS_OF_A_LONG_LOOK <= MOST_CALLS) {
            pending = someText();
            while (!pending.isEmpty()) {
                append();
            }
            due("load", x.load(), model.load());
            if (below(3) > 0) {
                due("clearText", x.clearText(), model.clearText());
            }
        }
        lookAtBeds(below(4));
        lookAtNumbers();
        keptToTheCalls();
    }

    private void keptToTheCalls() {
        answers.holds(calls + " calls are at most 512", calls <= MOST_CALLS);
    }

    private void due(String call, int got, int want) {
        calls++;
        answers.due("call " + calls + ", " + call, got, want);
    }

    private void append() {
        int character = pending.charAt(0);
        pending = pending.substring(1);
        due("appendCharacter", x.appendCharacter(character), model.appendCharacter(character));
    }

    private void set(int what, int value) {
        due("setNumber(" + what + ", " + value + ")", x.setNumber(what, value), model.setNumber(what, value));
    }

    private void addTo(int hole, int index, int mark, int thickness) {
        due("addBed(" + hole + ", " + index + ", " + mark + ", " + thickness + ")",
                x.addBed(hole, index, mark, thickness), model.addBed(hole, index, mark, thickness));
    }

    private void add() {
        int hole = from(0, 3);
        addTo(hole, from(0, model.hole(hole, 1)), below(marks), below(3) == 0 ? from(1, 99) : from(1, 12));
    }

    private String someText() {
        StringBuilder text = new StringBuilder();
        text.append((char) ('0' + about(0, 3) % 10)).append(':');
        int beds = below(3) == 0 ? from(20, 26) : below(6);
        for (int bed = 0; bed < beds; bed++) {
            text.append((char) ('a' + below(below(20) == 0 ? 26 : marks)));
            text.append(below(4) == 0 ? from(1, 99) : from(1, 9));
        }
        text.append(';');
        for (int change = below(4); change > 0; change--) {
            text.insert(below(text.length() + 1), ' ');
        }
        if (below(2) == 0) {
            int at = below(text.length());
            String signs = " ;:0159az{`/\u0000\u00ff\t";
            switch (below(3)) {
                case 0 -> text.setCharAt(at, signs.charAt(below(signs.length())));
                case 1 -> text.insert(at, signs.charAt(below(signs.length())));
                default -> text.deleteCharAt(at);
            }
        }
        return text.toString();
    }

    private void step() {
        int hole = about(0, 3);
        int held = hole >= 0 && hole <= 3 ? model.hole(hole, 1) : 0;
        switch (below(18)) {
            case 0, 1 -> add();
            case 2 -> addTo(hole, about(0, held), about(0, marks - 1), about(1, 99));
            case 3 -> {
                int bed = about(0, held - 1);
                due("removeBed(" + hole + ", " + bed + ")", x.removeBed(hole, bed), model.removeBed(hole, bed));
            }
            case 4 -> {
                int bed = about(0, held - 1);
                int thickness = about(1, 99);
                due("setThickness(" + hole + ", " + bed + ", " + thickness + ")",
                        x.setThickness(hole, bed, thickness), model.setThickness(hole, bed, thickness));
            }
            case 5, 6 -> {
                int depth = about(1, (hole >= 0 && hole <= 3 ? model.hole(hole, 2) : 0) - 1);
                int by = below(3) == 0 ? about(1, 60) : below(9) == 0 ? about(9999, 9999)
                        : -below(Math.min(60, Math.max(2, depth / 2)) + 1);
                due("cut(" + hole + ", " + depth + ", " + by + ")", x.cut(hole, depth, by), model.cut(hole, depth, by));
            }
            case 7 -> {
                int what = about(0, 4);
                int[] most = {99, 99, 9, 8, 999};
                int value = what == 4 && below(2) == 0 ? from(1, 9)
                        : about(what == 2 ? 0 : 1, what >= 0 && what <= 4 ? most[what] : 9);
                set(what, value);
            }
            case 8 -> {
                int mark = below(3) == 0 ? about(0, 25) : below(marks);
                int is = about(0, 1);
                due("setKey(" + mark + ", " + is + ")", x.setKey(mark, is), model.setKey(mark, is));
            }
            case 9 -> {
                int elevation = about(-9999, 9999);
                due("setCollar(" + hole + ", " + elevation + ")", x.setCollar(hole, elevation), model.setCollar(hole, elevation));
            }
            case 10 -> {
                pending = someText();
                if (below(3) > 0) {
                    due("load()", x.load(), model.load());
                }
            }
            case 11 -> due("load()", x.load(), model.load());
            case 12 -> {
                if (below(3) == 0) {
                    due("clearText()", x.clearText(), model.clearText());
                } else {
                    int character = about(0, 255);
                    due("appendCharacter(" + character + ")", x.appendCharacter(character), model.appendCharacter(character));
                }
            }
            case 13 -> images();
            default -> look();
        }
    }

    private void images() {
        int image = about(0, 1);
        switch (below(3)) {
            case 0 -> due("keep(" + image + ")", x.keep(image), model.keep(image));
            case 1 -> due("back(" + image + ")", x.back(image), model.back(image));
            default -> due("undo()", x.undo(), model.undo());
        }
    }

    private void look() {
        int a = about(0, 3);
        int b = about(0, 3);
        int c = about(0, 3);
        int side = about(0, 1);
        int bed = about(0, 12);
        int what = about(0, 4);
        due("count(" + (what + c) + ")", x.count(what + c), model.count(what + c));
        due("hole(" + a + ", " + what + ")", x.hole(a, what), model.hole(a, what));
        due("bed(" + a + ", " + bed + ", " + what + ")", x.bed(a, bed, what), model.bed(a, bed, what));
        due("find(" + a + ", " + bed + ", " + what + ")", x.find(a, bed, what), model.find(a, bed, what));
        due("account(" + what + ")", x.account(what), model.account(what));
        due("cost(" + a + ", " + b + ", " + side + ")", x.cost(a, b, side), model.cost(a, b, side));
        due("why(" + a + ", " + b + ", " + side + ", " + bed + ")", x.why(a, b, side, bed), model.why(a, b, side, bed));
        due("partner(" + a + ", " + b + ", " + side + ", " + bed + ")", x.partner(a, b, side, bed), model.partner(a, b, side, bed));
        due("matched(" + a + ", " + b + ", " + (what + 1) + ")", x.matched(a, b, what + 1), model.matched(a, b, what + 1));
        due("fault(" + a + ", " + b + ", " + bed + ", " + what + ")", x.fault(a, b, bed, what), model.fault(a, b, bed, what));
        due("sumOfThrows(" + a + ", " + b + ", " + what + ")", x.sumOfThrows(a, b, what), model.sumOfThrows(a, b, what));
        due("nearest(" + a + ", " + side + ")", x.nearest(a, side), model.nearest(a, side));
        due("closed(" + a + ", " + b + ", " + c + ")", x.closed(a, b, c), model.closed(a, b, c));
    }

    private void lookLong() {
        int a = below(4);
        int b = (a + 1 + below(3)) % 4;
        switch (below(6)) {
            case 0 -> {
                lookAtNumbers();
                lookAtBeds(a);
            }
            case 1 -> {
                lookAtNumbers();
                lookAtTriples();
            }
            case 2 -> {
                undoAll();
                lookAtPair(a, b);
            }
            default -> lookAtPair(a, b);
        }
    }

    private void lookAtNumbers() {
        for (int what = -1; what <= 10; what++) {
            due("count(" + what + ")", x.count(what), model.count(what));
            due("account(" + what + ")", x.account(what), model.account(what));
        }
    }

    private void lookAtBeds(int hole) {
        for (int bed = 0; bed <= 24; bed++) {
            for (int what = 0; what <= 3; what++) {
                due("bed(" + hole + ", " + bed + ", " + what + ")", x.bed(hole, bed, what), model.bed(hole, bed, what));
            }
        }
        for (int mark = 0; mark < 26; mark++) {
            due("find(" + hole + ", " + mark + ", 1)", x.find(hole, mark, 1), model.find(hole, mark, 1));
        }
    }

    private void lookAtTriples() {
        for (int a = 0; a <= 3; a++) {
            for (int b = 0; b <= 3; b++) {
                for (int c = 0; c <= 3; c++) {
                    due("closed(" + a + ", " + b + ", " + c + ")", x.closed(a, b, c), model.closed(a, b, c));
                }
            }
            due("nearest(" + a + ", 0)", x.nearest(a, 0), model.nearest(a, 0));
            due("nearest(" + a + ", 1)", x.nearest(a, 1), model.nearest(a, 1));
        }
    }

    private void undoAll() {
        for (int left = model.saved.size(); left >= 0; left--) {
            due("undo()", x.undo(), model.undo());
            due("account(0)", x.account(0), model.account(0));
            due("count(5)", x.count(5), model.count(5));
        }
    }

    private void lookAtPair(int a, int b) {
        for (int way = 0; way <= 1; way++) {
            due("cost(" + a + ", " + b + ", " + way + ")", x.cost(a, b, way), model.cost(a, b, way));
        }
        for (int side = 0; side <= 1; side++) {
            for (int bed = 0; bed <= 24; bed++) {
                due("why(" + a + ", " + b + ", " + side + ", " + bed + ")", x.why(a, b, side, bed), model.why(a, b, side, bed));
                due("partner(" + a + ", " + b + ", " + side + ", " + bed + ")", x.partner(a, b, side, bed), model.partner(a, b, side, bed));
            }
        }
        for (int what = 0; what <= 6; what++) {
            due("matched(" + a + ", " + b + ", " + what + ")", x.matched(a, b, what), model.matched(a, b, what));
            due("sumOfThrows(" + a + ", " + b + ", " + what + ")", x.sumOfThrows(a, b, what), model.sumOfThrows(a, b, what));
            for (int index = 0; index <= 5; index++) {
                due("fault(" + a + ", " + b + ", " + index + ", " + what + ")", x.fault(a, b, index, what), model.fault(a, b, index, what));
            }
        }
    }
}
