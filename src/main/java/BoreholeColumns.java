/**
 * Borehole columns of beds by marks, matched from the top down with the least cost.
 *
 * Every row is made in a constructor and used again, so that no call makes an object: all calls of
 * a run live in one room.
 */
public final class BoreholeColumns {
    public static final int INVALID_ARGUMENT = -1000001;
    public static final int ILLEGAL_STATE = -1000002;
    public static final int CAPACITY_EXCEEDED = -1000003;
    public static final int NONE = -1000009;

    private static final int TEXT_ERROR = -2000000;

    private static final int HOLES = 4;
    private static final int MARKS = 26;
    private static final int MAX_BEDS = 24;
    private static final int MAX_THICKNESS = 99;
    private static final int MAX_ELEVATION = 9999;
    private static final int MAX_CUT = 9999;
    private static final int MAX_TEXT = 100;
    private static final int MAX_CHARACTER = 255;
    private static final int MAX_SAVED = 6;
    private static final int IMAGES = 2;

    private static final int NUMBER_M = 0;
    private static final int NUMBER_R = 1;
    private static final int NUMBER_U = 2;
    private static final int NUMBER_W = 3;
    private static final int NUMBER_T = 4;
    private static final int NUMBERS = 5;
    private static final int[] FIRST_NUMBERS = {10, 6, 1, 3, 5};
    private static final int[] LEAST_NUMBERS = {1, 1, 0, 1, 1};
    private static final int[] GREATEST_NUMBERS = {99, 99, 9, 8, 999};

    private static final int ACCOUNT_LENGTHS = 0;
    private static final int ACCOUNT_CAME = 1;
    private static final int ACCOUNT_WENT = 2;
    private static final int ACCOUNT_TAKEN_OUT = 3;
    private static final int ACCOUNT_REPEATED = 4;
    private static final int ACCOUNTS = 5;

    private static final int SIDE_A = 0;
    private static final int SIDE_B = 1;

    private static final int NO_STEP = 0;
    private static final int MATCH = 1;
    private static final int MISSING_IN_B = 2;
    private static final int REPEAT = 3;
    private static final int MISSING_IN_A = 4;

    private static final int REASON_MISSING_IN_B = 1;
    private static final int REASON_REPEAT = 2;
    private static final int REASON_MISSING_IN_A = 4;

    private static final int FROM_BOTTOM = 0;
    private static final int FROM_TOP = 1;

    /** Far above any cost: 48 beds at 3 * 99 are 14256. */
    private static final int IMPOSSIBLE = 1000000;

    private final State present;
    private final History history;
    private final State[] images;
    private int keptImages;
    private final Text text;
    private final Column faulted;
    private final Matching matching;
    private final Matching onward;
    private final Matching direct;

    public BoreholeColumns() {
        present = new State();
        history = new History();
        images = new State[IMAGES];
        for (int image = 0; image < IMAGES; image++) {
            images[image] = new State();
        }
        keptImages = 0;
        text = new Text();
        faulted = new Column();
        matching = new Matching();
        onward = new Matching();
        direct = new Matching();
    }

    // ---- what is told

    public int setNumber(int what, int value) {
        if (what < 0 || what >= NUMBERS) {
            return INVALID_ARGUMENT;
        }
        if (value < LEAST_NUMBERS[what] || value > GREATEST_NUMBERS[what]) {
            return INVALID_ARGUMENT;
        }
        history.save(present);
        int previous = present.numberOf(what);
        present.putNumber(what, value);
        return previous;
    }

    public int setKey(int mark, int is) {
        if (!isMark(mark) || is < 0 || is > 1) {
            return INVALID_ARGUMENT;
        }
        history.save(present);
        int previous = present.isKey(mark) ? 1 : 0;
        present.putKey(mark, is == 1);
        return previous;
    }

    public int setCollar(int hole, int elevation) {
        if (!isHole(hole) || elevation < -MAX_ELEVATION || elevation > MAX_ELEVATION) {
            return INVALID_ARGUMENT;
        }
        history.save(present);
        Column column = present.columnOf(hole);
        int previous = column.collarElevation();
        column.putCollar(elevation);
        return previous;
    }

    public int addBed(int hole, int index, int mark, int thickness) {
        if (!isHole(hole) || !isMark(mark) || !isThickness(thickness)) {
            return INVALID_ARGUMENT;
        }
        Column column = present.columnOf(hole);
        if (index < 0 || index > column.size()) {
            return INVALID_ARGUMENT;
        }
        if (column.size() >= MAX_BEDS) {
            return CAPACITY_EXCEEDED;
        }
        history.save(present);
        column.insert(index, mark, thickness);
        present.book(ACCOUNT_CAME, thickness);
        return column.size();
    }

    public int removeBed(int hole, int bed) {
        if (!isHole(hole) || !present.columnOf(hole).has(bed)) {
            return INVALID_ARGUMENT;
        }
        history.save(present);
        Column column = present.columnOf(hole);
        int thickness = column.thicknessOf(bed);
        column.takeOut(bed);
        present.book(ACCOUNT_WENT, thickness);
        return thickness;
    }

    public int setThickness(int hole, int bed, int thickness) {
        if (!isHole(hole) || !isThickness(thickness) || !present.columnOf(hole).has(bed)) {
            return INVALID_ARGUMENT;
        }
        history.save(present);
        Column column = present.columnOf(hole);
        int previous = column.thicknessOf(bed);
        column.putThickness(bed, thickness);
        present.book(ACCOUNT_CAME, Math.max(thickness - previous, 0));
        present.book(ACCOUNT_WENT, Math.max(previous - thickness, 0));
        return previous;
    }

    public int cut(int hole, int depth, int by) {
        if (!isHole(hole)) {
            return INVALID_ARGUMENT;
        }
        Column column = present.columnOf(hole);
        int length = column.totalThickness();
        if (depth < 1 || depth > length - 1 || by == 0 || by < -depth || by > MAX_CUT) {
            return INVALID_ARGUMENT;
        }
        int repeatsFrom = Math.min(depth, depth + by);
        int goesOnAt = Math.min(length, Math.max(depth, depth + by));
        faulted.clear();
        boolean fits = faulted.appendPart(column, 0, depth)
                && faulted.appendPart(column, repeatsFrom, depth)
                && faulted.appendPart(column, goesOnAt, length);
        if (!fits) {
            return CAPACITY_EXCEEDED;
        }
        history.save(present);
        column.takeBedsOf(faulted);
        present.book(ACCOUNT_TAKEN_OUT, goesOnAt - depth);
        present.book(ACCOUNT_REPEATED, depth - repeatsFrom);
        return column.size();
    }

    public int appendCharacter(int character) {
        if (character < 0 || character > MAX_CHARACTER) {
            return INVALID_ARGUMENT;
        }
        if (!text.append(character)) {
            return CAPACITY_EXCEEDED;
        }
        return text.size();
    }

    public int clearText() {
        int previous = text.size();
        text.clear();
        return previous;
    }

    public int load() {
        if (!text.parse()) {
            return TEXT_ERROR - text.parsedTo();
        }
        history.save(present);
        Column column = present.columnOf(text.parsedHole());
        present.book(ACCOUNT_WENT, column.totalThickness());
        column.takeBedsOf(text.parsedBeds());
        present.book(ACCOUNT_CAME, column.totalThickness());
        text.clear();
        return column.size();
    }

    // ---- images

    public int keep(int image) {
        if (!isImage(image)) {
            return INVALID_ARGUMENT;
        }
        images[image].copyFrom(present);
        keptImages |= 1 << image;
        return present.sumOfSizes();
    }

    public int back(int image) {
        if (!isImage(image)) {
            return INVALID_ARGUMENT;
        }
        if ((keptImages & (1 << image)) == 0) {
            return ILLEGAL_STATE;
        }
        history.save(present);
        present.copyFrom(images[image]);
        return present.sumOfSizes();
    }

    public int undo() {
        if (!history.restore(present)) {
            return ILLEGAL_STATE;
        }
        return history.size();
    }

    // ---- looking

    public int count(int what) {
        if (what >= 0 && what < NUMBERS) {
            return present.numberOf(what);
        }
        switch (what) {
            case 5:
                return present.keyMarkCount();
            case 6:
                return present.sumOfSizes();
            case 7:
                return text.size();
            case 8:
                return history.size();
            case 9:
                return keptImages;
            default:
                return INVALID_ARGUMENT;
        }
    }

    public int hole(int hole, int what) {
        if (!isHole(hole)) {
            return INVALID_ARGUMENT;
        }
        Column column = present.columnOf(hole);
        switch (what) {
            case 0:
                return column.collarElevation();
            case 1:
                return column.size();
            case 2:
                return column.totalThickness();
            default:
                return INVALID_ARGUMENT;
        }
    }

    public int bed(int hole, int bed, int what) {
        if (!isHole(hole) || what < 0 || what > 3 || bed < 0) {
            return INVALID_ARGUMENT;
        }
        Column column = present.columnOf(hole);
        if (!column.has(bed)) {
            return NONE;
        }
        switch (what) {
            case 0:
                return column.markOf(bed);
            case 1:
                return column.thicknessOf(bed);
            case 2:
                return column.depthOf(bed);
            default:
                return column.elevationOf(bed);
        }
    }

    public int find(int hole, int mark, int which) {
        if (!isHole(hole) || !isMark(mark) || which < 0) {
            return INVALID_ARGUMENT;
        }
        return present.columnOf(hole).bedWithMark(mark, which);
    }

    public int account(int what) {
        if (what < 0 || what >= ACCOUNTS) {
            return INVALID_ARGUMENT;
        }
        return what == ACCOUNT_LENGTHS ? present.sumOfLengths() : present.bookedIn(what);
    }

    // ---- matching (nothing changes)

    public int cost(int a, int b, int way) {
        if (!arePair(a, b) || (way != FROM_BOTTOM && way != FROM_TOP)) {
            return INVALID_ARGUMENT;
        }
        return matching.leastCost(present, a, b, way);
    }

    public int why(int a, int b, int side, int bed) {
        if (!isBedOfPair(a, b, side, bed)) {
            return INVALID_ARGUMENT;
        }
        matching.solve(present, a, b);
        return matching.fateOf(side, bed);
    }

    public int partner(int a, int b, int side, int bed) {
        if (!isBedOfPair(a, b, side, bed)) {
            return INVALID_ARGUMENT;
        }
        matching.solve(present, a, b);
        return matching.partnerOf(side, bed);
    }

    public int matched(int a, int b, int what) {
        if (!arePair(a, b) || what < 1 || what > 5) {
            return INVALID_ARGUMENT;
        }
        matching.solve(present, a, b);
        switch (what) {
            case MATCH:
            case MISSING_IN_B:
                return matching.countFates(SIDE_A, what);
            case REPEAT:
            case MISSING_IN_A:
                return matching.countFates(SIDE_B, what);
            default:
                return matching.faultCount();
        }
    }

    public int fault(int a, int b, int index, int what) {
        if (!arePair(a, b) || index < 0 || what < 0 || what > 2) {
            return INVALID_ARGUMENT;
        }
        matching.solve(present, a, b);
        int ahead = matching.bedAheadOfFault(index);
        if (ahead == NONE) {
            return NONE;
        }
        switch (what) {
            case 0:
                return ahead;
            case 1:
                return matching.throwBelow(ahead);
            default:
                return matching.reasonBelow(ahead);
        }
    }

    public int sumOfThrows(int a, int b, int what) {
        if (!arePair(a, b) || what < 0 || what > 2) {
            return INVALID_ARGUMENT;
        }
        matching.solve(present, a, b);
        if (matching.nextMatch(-1) == NONE) {
            return NONE;
        }
        switch (what) {
            case 0:
                return matching.totalThrow(false);
            case 1:
                return matching.totalThrow(true);
            default:
                return matching.changeOfElevations();
        }
    }

    public int nearest(int hole, int what) {
        if (!isHole(hole) || what < 0 || what > 1) {
            return INVALID_ARGUMENT;
        }
        int nearestHole = NONE;
        int leastCost = IMPOSSIBLE;
        for (int other = 0; other < HOLES; other++) {
            if (other != hole) {
                int otherCost = matching.leastCost(present, hole, other, FROM_BOTTOM);
                if (otherCost < leastCost) {
                    leastCost = otherCost;
                    nearestHole = other;
                }
            }
        }
        return what == 0 ? nearestHole : leastCost;
    }

    public int closed(int a, int b, int c) {
        if (!arePair(a, b) || !arePair(a, c) || !arePair(b, c)) {
            return INVALID_ARGUMENT;
        }
        matching.solve(present, a, b);
        onward.solve(present, b, c);
        direct.solve(present, a, c);
        int beds = 0;
        for (int bed = 0; bed < MAX_BEDS; bed++) {
            int over = matching.partnerOf(SIDE_A, bed);
            int reached = onward.partnerOf(SIDE_A, over);
            if (reached != NONE && reached == direct.partnerOf(SIDE_A, bed)) {
                beds++;
            }
        }
        return beds;
    }

    // ---- what arguments may be

    private static boolean isHole(int hole) {
        return hole >= 0 && hole < HOLES;
    }

    private static boolean isMark(int mark) {
        return mark >= 0 && mark < MARKS;
    }

    private static boolean isThickness(int thickness) {
        return thickness >= 1 && thickness <= MAX_THICKNESS;
    }

    private static boolean isImage(int image) {
        return image >= 0 && image < IMAGES;
    }

    private static boolean arePair(int a, int b) {
        return isHole(a) && isHole(b) && a != b;
    }

    private boolean isBedOfPair(int a, int b, int side, int bed) {
        if (!arePair(a, b) || (side != SIDE_A && side != SIDE_B)) {
            return false;
        }
        return present.columnOf(side == SIDE_A ? a : b).has(bed);
    }

    /** A collar and its beds from the top down. */
    private static final class Column {
        private int collar;
        private int bedCount;
        private final int[] marks;
        private final int[] thicknesses;

        Column() {
            collar = 0;
            bedCount = 0;
            marks = new int[MAX_BEDS];
            thicknesses = new int[MAX_BEDS];
        }

        int collarElevation() {
            return collar;
        }

        void putCollar(int elevation) {
            collar = elevation;
        }

        int size() {
            return bedCount;
        }

        boolean has(int bed) {
            return bed >= 0 && bed < bedCount && bed < MAX_BEDS;
        }

        int markOf(int bed) {
            return has(bed) ? marks[bed] : NONE;
        }

        int thicknessOf(int bed) {
            return has(bed) ? thicknesses[bed] : 0;
        }

        void putThickness(int bed, int thickness) {
            if (has(bed)) {
                thicknesses[bed] = thickness;
            }
        }

        int depthOf(int bed) {
            int depth = 0;
            for (int above = 0; above < bed && above < MAX_BEDS && has(above); above++) {
                depth += thicknesses[above];
            }
            return depth;
        }

        int elevationOf(int bed) {
            return collar - depthOf(bed);
        }

        int totalThickness() {
            return depthOf(bedCount);
        }

        int bedWithMark(int mark, int which) {
            int seen = 0;
            for (int bed = 0; bed < MAX_BEDS && has(bed); bed++) {
                if (marks[bed] == mark) {
                    if (seen == which) {
                        return bed;
                    }
                    seen++;
                }
            }
            return NONE;
        }

        void clear() {
            bedCount = 0;
        }

        /** Answers false, and inserts nothing, if there is no room or no such place. */
        boolean insert(int index, int mark, int thickness) {
            if (bedCount < 0 || bedCount >= MAX_BEDS || index < 0 || index > bedCount) {
                return false;
            }
            for (int bed = bedCount; bed > index; bed--) {
                marks[bed] = marks[bed - 1];
                thicknesses[bed] = thicknesses[bed - 1];
            }
            marks[index] = mark;
            thicknesses[index] = thickness;
            bedCount++;
            return true;
        }

        void takeOut(int index) {
            if (!has(index)) {
                return;
            }
            for (int bed = index; bed + 1 < MAX_BEDS && has(bed + 1); bed++) {
                marks[bed] = marks[bed + 1];
                thicknesses[bed] = thicknesses[bed + 1];
            }
            bedCount--;
        }

        /**
         * Appends what lies in another column between two depths, the part of each bed as a bed of
         * its own. Answers false if there is no room for all of it.
         */
        boolean appendPart(Column source, int from, int to) {
            int top = 0;
            for (int bed = 0; bed < MAX_BEDS && source.has(bed); bed++) {
                int bottom = top + source.thicknessOf(bed);
                int thickness = Math.min(bottom, to) - Math.max(top, from);
                if (thickness > 0 && !insert(bedCount, source.markOf(bed), thickness)) {
                    return false;
                }
                top = bottom;
            }
            return true;
        }

        /** The collar stays: beds are read and cut without it. */
        void takeBedsOf(Column source) {
            bedCount = source.bedCount;
            System.arraycopy(source.marks, 0, marks, 0, MAX_BEDS);
            System.arraycopy(source.thicknesses, 0, thicknesses, 0, MAX_BEDS);
        }

        void copyFrom(Column source) {
            collar = source.collar;
            takeBedsOf(source);
        }
    }

    /** Everything but the text, the images and the saved states. */
    private static final class State {
        private final int[] numbers;
        private int keyMarks;
        private final Column[] columns;
        private final int[] booked;

        State() {
            numbers = new int[NUMBERS];
            for (int what = 0; what < NUMBERS; what++) {
                numbers[what] = FIRST_NUMBERS[what];
            }
            keyMarks = 0;
            columns = new Column[HOLES];
            for (int hole = 0; hole < HOLES; hole++) {
                columns[hole] = new Column();
            }
            booked = new int[ACCOUNTS];
        }

        int numberOf(int what) {
            return what >= 0 && what < NUMBERS ? numbers[what] : 0;
        }

        void putNumber(int what, int value) {
            if (what >= 0 && what < NUMBERS) {
                numbers[what] = value;
            }
        }

        boolean isKey(int mark) {
            return isMark(mark) && (keyMarks & (1 << mark)) != 0;
        }

        void putKey(int mark, boolean key) {
            if (isMark(mark)) {
                keyMarks = key ? keyMarks | (1 << mark) : keyMarks & ~(1 << mark);
            }
        }

        int keyMarkCount() {
            return Integer.bitCount(keyMarks);
        }

        /** Every caller tells a hole that there is; hole 0 stands for any other number. */
        Column columnOf(int hole) {
            return columns[isHole(hole) ? hole : 0];
        }

        int bookedIn(int what) {
            return what >= 0 && what < ACCOUNTS ? booked[what] : 0;
        }

        void book(int what, int thickness) {
            if (what >= 0 && what < ACCOUNTS) {
                booked[what] += thickness;
            }
        }

        int sumOfSizes() {
            int sum = 0;
            for (int hole = 0; hole < HOLES; hole++) {
                sum += columns[hole].size();
            }
            return sum;
        }

        int sumOfLengths() {
            int sum = 0;
            for (int hole = 0; hole < HOLES; hole++) {
                sum += columns[hole].totalThickness();
            }
            return sum;
        }

        void copyFrom(State source) {
            System.arraycopy(source.numbers, 0, numbers, 0, NUMBERS);
            keyMarks = source.keyMarks;
            for (int hole = 0; hole < HOLES; hole++) {
                columns[hole].copyFrom(source.columns[hole]);
            }
            System.arraycopy(source.booked, 0, booked, 0, ACCOUNTS);
        }
    }

    /** The saved states in a ring, so that the oldest one gives its place to the newest. */
    private static final class History {
        private final State[] saved;
        private int savedCount;
        private int next;

        History() {
            saved = new State[MAX_SAVED];
            for (int place = 0; place < MAX_SAVED; place++) {
                saved[place] = new State();
            }
            savedCount = 0;
            next = 0;
        }

        int size() {
            return savedCount;
        }

        void save(State state) {
            if (next < 0 || next >= MAX_SAVED) {
                next = 0;
            }
            saved[next].copyFrom(state);
            next = next + 1 < MAX_SAVED ? next + 1 : 0;
            savedCount = Math.min(savedCount + 1, MAX_SAVED);
        }

        /** Answers false, and changes nothing, if no state is saved. */
        boolean restore(State state) {
            if (savedCount < 1) {
                return false;
            }
            int newest = next > 0 && next < MAX_SAVED ? next - 1 : MAX_SAVED - 1;
            state.copyFrom(saved[newest]);
            next = newest;
            savedCount--;
            return true;
        }
    }

    /** The text, and what was read from it. */
    private static final class Text {
        private static final int END = -1;

        private final int[] characters;
        private int length;
        private int position;
        private int holeRead;
        private final Column bedsRead;

        Text() {
            characters = new int[MAX_TEXT];
            length = 0;
            position = 0;
            holeRead = 0;
            bedsRead = new Column();
        }

        int size() {
            return length;
        }

        void clear() {
            length = 0;
        }

        boolean append(int character) {
            if (length < 0 || length >= MAX_TEXT) {
                return false;
            }
            characters[length] = character;
            length++;
            return true;
        }

        /** Reads the whole text; where it has an error, parsedTo() is the position of it. */
        boolean parse() {
            position = 0;
            bedsRead.clear();
            if (!parseHole() || !parseSign(':') || !parseBeds() || !parseSign(';')) {
                return false;
            }
            skipSpaces();
            return position == length;
        }

        int parsedTo() {
            return position;
        }

        int parsedHole() {
            return holeRead;
        }

        Column parsedBeds() {
            return bedsRead;
        }

        private int current() {
            return position >= 0 && position < length && position < MAX_TEXT
                    ? characters[position] : END;
        }

        private void skipSpaces() {
            while (position < length && current() == ' ') {
                position++;
            }
        }

        private boolean parseSign(int sign) {
            skipSpaces();
            if (current() != sign) {
                return false;
            }
            position++;
            return true;
        }

        private boolean parseHole() {
            skipSpaces();
            int digit = current() - '0';
            if (!isHole(digit)) {
                return false;
            }
            holeRead = digit;
            position++;
            return true;
        }

        /** Stops ahead of what is no letter, and ahead of a 25th bed: there only ";" may stand. */
        private boolean parseBeds() {
            for (int bed = 0; bed < MAX_BEDS; bed++) {
                skipSpaces();
                int mark = current() - 'a';
                if (!isMark(mark)) {
                    return true;
                }
                position++;
                skipSpaces();
                int thickness = parseThickness();
                if (thickness == 0) {
                    return false;
                }
                bedsRead.insert(bed, mark, thickness);
            }
            return true;
        }

        /** Answers 0 if no thickness stands here. */
        private int parseThickness() {
            int tens = current() - '0';
            if (tens < 1 || tens > 9) {
                return 0;
            }
            position++;
            int ones = current() - '0';
            if (ones < 0 || ones > 9) {
                return tens;
            }
            position++;
            return 10 * tens + ones;
        }
    }

    /** Two columns that are read downwards: the steps that can be done and what they cost. */
    private static final class Pair {
        private static final int ROW = MAX_BEDS + 1;
        private static final int KEY_FACTOR = 3;

        private final Column a;
        private final Column b;
        private final int[] missingCosts;
        private int repeatCost;
        private int differenceCost;
        private int reach;
        private final int[] least;

        Pair() {
            a = new Column();
            b = new Column();
            missingCosts = new int[MARKS];
            repeatCost = 0;
            differenceCost = 0;
            reach = 0;
            least = new int[ROW * ROW];
        }

        void take(State state, int holeA, int holeB) {
            a.copyFrom(state.columnOf(holeA));
            b.copyFrom(state.columnOf(holeB));
            int missingCost = state.numberOf(NUMBER_M);
            for (int mark = 0; mark < MARKS; mark++) {
                missingCosts[mark] = state.isKey(mark) ? KEY_FACTOR * missingCost : missingCost;
            }
            repeatCost = state.numberOf(NUMBER_R);
            differenceCost = state.numberOf(NUMBER_U);
            reach = state.numberOf(NUMBER_W);
        }

        Column columnA() {
            return a;
        }

        Column columnB() {
            return b;
        }

        /** The latest bed of A in reach with the mark of the bed j of B, or NONE. */
        int repeatedBed(int i, int j) {
            if (!b.has(j)) {
                return NONE;
            }
            int mark = b.markOf(j);
            for (int bed = i - 1; bed >= 0 && bed >= i - reach; bed--) {
                if (a.markOf(bed) == mark) {
                    return bed;
                }
            }
            return NONE;
        }

        /** IMPOSSIBLE if the step can't be done where i and j beds were read. */
        private int stepCost(int step, int i, int j) {
            switch (step) {
                case MATCH:
                    return a.has(i) && b.has(j) && a.markOf(i) == b.markOf(j)
                            ? costOfDifference(i, j) : IMPOSSIBLE;
                case MISSING_IN_B:
                    return missingCostOf(a.markOf(i));
                case REPEAT:
                    int repeated = repeatedBed(i, j);
                    return repeated == NONE
                            ? IMPOSSIBLE : repeatCost + costOfDifference(repeated, j);
                default:
                    return missingCostOf(b.markOf(j));
            }
        }

        /** IMPOSSIBLE for the mark NONE, which a bed has that is not there. */
        private int missingCostOf(int mark) {
            return isMark(mark) ? missingCosts[mark] : IMPOSSIBLE;
        }

        private int costOfDifference(int i, int j) {
            return differenceCost * Math.abs(a.thicknessOf(i) - b.thicknessOf(j));
        }

        /** How many beds of A were read after a step. */
        static int nextOfA(int step, int i) {
            return step == MATCH || step == MISSING_IN_B ? i + 1 : i;
        }

        static int nextOfB(int step, int j) {
            return step == MISSING_IN_B ? j : j + 1;
        }

        private int leastAt(int i, int j) {
            return i >= 0 && i < ROW && j >= 0 && j < ROW ? least[i * ROW + j] : IMPOSSIBLE;
        }

        private void putLeast(int i, int j, int cost) {
            if (i >= 0 && i < ROW && j >= 0 && j < ROW) {
                least[i * ROW + j] = cost;
            }
        }

        private int leastAfter(int step, int i, int j) {
            return leastAt(nextOfA(step, i), nextOfB(step, j));
        }

        /** Leaves in the table what it costs to read the rest. */
        int costFromBottom() {
            for (int i = a.size(); i >= 0; i--) {
                for (int j = b.size(); j >= 0; j--) {
                    int best = i == a.size() && j == b.size() ? 0 : IMPOSSIBLE;
                    for (int step = MATCH; step <= MISSING_IN_A; step++) {
                        best = Math.min(best, stepCost(step, i, j) + leastAfter(step, i, j));
                    }
                    putLeast(i, j, best);
                }
            }
            return leastAt(0, 0);
        }

        /** Leaves in the table what it cost to come so far. */
        int costFromTop() {
            for (int cell = 0; cell < ROW * ROW; cell++) {
                least[cell] = IMPOSSIBLE;
            }
            putLeast(0, 0, 0);
            for (int i = 0; i <= a.size(); i++) {
                for (int j = 0; j <= b.size(); j++) {
                    for (int step = MATCH; step <= MISSING_IN_A; step++) {
                        int cost = leastAt(i, j) + stepCost(step, i, j);
                        if (cost < leastAfter(step, i, j)) {
                            putLeast(nextOfA(step, i), nextOfB(step, j), cost);
                        }
                    }
                }
            }
            return leastAt(a.size(), b.size());
        }

        /** Asks for the table of costFromBottom(); answers NO_STEP when all beds were read. */
        int firstBestStep(int i, int j) {
            for (int step = MATCH; step <= MISSING_IN_A; step++) {
                if (stepCost(step, i, j) + leastAfter(step, i, j) == leastAt(i, j)) {
                    return step;
                }
            }
            return NO_STEP;
        }
    }

    /** What becomes of the beds of two columns, and the throws between their matches. */
    private static final class Matching {
        private final Pair pair;
        private final int[] fatesOfA;
        private final int[] fatesOfB;
        private final int[] partnersOfA;
        private final int[] partnersOfB;
        private int leastFault;

        Matching() {
            pair = new Pair();
            fatesOfA = new int[MAX_BEDS];
            fatesOfB = new int[MAX_BEDS];
            partnersOfA = new int[MAX_BEDS];
            partnersOfB = new int[MAX_BEDS];
            leastFault = 0;
        }

        int leastCost(State state, int holeA, int holeB, int way) {
            pair.take(state, holeA, holeB);
            return way == FROM_TOP ? pair.costFromTop() : pair.costFromBottom();
        }

        void solve(State state, int holeA, int holeB) {
            pair.take(state, holeA, holeB);
            pair.costFromBottom();
            leastFault = state.numberOf(NUMBER_T);
            for (int bed = 0; bed < MAX_BEDS; bed++) {
                settleA(bed, NO_STEP, NONE);
                settleB(bed, NO_STEP, NONE);
            }
            int i = 0;
            int j = 0;
            for (int steps = 0; steps < 2 * MAX_BEDS; steps++) {
                int step = pair.firstBestStep(i, j);
                if (step == NO_STEP) {
                    return;
                }
                settle(step, i, j);
                i = Pair.nextOfA(step, i);
                j = Pair.nextOfB(step, j);
            }
        }

        private void settle(int step, int i, int j) {
            switch (step) {
                case MATCH:
                    settleA(i, MATCH, j);
                    settleB(j, MATCH, i);
                    break;
                case MISSING_IN_B:
                    settleA(i, MISSING_IN_B, NONE);
                    break;
                case REPEAT:
                    settleB(j, REPEAT, pair.repeatedBed(i, j));
                    break;
                default:
                    settleB(j, MISSING_IN_A, NONE);
                    break;
            }
        }

        private void settleA(int bed, int fate, int partnerBed) {
            if (bed >= 0 && bed < MAX_BEDS) {
                fatesOfA[bed] = fate;
                partnersOfA[bed] = partnerBed;
            }
        }

        private void settleB(int bed, int fate, int partnerBed) {
            if (bed >= 0 && bed < MAX_BEDS) {
                fatesOfB[bed] = fate;
                partnersOfB[bed] = partnerBed;
            }
        }

        /** NO_STEP for a bed that is not there. */
        int fateOf(int side, int bed) {
            if (bed < 0 || bed >= MAX_BEDS) {
                return NO_STEP;
            }
            return side == SIDE_A ? fatesOfA[bed] : fatesOfB[bed];
        }

        /** NONE for a bed that is not there. */
        int partnerOf(int side, int bed) {
            if (bed < 0 || bed >= MAX_BEDS) {
                return NONE;
            }
            return side == SIDE_A ? partnersOfA[bed] : partnersOfB[bed];
        }

        int countFates(int side, int fate) {
            int beds = 0;
            for (int bed = 0; bed < MAX_BEDS; bed++) {
                if (fateOf(side, bed) == fate) {
                    beds++;
                }
            }
            return beds;
        }

        /** The topmost matched bed of A below a bed (below none, if it is -1), or NONE. */
        int nextMatch(int bed) {
            for (int below = bed + 1; below < MAX_BEDS; below++) {
                if (fateOf(SIDE_A, below) == MATCH) {
                    return below;
                }
            }
            return NONE;
        }

        /** Whether a bed of A is matched and there is a match below it. */
        private boolean hasThrow(int bed) {
            return fateOf(SIDE_A, bed) == MATCH && nextMatch(bed) != NONE;
        }

        int throwBelow(int bed) {
            if (!hasThrow(bed)) {
                return 0;
            }
            int next = nextMatch(bed);
            int inA = pair.columnA().depthOf(next) - pair.columnA().depthOf(bed);
            int inB = pair.columnB().depthOf(partnerOf(SIDE_A, next))
                    - pair.columnB().depthOf(partnerOf(SIDE_A, bed));
            return inA - inB;
        }

        private boolean hasFault(int bed) {
            return hasThrow(bed) && Math.abs(throwBelow(bed)) >= leastFault;
        }

        int reasonBelow(int bed) {
            if (!hasThrow(bed)) {
                return 0;
            }
            int next = nextMatch(bed);
            int reason = next > bed + 1 ? REASON_MISSING_IN_B : 0;
            int end = Math.min(partnerOf(SIDE_A, next), MAX_BEDS);
            for (int between = partnerOf(SIDE_A, bed) + 1; between < end; between++) {
                reason |= fateOf(SIDE_B, between) == REPEAT ? REASON_REPEAT : REASON_MISSING_IN_A;
            }
            return reason;
        }

        int faultCount() {
            int faults = 0;
            for (int bed = 0; bed < MAX_BEDS; bed++) {
                if (hasFault(bed)) {
                    faults++;
                }
            }
            return faults;
        }

        int bedAheadOfFault(int index) {
            int seen = 0;
            for (int bed = 0; bed < MAX_BEDS; bed++) {
                if (hasFault(bed)) {
                    if (seen == index) {
                        return bed;
                    }
                    seen++;
                }
            }
            return NONE;
        }

        int totalThrow(boolean faultsAlone) {
            int total = 0;
            for (int bed = 0; bed < MAX_BEDS; bed++) {
                if (!faultsAlone || hasFault(bed)) {
                    total += throwBelow(bed);
                }
            }
            return total;
        }

        int changeOfElevations() {
            int first = nextMatch(-1);
            int last = first;
            for (int bed = 0; bed < MAX_BEDS; bed++) {
                if (fateOf(SIDE_A, bed) == MATCH) {
                    last = bed;
                }
            }
            return differenceOfElevations(first) - differenceOfElevations(last);
        }

        private int differenceOfElevations(int bed) {
            return pair.columnA().elevationOf(bed)
                    - pair.columnB().elevationOf(partnerOf(SIDE_A, bed));
        }
    }
}
