/** All that can be seen of an object without changing it. */
final class Sight {
    private Sight() {
    }

    static String of(BoreholeColumns x) {
        StringBuilder sight = new StringBuilder();
        for (int what = 0; what <= 9; what++) {
            sight.append(x.count(what)).append(' ');
        }
        for (int what = 0; what <= 4; what++) {
            sight.append(x.account(what)).append(' ');
        }
        for (int hole = 0; hole < 4; hole++) {
            sight.append('\n').append(x.hole(hole, 0)).append(' ').append(x.hole(hole, 1));
            sight.append(' ').append(x.hole(hole, 2)).append(' ').append(column(x, hole));
        }
        return sight.toString();
    }

    /** All beds, the text, the saved states and all lengths, each by a number: four calls. */
    static String inShort(BoreholeColumns x) {
        return x.count(6) + " " + x.count(7) + " " + x.count(8) + " " + x.account(0);
    }

    /** The beds of a hole, as a text would tell them. */
    static String column(BoreholeColumns x, int hole) {
        StringBuilder sight = new StringBuilder();
        int beds = x.hole(hole, 1);
        for (int bed = 0; bed < beds; bed++) {
            sight.append((char) ('a' + x.bed(hole, bed, 0))).append(x.bed(hole, bed, 1));
        }
        return sight.toString();
    }
}
