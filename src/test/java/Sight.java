/** All that can be seen of an object without changing it. */
final class Sight {
    private Sight() {
    }

    static String of(BoreholeColumns x) {
        StringBuilder sight = new StringBuilder();
        for (int what = 0; what <= 9; what++) {
            sight.append(x.count(what)).append(' ');
        }
        for (int what = 0; what <= 4; what++) {
            sight.append(x.account(what)).append(' ');
        }
        for (int hole = 0; hole < 4; hole++) {
            sight.append('\n').append(x.hole(hole, 0)).append(' ').append(x.hole(hole, 1)).append(' ').append(x.hole(hole, 2));
            for (int bed = 0; bed < x.hole(hole, 1); bed++) {
                sight.append(' ').append((char) ('a' + x.bed(hole, bed, 0))).append(x.bed(hole, bed, 1));
            }
        }
        return sight.toString();
    }

    static String column(BoreholeColumns x, int hole) {
        StringBuilder sight = new StringBuilder();
        for (int bed = 0; bed < x.hole(hole, 1); bed++) {
            sight.append((char) ('a' + x.bed(hole, bed, 0))).append(x.bed(hole, bed, 1));
        }
        return sight.toString();
    }
}
