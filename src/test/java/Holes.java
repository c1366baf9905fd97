/** Objects with columns that are told as texts, each made with as few calls as can be. */
final class Holes {
    private Holes() {
    }

    static void write(BoreholeColumns x, String text) {
        for (int k = 0; k < text.length(); k++) {
            x.appendCharacter(text.charAt(k));
        }
    }

    static int read(BoreholeColumns x, String text) {
        x.clearText();
        write(x, text);
        return x.load();
    }

    static BoreholeColumns with(String... texts) {
        BoreholeColumns x = new BoreholeColumns();
        for (String text : texts) {
            if (read(x, text) < 0) {
                throw new IllegalStateException(text + " is not read");
            }
        }
        return x;
    }

    /** A column of so many beds, each "a" and of this thickness, as a text for a hole. */
    static String many(int hole, int beds, int thickness) {
        return hole + ":" + ("a" + thickness).repeat(beds) + ";";
    }

    /**
     * An object with something in each of its places: six saved states, both images, a text that
     * is not ended, accounts that are not 0, numbers, key marks and collars of their own. Hole 0
     * has a3 a2 a7 b5 b10 c5, hole 1 a12 c9, hole 2 a10 b20, hole 3 nothing.
     */
    static BoreholeColumns busy() {
        BoreholeColumns x = with("0:a10b20c5;", "1:a12c5;", "2:a10a11b20;");
        x.setNumber(0, 12);
        x.keep(0);
        x.setKey(2, 1);
        x.setCollar(1, 100);
        x.cut(0, 15, 5);
        x.cut(0, 3, -2);
        x.setThickness(1, 1, 9);
        x.keep(1);
        x.removeBed(2, 1);
        write(x, "1:q7r8");
        return x;
    }
}
