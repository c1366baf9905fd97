/**
 * All that can be found out of an object, also behind what is seen: single key marks, the text,
 * saved states, images. Looking there changes the object, so that a new one is made for each look;
 * and so no object is asked for more than 512 calls.
 */
final class Twins {
    interface Maker {
        BoreholeColumns make();
    }

    interface Call {
        int on(BoreholeColumns x);
    }

    private static final int SAVED = 6;

    private Twins() {
    }

    static String of(Maker maker) {
        StringBuilder found = new StringBuilder(Sight.of(maker.make()));
        found.append("\nkey marks ").append(keyMarks(maker.make()));
        found.append("\ntext ").append(text(maker.make()));
        for (int steps = 1; steps <= SAVED + 1; steps++) {
            found.append("\nundo ").append(undone(maker.make(), steps));
        }
        for (int image = 0; image <= 1; image++) {
            BoreholeColumns x = maker.make();
            found.append("\nimage ").append(x.back(image)).append(' ').append(Sight.of(x));
            found.append(' ').append(keyMarks(x));
        }
        return found.toString();
    }

    /** Whether a call, made on one of two objects that are alike, leaves them alike. */
    static boolean alike(Maker maker, Call call) {
        return of(maker).equals(of(() -> {
            BoreholeColumns x = maker.make();
            call.on(x);
            return x;
        }));
    }

    private static String keyMarks(BoreholeColumns x) {
        StringBuilder keys = new StringBuilder();
        for (int mark = 0; mark < 26; mark++) {
            keys.append(x.setKey(mark, 0));
        }
        return keys.toString();
    }

    /** Ended by ";", so that a text that waits for it is told by what it makes of the holes. */
    private static String text(BoreholeColumns x) {
        int length = x.appendCharacter(';');
        int loaded = x.load();
        return length + " " + loaded + " " + Sight.of(x);
    }

    private static String undone(BoreholeColumns x, int steps) {
        StringBuilder left = new StringBuilder();
        for (int step = 0; step < steps; step++) {
            left.append(x.undo()).append(' ');
        }
        return left.append(Sight.of(x)).append(' ').append(keyMarks(x)).toString();
    }
}
