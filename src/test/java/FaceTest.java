import java.io.IOException;
import java.lang.management.ManagementFactory;
import java.lang.reflect.Constructor;
import java.lang.reflect.Field;
import java.lang.reflect.Method;
import java.lang.reflect.Modifier;
import java.nio.file.Files;
import java.nio.file.Path;
import java.util.ArrayList;
import java.util.Collections;
import java.util.List;
import java.util.regex.Pattern;

/** The face of the class, the rules of LANGUAGE.md that can be seen in its text, and its room. */
public final class FaceTest {
    private static final Answers answers = new Answers("FaceTest");

    private static final String[] METHODS = {"setNumber 2", "setKey 2", "setCollar 2", "addBed 4", "removeBed 2",
        "setThickness 3", "cut 3", "appendCharacter 1", "clearText 0", "load 0", "keep 1", "back 1", "undo 0", "count 1",
        "hole 2", "bed 3", "find 3", "account 1", "cost 3", "why 4", "partner 4", "matched 3", "fault 4",
        "sumOfThrows 3", "nearest 2", "closed 3"};

    private static final String[] BANNED = {"throw", "try", "catch", "finally", "synchronized", "assert", "import",
        "package", "native", "transient", "volatile", "protected", "Object", "equals", "hashCode", "toString",
        "Exception", "Error", "System\\.(?!arraycopy)", "\\w+Exact", "var", "->", "::", "%", "/ "};

    private FaceTest() {
    }

    public static void main(String[] args) throws IOException {
        face();
        inside();
        text(Path.of(args.length > 0 ? args[0] : "src/main/java/BoreholeColumns.java"));
        room();
        answers.end();
    }

    private static void face() {
        answers.part("the face");
        Class<?> face = BoreholeColumns.class;
        answers.holds("public and final", Modifier.isPublic(face.getModifiers()) && Modifier.isFinal(face.getModifiers()));
        answers.due("INVALID_ARGUMENT", BoreholeColumns.INVALID_ARGUMENT, -1000001);
        answers.due("ILLEGAL_STATE", BoreholeColumns.ILLEGAL_STATE, -1000002);
        answers.due("CAPACITY_EXCEEDED", BoreholeColumns.CAPACITY_EXCEEDED, -1000003);
        answers.due("NONE", BoreholeColumns.NONE, -1000009);
        Constructor<?>[] constructors = face.getDeclaredConstructors();
        answers.holds("one constructor without arguments", constructors.length == 1
                && constructors[0].getParameterCount() == 0 && Modifier.isPublic(constructors[0].getModifiers()));
        List<String> open = new ArrayList<>();
        for (Method method : face.getDeclaredMethods()) {
            if (!Modifier.isPrivate(method.getModifiers())) {
                open.add(method.getName() + " " + method.getParameterCount());
                boolean plain = Modifier.isPublic(method.getModifiers()) && !Modifier.isStatic(method.getModifiers())
                        && method.getReturnType() == int.class;
                for (Class<?> type : method.getParameterTypes()) {
                    plain &= type == int.class;
                }
                answers.holds(method.getName() + " is a public method of whole numbers", plain);
            }
        }
        List<String> due = new ArrayList<>(List.of(METHODS));
        Collections.sort(open);
        Collections.sort(due);
        answers.holds("its methods are " + open, open.equals(due));
        int constants = 0;
        for (Field field : face.getDeclaredFields()) {
            constants += Modifier.isPrivate(field.getModifiers()) ? 0 : 1;
        }
        answers.due("constants that can be seen", constants, 4);
    }

    private static void inside() {
        answers.part("the classes inside");
        Class<?>[] inside = BoreholeColumns.class.getDeclaredClasses();
        answers.holds("at most twelve classes", inside.length < 12);
        List<Class<?>> all = new ArrayList<>(List.of(inside));
        all.add(BoreholeColumns.class);
        for (Class<?> type : all) {
            answers.holds(type + " is static", type == BoreholeColumns.class || Modifier.isStatic(type.getModifiers()));
            int fields = 0;
            for (Field field : type.getDeclaredFields()) {
                boolean fixed = Modifier.isStatic(field.getModifiers());
                fields += fixed ? 0 : 1;
                answers.holds(field + " is final if static", !fixed || Modifier.isFinal(field.getModifiers()));
            }
            answers.holds(type + " has at most twenty fields", fields <= 20);
            for (Method method : type.getDeclaredMethods()) {
                answers.holds(method + " takes at most seven", method.getParameterCount() <= 7);
                boolean named = type != BoreholeColumns.class || Modifier.isPrivate(method.getModifiers());
                for (String face : METHODS) {
                    answers.holds(method + " bears no name of the face",
                            !named || !face.startsWith(method.getName() + " "));
                }
            }
        }
    }

    private static void text(Path path) throws IOException {
        answers.part("the text of the class");
        String text = Files.readString(path);
        answers.holds("its signs are 1 to 127", text.chars().allMatch(sign -> sign >= 1 && sign <= 127));
        String code = text.replaceAll("(?s)/\\*.*?\\*/", "").replaceAll("//[^\n]*", "");
        for (String banned : BANNED) {
            String pattern = Character.isLetter(banned.charAt(0)) ? "\\b(?:" + banned + ")\\b" : Pattern.quote(banned);
            answers.holds("no " + banned, !Pattern.compile(pattern).matcher(code).find());
        }
        for (String method : code.split("\n    (?:    )?\\}\n")) {
            answers.holds("short: " + method.strip().split("\n")[0], method.strip().lines().count() <= 60
                    || method.contains("INVALID_ARGUMENT = "));
        }
    }

    /** No call makes an object, so a run has just the room that its constructors took. */
    private static void room() {
        answers.part("the room");
        if (!(ManagementFactory.getThreadMXBean() instanceof com.sun.management.ThreadMXBean threads)
                || !threads.isThreadAllocatedMemorySupported()) {
            return;
        }
        long thread = Thread.currentThread().getId();
        BoreholeColumns[] objects = new BoreholeColumns[20];
        threads.getThreadAllocatedBytes(thread);
        long before = threads.getThreadAllocatedBytes(thread);
        for (int k = 0; k < objects.length; k++) {
            objects[k] = new BoreholeColumns();
        }
        long bytes = (threads.getThreadAllocatedBytes(thread) - before) / objects.length;
        answers.holds("an object has " + bytes + " bytes", bytes < 40000);
        callAll(new BoreholeColumns());
        before = threads.getThreadAllocatedBytes(thread);
        for (BoreholeColumns x : objects) {
            for (int round = 0; round < 14; round++) {
                callAll(x);
            }
        }
        bytes = threads.getThreadAllocatedBytes(thread) - before;
        answers.holds("some 9800 calls made " + bytes + " bytes", bytes < 20000);
    }

    private static void callAll(BoreholeColumns x) {
        x.setNumber(0, 10);
        x.setKey(0, 1);
        x.setCollar(0, 5);
        for (int hole = 0; hole < 4; hole++) {
            x.addBed(hole, 0, 0, 10);
            x.setThickness(hole, 0, 20);
        }
        x.cut(0, 5, -5);
        x.cut(0, 5, 5);
        x.removeBed(0, 0);
        x.appendCharacter('0');
        x.appendCharacter(':');
        x.appendCharacter(';');
        x.load();
        x.clearText();
        x.keep(0);
        x.back(0);
        x.undo();
        x.count(5);
        x.hole(0, 2);
        x.bed(0, 0, 3);
        x.find(0, 0, 0);
        x.account(0);
        x.cost(0, 1, 1);
        x.why(0, 1, 1, 0);
        x.partner(0, 1, 1, 0);
        x.matched(0, 1, 5);
        x.fault(0, 1, 0, 1);
        x.sumOfThrows(0, 1, 2);
        x.nearest(0, 1);
        x.closed(0, 1, 2);
    }
}
