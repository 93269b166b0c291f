import java.util.ArrayList;
import java.util.Arrays;
import java.util.List;
import java.util.NoSuchElementException;

/** A machine whose calls take texts and named parts, and the checks that every test uses. */
final class Rig {
    static final String[] PARTS = {
        "SELF", "FIELD", "ITEM", "EACH", "DEEP", "NUMBER", "LETTER", "NULL", "PIPE", "BOTH", "ELSE", "IF", "LIST", "TRY",
        "FOLD", "ELEMENT", "PUT", "NONE", "FAIL", "NOT", "LENGTH", "KEYS", "ADD", "SUBTRACT", "MULTIPLY", "EQUAL", "LESS"
    };
    static final String NOTHING_THROWN = "nothing";
    static final String ARGUMENT = IllegalArgumentException.class.getSimpleName();
    static final String STATE = IllegalStateException.class.getSimpleName();
    static final String ELEMENT = NoSuchElementException.class.getSimpleName();
    static final String INDEX = IndexOutOfBoundsException.class.getSimpleName();

    private static int checks = 0;
    private static int wrong = 0;
    private static int sentences = 0;
    private static String sentence = "";

    /** What an object answers behind as many calls is free. */
    static final int MOST_CALLS = 512;

    final QueryMachine machine = new QueryMachine();
    private int calls = 0;

    /** The words of the document to which the checks from here on hold the machine. */
    static void says(String words) {
        sentence = words;
        sentences++;
    }

    static void check(String what, Object got, Object due) {
        checks++;
        if (!got.equals(due)) {
            wrong++;
            System.out.println(what + ": got " + got + ", due is " + due + (sentence.isEmpty() ? "" : " - " + sentence));
        }
    }

    /** Ends the test: with exit code 1 when a check was wrong. */
    static void end(Class<?> test) {
        String ofSentences = sentences == 0 ? "" : " of " + sentences + " sentences";
        System.out.println(test.getSimpleName() + ": " + checks + " checks" + ofSentences + ", " + wrong + " wrong");
        if (wrong > 0 || checks == 0) {
            System.exit(1);
        }
    }

    /** The simple name of what the call throws. */
    static String thrown(Runnable call) {
        try {
            call.run();
            return NOTHING_THROWN;
        } catch (RuntimeException e) {
            return e.getClass().getSimpleName();
        }
    }

    static long packed(int[] bytes, int from, int n) {
        long packed = 0;
        for (int i = 0; i < n; i++) {
            packed = packed << 8 | bytes[from + i];
        }
        return packed;
    }

    int callsLeft() {
        return MOST_CALLS - calls;
    }

    /** A test that calls an object too often is wrong itself. */
    void counts(int more) {
        calls += more;
        if (calls > MOST_CALLS) {
            check("calls of one object", calls, MOST_CALLS);
        }
    }

    Rig text(String text) {
        int[] characters = text.chars().toArray();
        for (int from = 0; from < characters.length; from += 8) {
            int n = Math.min(8, characters.length - from);
            counts(1);
            machine.text(packed(characters, from, n), n);
        }
        return this;
    }

    Rig bytes(int... bytes) {
        for (int from = 0; from < bytes.length; from += 8) {
            int n = Math.min(8, bytes.length - from);
            counts(1);
            machine.bytes(packed(bytes, from, n), n);
        }
        return this;
    }

    Rig document(String text) {
        text(text);
        counts(1);
        machine.document();
        return this;
    }

    Rig query(String parts) {
        bytes(assembled(parts));
        counts(1);
        machine.query();
        return this;
    }

    /** The bytes of a query such as "PIPE FIELD a ITEM -1"; a number stands for the byte 128 above it. */
    static int[] assembled(String parts) {
        List<String> names = Arrays.asList(PARTS);
        List<Integer> bytes = new ArrayList<>();
        for (String word : parts.trim().split(" +")) {
            if (names.contains(word)) {
                bytes.add(names.indexOf(word));
            } else if (word.length() == 1 && Character.isLowerCase(word.charAt(0))) {
                bytes.add((int) word.charAt(0));
            } else {
                bytes.add(Integer.parseInt(word) + 128);
            }
        }
        return bytes.stream().mapToInt(Integer::intValue).toArray();
    }

    String written(int k) {
        StringBuilder text = new StringBuilder();
        int length = machine.written(k, -1);
        counts(1 + length);
        for (int i = 0; i < length; i++) {
            text.append((char) machine.written(k, i));
        }
        return text.toString();
    }

    /** Checks how long the text of value k is, and at most so many of its characters, from one of them on and round. */
    void checkWritten(int k, String due, int from, int most) {
        counts(1);
        check("how many of value " + k, machine.written(k, -1), due.length());
        int size = Math.min(most, due.length());
        counts(size);
        StringBuilder got = new StringBuilder();
        StringBuilder wanted = new StringBuilder();
        for (int i = 0; i < size; i++) {
            int place = (from + i) % due.length();
            got.append((char) machine.written(k, place));
            wanted.append(due.charAt(place));
        }
        check("characters of value " + k + " from " + from, got.toString(), wanted.toString());
    }

    /** All that the latest run tells: its values, how it ended and the fuel that was left. */
    String told() {
        StringBuilder told = new StringBuilder();
        int count = machine.count();
        counts(3);
        for (int k = 0; k < count; k++) {
            told.append(written(k)).append(' ');
        }
        return told.append("ended ").append(machine.ended()).append(" left ").append(machine.left()).toString();
    }

    String run(int fuel) {
        int count = machine.run(fuel);
        counts(2);
        check("run and count", count, machine.count());
        return told();
    }

    /** Checks what a run on a new machine tells. */
    static void runs(String document, String parts, int fuel, String due) {
        Rig rig = new Rig().document(document).query(parts);
        check(parts + " on " + document + " with " + fuel, rig.run(fuel), due);
    }

    /** Checks the values and the ending of a run with all fuel on a new machine. */
    static void leads(String document, String parts, String due) {
        String told = new Rig().document(document).query(parts).run(250);
        check(parts + " on " + document, told.substring(0, told.indexOf(" left")), due);
    }
}
