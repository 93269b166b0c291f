import java.util.ArrayList;
import java.util.Arrays;
import java.util.List;
import java.util.NoSuchElementException;

/** A machine whose calls take texts and named parts, and the checks that every test uses. */
final class Rig {
    static final String[] PARTS = {
        "SELF", "FIELD", "ITEM", "EACH", "DEEP", "NUMBER", "LETTER", "NULL", "PIPE", "BOTH", "ELSE", "IF", "LIST", "TRY",
        "FOLD", "ELEMENT", "PUT", "NONE", "FAIL", "NOT", "LENGTH", "KEYS", "ADD", "SUBTRACT", "MULTIPLY", "EQUAL", "LESS"
    };
    static final String NOTHING_THROWN = "nothing";
    static final String ARGUMENT = IllegalArgumentException.class.getSimpleName();
    static final String STATE = IllegalStateException.class.getSimpleName();
    static final String ELEMENT = NoSuchElementException.class.getSimpleName();
    static final String INDEX = IndexOutOfBoundsException.class.getSimpleName();

    private static int checks = 0;
    private static int wrong = 0;

    final QueryMachine machine = new QueryMachine();

    static void check(String what, Object got, Object due) {
        checks++;
        if (!got.equals(due)) {
            wrong++;
            System.out.println(what + ": got " + got + ", due is " + due);
        }
    }

    /** Ends the test: with exit code 1 when a check was wrong. */
    static void end(Class<?> test) {
        System.out.println(test.getSimpleName() + ": " + checks + " checks, " + wrong + " wrong");
        if (wrong > 0 || checks == 0) {
            System.exit(1);
        }
    }

    /** The simple name of what the call throws. */
    static String thrown(Runnable call) {
        try {
            call.run();
            return NOTHING_THROWN;
        } catch (RuntimeException e) {
            return e.getClass().getSimpleName();
        }
    }

    static long packed(int[] bytes, int from, int n) {
        long packed = 0;
        for (int i = 0; i < n; i++) {
            packed = packed << 8 | bytes[from + i];
        }
        return packed;
    }

    Rig text(String text) {
        int[] characters = text.chars().toArray();
        for (int from = 0; from < characters.length; from += 8) {
            int n = Math.min(8, characters.length - from);
            machine.text(packed(characters, from, n), n);
        }
        return this;
    }

    Rig bytes(int... bytes) {
        for (int from = 0; from < bytes.length; from += 8) {
            int n = Math.min(8, bytes.length - from);
            machine.bytes(packed(bytes, from, n), n);
        }
        return this;
    }

    Rig document(String text) {
        text(text);
        machine.document();
        return this;
    }

    Rig query(String parts) {
        bytes(assembled(parts));
        machine.query();
        return this;
    }

    /** The bytes of a query such as "PIPE FIELD a ITEM -1"; a number stands for the byte 128 above it. */
    static int[] assembled(String parts) {
        List<String> names = Arrays.asList(PARTS);
        List<Integer> bytes = new ArrayList<>();
        for (String word : parts.trim().split(" +")) {
            if (names.contains(word)) {
                bytes.add(names.indexOf(word));
            } else if (word.length() == 1 && Character.isLowerCase(word.charAt(0))) {
                bytes.add((int) word.charAt(0));
            } else {
                bytes.add(Integer.parseInt(word) + 128);
            }
        }
        return bytes.stream().mapToInt(Integer::intValue).toArray();
    }

    String written(int k) {
        StringBuilder text = new StringBuilder();
        int length = machine.written(k, -1);
        for (int i = 0; i < length; i++) {
            text.append((char) machine.written(k, i));
        }
        return text.toString();
    }

    /** All that the latest run tells: its values, how it ended and the fuel that was left. */
    String told() {
        StringBuilder told = new StringBuilder();
        for (int k = 0; k < machine.count(); k++) {
            told.append(written(k)).append(' ');
        }
        return told.append("ended ").append(machine.ended()).append(" left ").append(machine.left()).toString();
    }

    String run(int fuel) {
        int count = machine.run(fuel);
        check("run and count", count, machine.count());
        return told();
    }

    /** Checks what a run on a new machine tells. */
    static void runs(String document, String parts, int fuel, String due) {
        Rig rig = new Rig().document(document).query(parts);
        check(parts + " on " + document + " with " + fuel, rig.run(fuel), due);
    }

    /** Checks the values and the ending of a run with all fuel on a new machine. */
    static void leads(String document, String parts, String due) {
        String told = new Rig().document(document).query(parts).run(250);
        check(parts + " on " + document, told.substring(0, told.indexOf(" left")), due);
    }
}
