import com.sun.management.ThreadMXBean;
import java.lang.management.ManagementFactory;

/**
 * All calls of one object live in one room of 600,000 objects and 7.3 million fields and elements. The runs here make as
 * many values as fuel allows, each as large as a value can be.
 */
final class RoomTest {
    /** 250 values of 48 bytes, each with two rows of 80, for each of 512 calls. */
    private static final long MOST_BYTES = 250L * (48 + 2 * 80) * 512;

    public static void main(String[] args) {
        StringBuilder document = new StringBuilder();
        for (char key = 'a'; key < 'q'; key++) {
            document.append(key == 'a' ? "{" : ",").append('"').append(key).append("\":{}");
        }
        String text = document.append("}").toString();
        new Rig().run(1);
        allocates("a new object", QueryMachine::new, 100000);
        for (String parts : new String[] {"FOLD EACH SELF ADD SELF EACH", "FOLD EACH SELF PUT p EACH",
            "FOLD BOTH EACH EACH SELF BOTH LIST EACH SELF", "FOLD BOTH EACH EACH SELF BOTH KEYS SELF"}) {
            allocates(parts, () -> runs(text, parts), MOST_BYTES);
        }
        allocates("a long text asked for", RoomTest::longText, 1000000);
        Rig.end(RoomTest.class);
    }

    private static void runs(String text, String parts) {
        QueryMachine machine = new Rig().document(text).query(parts).machine;
        for (int call = 20; call < 512; call++) {
            machine.run(250);
        }
    }

    private static void longText() {
        Rig rig = new Rig().document("\"" + "\\\"".repeat(24) + "\"").query("LIST BOTH SELF BOTH SELF BOTH SELF SELF");
        for (int i = 0; i < 3; i++) {
            rig.machine.run(99);
            rig.machine.adopt(0);
        }
        for (int call = 30; call < 512; call++) {
            rig.machine.written(-1, call);
        }
    }

    private static void allocates(String what, Runnable calls, long most) {
        ThreadMXBean threads = (ThreadMXBean) ManagementFactory.getThreadMXBean();
        long me = Thread.currentThread().getId();
        long before = threads.getThreadAllocatedBytes(me);
        calls.run();
        long made = threads.getThreadAllocatedBytes(me) - before;
        System.out.println(what + ": " + made + " bytes");
        Rig.check(what + " makes at most " + most + " bytes", made <= most, true);
    }
}
