/** An object answers its 512th call as it would its first. */
final class ManyCallsTest {
    public static void main(String[] args) {
        Rig.says("An object is used for at most 512 calls after it has been made");
        runs();
        refusedCalls();
        documentsAndQueries();
        Rig.end(ManyCallsTest.class);
    }

    private static void runs() {
        Rig rig = new Rig().document("[1,[2,{\"a\":3}]]").query("PIPE DEEP LENGTH");
        String due = "2 1 2 2 1 3 ended 0 left 237";
        Rig.check("the first run", rig.run(250), due);
        while (rig.callsLeft() > 20) {
            rig.counts(1);
            rig.machine.run(250);
        }
        Rig.check("the last run", rig.run(250), due);
    }

    private static void refusedCalls() {
        Rig rig = new Rig().document("[1]");
        rig.run(9);
        while (rig.callsLeft() > 40) {
            rig.counts(8);
            Rig.thrown(() -> rig.machine.text(0, 1));
            Rig.thrown(() -> rig.machine.bytes(0, 9));
            Rig.thrown(rig.machine::document);
            Rig.thrown(rig.machine::query);
            Rig.thrown(() -> rig.machine.run(-1));
            Rig.thrown(() -> rig.machine.written(0, 99));
            Rig.thrown(() -> rig.machine.integer(0));
            Rig.thrown(() -> rig.machine.adopt(1));
        }
        Rig.check("the document", rig.written(-1), "[1]");
        Rig.check("the run", rig.told(), "[1] ended 0 left 8");
        Rig.check("the next run", rig.run(5), "[1] ended 0 left 4");
    }

    private static void documentsAndQueries() {
        Rig rig = new Rig();
        for (int call = 0; rig.callsLeft() >= 6; call++) {
            rig.document("[" + call + "]").query("PIPE EACH ADD SELF NUMBER 1");
            rig.counts(2);
            rig.machine.run(9);
            Rig.check("run " + call, rig.machine.integer(0), call + 1L);
        }
    }
}
