/** Promises 5 and 6. */
final class QueryTest {
    public static void main(String[] args) {
        wrongAmounts();
        anyByte();
        tooMany();
        wellFormed();
        malformed();
        depth();
        bytesOfBefore();
        whatStays();
        Rig.end(QueryTest.class);
    }

    private static void wrongAmounts() {
        QueryMachine machine = new QueryMachine();
        for (int n : new int[] {0, -1, 9, Integer.MIN_VALUE, Integer.MAX_VALUE}) {
            Rig.check("bytes with n " + n, Rig.thrown(() -> machine.bytes(0, n)), Rig.ARGUMENT);
        }
        Rig.check("still none", Rig.thrown(machine::query), Rig.ARGUMENT);
    }

    private static void anyByte() {
        for (int b = 0; b < 256; b++) {
            Rig rig = new Rig().bytes(5, b);
            rig.machine.query();
            rig.machine.run(1);
            Rig.check("NUMBER " + b, rig.machine.integer(0), b - 128L);
        }
        Rig rig = new Rig();
        rig.machine.bytes(0xFFFFFFFFFF081603L, 2);
        rig.machine.bytes(0x0000000000000005L << 8 | 200, 1);
        Rig.check("lowest bytes alone", Rig.thrown(rig.machine::query), Rig.ARGUMENT);
        rig.machine.bytes(0x120503L, 2);
        rig.machine.query();
        Rig.check("the highest of them first", rig.run(9), "-125 ended 0 left 8");
    }

    private static void tooMany() {
        Rig rig = new Rig();
        for (int i = 0; i < 7; i++) {
            rig.machine.bytes(0, 8);
        }
        QueryMachine machine = rig.machine;
        Rig.check("61 bytes", Rig.thrown(() -> machine.bytes(0, 5)), Rig.STATE);
        Rig.check("a wrong amount comes before", Rig.thrown(() -> machine.bytes(0, 9)), Rig.ARGUMENT);
        Rig.check("60 bytes", Rig.thrown(() -> machine.bytes(0, 4)), Rig.NOTHING_THROWN);
        Rig.check("one more", Rig.thrown(() -> machine.bytes(0, 1)), Rig.STATE);
        Rig.check("malformed", Rig.thrown(machine::query), Rig.ARGUMENT);
        int[] sixty = Rig.assembled("PIPE " + both(4, "NULL") + " PIPE " + both(3, "NUMBER 1") + " ADD NUMBER 1 SELF");
        Rig.check("how many bytes", sixty.length, 60);
        rig.bytes(sixty);
        Rig.check("a query of 60 bytes", Rig.thrown(machine::query), Rig.NOTHING_THROWN);
        Rig.check("its run", rig.run(250).substring(0, 40), "2 2 2 2 2 2 2 2 2 2 2 2 2 2 2 2 ended 3 ");
    }

    /** Two to the depth times the part, all in BOTH. */
    private static String both(int depth, String part) {
        return depth == 0 ? part : "BOTH " + both(depth - 1, part) + " " + both(depth - 1, part);
    }

    private static void accepts(int... bytes) {
        Rig rig = new Rig().bytes(bytes);
        Rig.check("query of " + java.util.Arrays.toString(bytes), Rig.thrown(rig.machine::query), Rig.NOTHING_THROWN);
    }

    private static void refuses(int... bytes) {
        Rig rig = new Rig().query("NUMBER 5").bytes(bytes);
        Rig.check("query of " + java.util.Arrays.toString(bytes), Rig.thrown(rig.machine::query), Rig.ARGUMENT);
        Rig.check("the query stays", rig.run(9), "5 ended 0 left 8");
    }

    private static void wellFormed() {
        for (int part : new int[] {0, 3, 4, 7, 15, 17, 18, 19, 20, 21}) {
            accepts(part);
            refuses(part, 0);
        }
        for (int part : new int[] {1, 6}) {
            accepts(part, 97);
            accepts(part, 122);
            refuses(part, 96);
            refuses(part, 123);
            refuses(part, 255);
            refuses(part);
            refuses(part, 97, 97);
        }
        for (int part : new int[] {2, 5}) {
            accepts(part, 0);
            accepts(part, 255);
            refuses(part);
            refuses(part, 0, 0);
        }
        for (int part : new int[] {12, 13}) {
            accepts(part, 0);
            refuses(part);
            refuses(part, 0, 0);
        }
        for (int part : new int[] {8, 9, 10, 22, 23, 24, 25, 26}) {
            accepts(part, 0, 0);
            refuses(part, 0);
            refuses(part, 0, 0, 0);
        }
        for (int part : new int[] {11, 14}) {
            accepts(part, 0, 0, 0);
            refuses(part, 0, 0);
            refuses(part, 0, 0, 0, 0);
        }
        accepts(16, 97, 0);
        accepts(16, 122, 5, 97);
    }

    private static void malformed() {
        refuses();
        for (int b = 27; b < 256; b++) {
            refuses(b);
        }
        refuses(16);
        refuses(16, 97);
        refuses(16, 96, 0);
        refuses(16, 123, 0);
        refuses(16, 97, 0, 0);
        refuses(8, 1, 64, 0);
        refuses(8, 0, 27);
        refuses(8, 27, 0);
        refuses(12, 12);
        refuses(9, 9, 0, 0);
    }

    private static void depth() {
        for (String part : new String[] {"TRY ", "LIST ", "PUT a "}) {
            accepts(Rig.assembled(part.repeat(12) + "NUMBER 1"));
            refuses(Rig.assembled(part.repeat(13) + "NUMBER 1"));
        }
        accepts(Rig.assembled("BOTH NULL ".repeat(12) + "SELF"));
        refuses(Rig.assembled("BOTH NULL ".repeat(13) + "SELF"));
        accepts(Rig.assembled("BOTH ".repeat(12) + "NULL ".repeat(13)));
        refuses(Rig.assembled("BOTH ".repeat(13) + "NULL ".repeat(14)));
    }

    /** What is missing is not taken from the bytes of an earlier query. */
    private static void bytesOfBefore() {
        int[][] missing = {{12}, {8, 0}, {1}, {16, 97}, {16}, {5}, {8, 5, 1}, {8, 0, 6}};
        for (int[] bytes : missing) {
            for (int stale : new int[] {0, 97}) {
                Rig rig = new Rig().bytes(stale, stale, stale, stale, stale);
                Rig.check("five bytes", Rig.thrown(rig.machine::query), Rig.ARGUMENT);
                rig.bytes(bytes);
                Rig.check("some are missing", Rig.thrown(rig.machine::query), Rig.ARGUMENT);
            }
        }
    }

    private static void whatStays() {
        Rig rig = new Rig().query("NUMBER 5");
        rig.run(3);
        rig.query("NUMBER 6");
        Rig.check("a new query leaves the run's values", rig.told(), "5 ended 0 left 2");
        Rig.check("no bytes left", Rig.thrown(rig.machine::query), Rig.ARGUMENT);
        rig.bytes(8, 0);
        Rig.check("malformed", Rig.thrown(rig.machine::query), Rig.ARGUMENT);
        rig.bytes(0);
        Rig.check("the bytes were none again", Rig.thrown(rig.machine::query), Rig.NOTHING_THROWN);
        Rig.check("SELF", rig.run(3), "null ended 0 left 2");
        rig.query("PIPE NUMBER 1 BOTH SELF NUMBER 2").query("LIST PIPE BOTH NUMBER 1 NUMBER 2 BOTH SELF SELF");
        Rig.check("third query", rig.run(30), "[1,1,2,2] ended 0 left 19");
    }
}
