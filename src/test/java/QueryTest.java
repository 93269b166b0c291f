import java.util.Arrays;

/** What a query is, and promises 5 and 6. */
final class QueryTest {
    /** Each part in its plainest form. */
    private static final String[] PLAINEST = {
        "SELF", "FIELD a", "ITEM 0", "EACH", "DEEP", "NUMBER 0", "LETTER a", "NULL", "PIPE SELF SELF", "BOTH SELF SELF",
        "ELSE SELF SELF", "IF SELF SELF SELF", "LIST SELF", "TRY SELF", "FOLD SELF SELF SELF", "ELEMENT", "PUT a SELF", "NONE",
        "FAIL", "NOT", "LENGTH", "KEYS", "ADD SELF SELF", "SUBTRACT SELF SELF", "MULTIPLY SELF SELF", "EQUAL SELF SELF",
        "LESS SELF SELF"
    };

    public static void main(String[] args) {
        wrongAmounts();
        lowestBytesTheHighestFirst();
        moreThan60();
        sixtyBytes();
        wellFormed();
        letters();
        numbers();
        anotherByte();
        missing();
        missingBehindTheSixtieth();
        missingBehindAnEarlierQuery();
        leftOver();
        twelveAround();
        noneAfterwards();
        queryStays();
        Rig.end(QueryTest.class);
    }

    private static void accepts(int... bytes) {
        Rig rig = new Rig().bytes(bytes);
        Rig.check("query of " + Arrays.toString(bytes), Rig.thrown(rig.machine::query), Rig.NOTHING_THROWN);
    }

    private static void refuses(int... bytes) {
        Rig rig = new Rig().query("NUMBER 5").bytes(bytes);
        Rig.check("query of " + Arrays.toString(bytes), Rig.thrown(rig.machine::query), Rig.ARGUMENT);
        Rig.check("the query stays", rig.run(9), "5 ended 0 left 8");
    }

    private static void wrongAmounts() {
        Rig.says("IllegalArgumentException: n is not 1 .. 8; IllegalStateException: there would be more than 60.");
        QueryMachine machine = new QueryMachine();
        for (int n : new int[] {0, -1, 9, -8, 257, Integer.MIN_VALUE, Integer.MAX_VALUE}) {
            Rig.check("bytes with n " + n, Rig.thrown(() -> machine.bytes(0, n)), Rig.ARGUMENT);
        }
        Rig.check("still none", Rig.thrown(machine::query), Rig.ARGUMENT);
        for (int n : new int[] {1, 8}) {
            Rig.check("bytes with n " + n, Rig.thrown(() -> machine.bytes(0, n)), Rig.NOTHING_THROWN);
        }
    }

    private static void lowestBytesTheHighestFirst() {
        Rig.says("Appends n bytes to the next query, as above.");
        Rig rig = new Rig();
        rig.machine.bytes(0xFFFFFFFFFF081603L, 2);
        rig.machine.bytes(5L << 8 | 200, 1);
        Rig.check("lowest bytes alone", Rig.thrown(rig.machine::query), Rig.ARGUMENT);
        rig.machine.bytes(0x120503L, 2);
        rig.machine.query();
        Rig.check("the highest of them first", rig.run(9), "-125 ended 0 left 8");
        rig.machine.bytes(0x0905810905820583L, 8);
        rig.machine.query();
        Rig.check("eight in order", rig.run(9), "1 2 3 ended 0 left 4");
    }

    private static void moreThan60() {
        Rig.says("IllegalStateException: there would be more than 60.");
        for (int n = 1; n <= 8; n++) {
            int amount = n;
            Rig full = new Rig().bytes(new int[60 - n]);
            Rig.check("60 by " + n, Rig.thrown(() -> full.machine.bytes(0, amount)), Rig.NOTHING_THROWN);
            Rig.check("61 by 1", Rig.thrown(() -> full.machine.bytes(0, 1)), Rig.STATE);
            Rig.check("68 by 8", Rig.thrown(() -> full.machine.bytes(0, 8)), Rig.STATE);
            Rig over = new Rig().bytes(new int[61 - n]);
            Rig.check("61 by " + n, Rig.thrown(() -> over.machine.bytes(0, amount)), Rig.STATE);
        }
        Rig.check("a wrong amount comes before",
            Rig.thrown(() -> new Rig().bytes(new int[60]).machine.bytes(0, 9)), Rig.ARGUMENT);
        int[] all = sixty();
        Rig rig = new Rig().bytes(Arrays.copyOf(all, 59));
        Rig.check("61 bytes", Rig.thrown(() -> rig.machine.bytes(0x0707, 2)), Rig.STATE);
        rig.bytes(all[59]);
        Rig.check("nothing of these was appended", Rig.thrown(rig.machine::query), Rig.NOTHING_THROWN);
    }

    private static int[] sixty() {
        return Rig.assembled("PIPE " + both(4, "NULL") + " PIPE " + both(3, "NUMBER 1") + " ADD NUMBER 1 SELF");
    }

    /** Two to the depth times the part, all in BOTH. */
    private static String both(int depth, String part) {
        return depth == 0 ? part : "BOTH " + both(depth - 1, part) + " " + both(depth - 1, part);
    }

    private static void sixtyBytes() {
        Rig.says("THE QUERY is at most 60 bytes (0 .. 255)");
        Rig.check("how many bytes", sixty().length, 60);
        Rig rig = new Rig().bytes(sixty());
        Rig.check("a query of 60 bytes", Rig.thrown(rig.machine::query), Rig.NOTHING_THROWN);
        Rig.check("its run", rig.run(250).substring(0, 40), "2 2 2 2 2 2 2 2 2 2 2 2 2 2 2 2 ended 3 ");
        rig.bytes(new int[60]);
        Rig.check("60 bytes left over", Rig.thrown(rig.machine::query), Rig.ARGUMENT);
    }

    private static void wellFormed() {
        Rig.says("a PART, read from the beginning, each part from where the one before ends");
        for (String part : PLAINEST) {
            accepts(Rig.assembled(part));
            accepts(Rig.assembled("BOTH " + part + " " + part));
            accepts(Rig.assembled("IF " + part + " " + part + " " + part));
        }
        Rig.check("parts of 27 kinds", PLAINEST.length, Rig.PARTS.length);
        Rig rig = new Rig().query("PIPE NUMBER 1 BOTH SELF NUMBER 2").query("LIST PIPE BOTH NUMBER 1 NUMBER 2 BOTH SELF SELF");
        Rig.check("the run of a query behind another", rig.run(30), "[1,1,2,2] ended 0 left 19");
        Rig.leads("{\"a\":[5],\"b\":6}", "IF PIPE FIELD a ITEM 0 BOTH FIELD b LETTER c NUMBER 3", "6 \"c\" ended 0");
        Rig.leads("{\"a\":[5],\"b\":6}", "IF NULL BOTH FIELD b LETTER c PUT d PIPE FIELD a ITEM 0",
            "{\"a\":[5],\"b\":6,\"d\":5} ended 0");
    }

    private static void letters() {
        Rig.says("k a byte 97 .. 122");
        for (int k = 0; k < 256; k++) {
            boolean isLetter = k >= 97 && k <= 122;
            for (int[] bytes : new int[][] {{1, k}, {6, k}, {16, k, 0}, {12, 6, k}, {8, 1, k, 0}}) {
                if (isLetter) {
                    accepts(bytes);
                } else {
                    refuses(bytes);
                }
            }
        }
        for (char k = 'a'; k <= 'z'; k++) {
            String letter = "\"" + k + "\"";
            Rig.leads("{" + letter + ":1}", "BOTH FIELD " + k + " LETTER " + k, "1 " + letter + " ended 0");
            Rig.leads("null", "PUT " + k + " NULL", "{" + letter + ":null} ended 0");
        }
    }

    private static void numbers() {
        Rig.says("n a byte, the number n - 128.");
        for (int n = 0; n < 256; n++) {
            Rig rig = new Rig().bytes(5, n);
            rig.machine.query();
            rig.machine.run(1);
            Rig.check("NUMBER " + n, rig.machine.integer(0), n - 128L);
            accepts(2, n);
        }
        Rig rig = new Rig().document("[7]").bytes(2, 128);
        rig.machine.query();
        Rig.check("ITEM 128", rig.run(1), "7 ended 0 left 0");
    }

    private static void anotherByte() {
        Rig.says("A query is MALFORMED when it is not just one part (another byte");
        for (int b = 27; b < 256; b++) {
            refuses(b);
            refuses(12, b);
            refuses(8, 0, b);
            refuses(8, b, 0);
            refuses(11, 0, 0, b);
            refuses(16, 97, b);
        }
    }

    private static void missing() {
        Rig.says("bytes missing");
        refuses();
        for (String part : PLAINEST) {
            for (String around : new String[] {"", "LIST ", "PIPE SELF ", "IF NULL NULL ", "PUT a "}) {
                int[] whole = Rig.assembled(around + part);
                accepts(whole);
                for (int length = 0; length < whole.length; length++) {
                    refuses(Arrays.copyOf(whole, length));
                }
            }
        }
        for (int length = 1; length < 60; length++) {
            refuses(Arrays.copyOf(sixty(), length));
        }
    }

    /** The byte that is missing would be the 61st. */
    private static void missingBehindTheSixtieth() {
        Rig.says("bytes missing");
        for (int part = 0; part < Rig.PARTS.length; part++) {
            if (Rig.assembled(PLAINEST[part]).length > 1) {
                int[] bytes = sixty();
                bytes[59] = part;
                refuses(bytes);
            }
        }
        int[] withPut = sixty();
        withPut[57] = 0;
        withPut[58] = 16;
        withPut[59] = 97;
        refuses(withPut);
    }

    private static void missingBehindAnEarlierQuery() {
        Rig.says("and are none afterwards, also when this throws.");
        int[][] missing = {{12}, {8, 0}, {1}, {16, 97}, {16}, {5}, {8, 5, 1}, {8, 0, 6}};
        for (int[] bytes : missing) {
            for (int stale : new int[] {0, 97}) {
                Rig rig = new Rig().bytes(stale, stale, stale, stale, stale);
                Rig.check("five bytes", Rig.thrown(rig.machine::query), Rig.ARGUMENT);
                rig.bytes(bytes);
                Rig.check("some are missing", Rig.thrown(rig.machine::query), Rig.ARGUMENT);
            }
        }
    }

    private static void leftOver() {
        Rig.says("or left over");
        for (String part : PLAINEST) {
            int[] whole = Rig.assembled(part);
            for (int more : new int[] {0, 97, 255}) {
                int[] bytes = Arrays.copyOf(whole, whole.length + 1);
                bytes[whole.length] = more;
                refuses(bytes);
            }
        }
    }

    private static void twelveAround() {
        Rig.says("or a part stands in more than 12 others.");
        String[][] around = {
            {"PIPE ", " SELF"}, {"PIPE SELF ", ""}, {"BOTH ", " SELF"}, {"BOTH SELF ", ""}, {"ELSE ", " SELF"},
            {"ELSE SELF ", ""},
            {"IF ", " SELF SELF"}, {"IF SELF ", " SELF"}, {"IF SELF SELF ", ""}, {"LIST ", ""}, {"TRY ", ""},
            {"FOLD ", " SELF SELF"}, {"FOLD SELF ", " SELF"}, {"FOLD SELF SELF ", ""}, {"PUT a ", ""},
            {"ADD ", " SELF"}, {"ADD SELF ", ""}, {"SUBTRACT ", " SELF"}, {"MULTIPLY SELF ", ""}, {"EQUAL ", " SELF"},
            {"LESS SELF ", ""}
        };
        for (String[] both : around) {
            for (String within : new String[] {"SELF", "NUMBER 1", "LETTER a"}) {
                accepts(Rig.assembled(both[0].repeat(12) + within + both[1].repeat(12)));
                refuses(Rig.assembled(both[0].repeat(13) + within + both[1].repeat(13)));
            }
        }
        accepts(Rig.assembled("TRY ".repeat(11) + "BOTH SELF SELF"));
        refuses(Rig.assembled("TRY ".repeat(11) + "BOTH SELF TRY SELF"));
        refuses(Rig.assembled("TRY ".repeat(11) + "IF SELF SELF LIST SELF"));
        refuses(Rig.assembled("TRY ".repeat(59) + "SELF"));
        accepts(Rig.assembled("BOTH " + "TRY ".repeat(11) + "SELF " + "TRY ".repeat(11) + "SELF"));
    }

    private static void noneAfterwards() {
        Rig.says("The bytes become the query, and are none afterwards, also when this throws.");
        Rig rig = new Rig().query("NUMBER 6");
        Rig.check("no bytes left", Rig.thrown(rig.machine::query), Rig.ARGUMENT);
        rig.bytes(8, 0);
        Rig.check("malformed", Rig.thrown(rig.machine::query), Rig.ARGUMENT);
        rig.bytes(0);
        Rig.check("the bytes were none again", Rig.thrown(rig.machine::query), Rig.NOTHING_THROWN);
        Rig.check("SELF", rig.run(3), "null ended 0 left 2");
        rig.bytes(new int[60]);
        Rig.check("60 bytes", Rig.thrown(rig.machine::query), Rig.ARGUMENT);
        rig.bytes(sixty());
        Rig.check("60 more", Rig.thrown(rig.machine::query), Rig.NOTHING_THROWN);
        rig.bytes(sixty());
        Rig.check("and 60 more", Rig.thrown(rig.machine::query), Rig.NOTHING_THROWN);
    }

    private static void queryStays() {
        Rig.says("IllegalArgumentException: malformed (the query stays).");
        Rig rig = new Rig().bytes(9, 5);
        Rig.check("malformed", Rig.thrown(rig.machine::query), Rig.ARGUMENT);
        Rig.check("the first query", rig.run(9), "null ended 0 left 8");
        rig.query("BOTH NUMBER 1 NUMBER 2").bytes(9, 5, 131, 5, 132, 0);
        Rig.check("bytes that come leave it", rig.run(9), "1 2 ended 0 left 6");
        Rig.check("malformed with its last byte", Rig.thrown(rig.machine::query), Rig.ARGUMENT);
        Rig.check("nothing of it came in", rig.run(9), "1 2 ended 0 left 6");
        rig.query("NUMBER 3");
        Rig.check("a new query leaves the run's values", rig.told(), "1 2 ended 0 left 6");
        Rig.check("its own run", rig.run(9), "3 ended 0 left 8");
    }
}
