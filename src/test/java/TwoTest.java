/** Promise 7: what the parts 22 to 26, in which two values come together, lead to. */
final class TwoTest {
    private static final String[] ARITHMETIC = {"ADD", "SUBTRACT", "MULTIPLY"};

    public static void main(String[] args) {
        eachWithEach();
        begunAnew();
        integers();
        integersWrapRound();
        addOfNull();
        stringsAndLists();
        objects();
        addOfOthers();
        subtractAndMultiplyOfOthers();
        equal();
        equalObjects();
        lessIntegers();
        lessStrings();
        lessByKind();
        listsAndObjectsAreNotLess();
        Rig.end(TwoTest.class);
    }

    private static void fails(String part, String... documents) {
        for (String two : documents) {
            Rig.leads(two, part + " ITEM 0 ITEM 1", "ended 1");
            Rig.leads(two, part + " ITEM 1 ITEM 0", "ended 1");
        }
    }

    private static void eachWithEach() {
        Rig.says("each p q: for each value x of p, and for each of these each value y of q");
        Rig.leads("[1,2]", "ADD EACH BOTH NUMBER 10 NUMBER 20", "11 21 12 22 ended 0");
        Rig.leads("[1,2]", "SUBTRACT EACH EACH", "0 -1 1 0 ended 0");
        Rig.leads("[1,2]", "MULTIPLY EACH EACH", "1 2 2 4 ended 0");
        Rig.leads("[1,2]", "EQUAL EACH EACH", "true false false true ended 0");
        Rig.leads("[1,2]", "LESS EACH EACH", "false true false false ended 0");
        for (String part : new String[] {"ADD", "SUBTRACT", "MULTIPLY", "EQUAL", "LESS"}) {
            Rig.leads("[1,2]", part + " EACH NONE", "ended 0");
            Rig.leads("[1,2]", part + " NONE FAIL", "ended 0");
        }
        Rig.leads("[1,2]", "ADD EACH BOTH NUMBER 0 FAIL", "1 ended 1");
        Rig.leads("[[1],[2]]", "ADD EACH EACH", "[1,1] [1,2] [2,1] [2,2] ended 0");
    }

    private static void begunAnew() {
        Rig.says("(begun anew for each x from it)");
        for (String part : ARITHMETIC) {
            Rig.runs("[1,2,3]", part + " EACH NONE", 9, "ended 0 left 4");
        }
        Rig.runs("[1,2,3]", "EQUAL EACH NONE", 9, "ended 0 left 4");
        Rig.runs("[1,2,3]", "LESS EACH NONE", 9, "ended 0 left 4");
        Rig.leads("[1,2,3]", "ADD EACH LENGTH", "4 5 6 ended 0");
    }

    private static void integers() {
        Rig.says("of two integers their sum, difference, product");
        Rig.leads("[7,3]", "ADD ITEM 0 ITEM 1", "10 ended 0");
        Rig.leads("[7,3]", "SUBTRACT ITEM 0 ITEM 1", "4 ended 0");
        Rig.leads("[7,3]", "SUBTRACT ITEM 1 ITEM 0", "-4 ended 0");
        Rig.leads("[7,-3]", "MULTIPLY ITEM 0 ITEM 1", "-21 ended 0");
        Rig.leads("[7,0]", "MULTIPLY ITEM 0 ITEM 1", "0 ended 0");
    }

    private static void integersWrapRound() {
        Rig.says("INTEGERs (longs, which wrap round)");
        Rig.leads("9223372036854775807", "ADD SELF NUMBER 1", "-9223372036854775808 ended 0");
        Rig.leads("9223372036854775807", "ADD SELF SELF", "-2 ended 0");
        Rig.leads("-9223372036854775808", "ADD SELF SELF", "0 ended 0");
        Rig.leads("-9223372036854775808", "SUBTRACT SELF NUMBER 1", "9223372036854775807 ended 0");
        Rig.leads("-9223372036854775808", "SUBTRACT NUMBER 0 SELF", "-9223372036854775808 ended 0");
        Rig.leads("9223372036854775807", "MULTIPLY SELF NUMBER 2", "-2 ended 0");
        Rig.leads("-9223372036854775808", "MULTIPLY SELF NUMBER -1", "-9223372036854775808 ended 0");
        Rig.leads("4294967296", "MULTIPLY SELF SELF", "0 ended 0");
        Rig.leads("3037000500", "MULTIPLY SELF SELF", "-9223372036709301616 ended 0");
    }

    private static void addOfNull() {
        Rig.says("ADD of null and another value that");
        for (String value : new String[] {"null", "false", "true", "7", "\"a\"", "[1]", "{\"a\":1}"}) {
            Rig.leads("[null," + value + "]", "ADD ITEM 0 ITEM 1", value + " ended 0");
            Rig.leads("[null," + value + "]", "ADD ITEM 1 ITEM 0", value + " ended 0");
        }
    }

    private static void stringsAndLists() {
        Rig.says("of two strings, two lists: the one behind the other");
        Rig.leads("[\"ab\",\"c\"]", "ADD ITEM 0 ITEM 1", "\"abc\" ended 0");
        Rig.leads("[\"ab\",\"\"]", "BOTH ADD ITEM 0 ITEM 1 ADD ITEM 1 ITEM 0", "\"ab\" \"ab\" ended 0");
        Rig.leads("\"\"", "ADD SELF SELF", "\"\" ended 0");
        Rig.leads("[[1,2],[2]]", "ADD ITEM 0 ITEM 1", "[1,2,2] ended 0");
        Rig.leads("[[1,2],[]]", "BOTH ADD ITEM 0 ITEM 1 ADD ITEM 1 ITEM 0", "[1,2] [1,2] ended 0");
        Rig.leads("[]", "ADD SELF SELF", "[] ended 0");
    }

    private static void objects() {
        Rig.says("of two objects: the members of x, then those of y, as with keys that come again (those of x keep their "
            + "places)");
        Rig.leads("[{\"a\":1,\"b\":2},{\"c\":3,\"a\":4}]", "ADD ITEM 0 ITEM 1", "{\"a\":4,\"b\":2,\"c\":3} ended 0");
        Rig.leads("[{\"a\":1,\"b\":2},{\"c\":3,\"a\":4}]", "ADD ITEM 1 ITEM 0", "{\"c\":3,\"a\":1,\"b\":2} ended 0");
        Rig.leads("[{\"a\":1},{\"b\":2}]", "ADD EACH EACH", "{\"a\":1} {\"a\":1,\"b\":2} {\"b\":2,\"a\":1} {\"b\":2} ended 0");
        Rig.leads("[{\"a\":{\"b\":1}},{\"a\":{\"c\":2}}]", "ADD ITEM 0 ITEM 1", "{\"a\":{\"c\":2}} ended 0");
        Rig.leads("[{\"a\":1},{}]", "BOTH ADD ITEM 0 ITEM 1 ADD ITEM 1 ITEM 0", "{\"a\":1} {\"a\":1} ended 0");
        Rig.leads("{}", "ADD SELF SELF", "{} ended 0");
    }

    private static void addOfOthers() {
        Rig.says("(those of x keep their places); otherwise it fails.");
        fails("ADD", "[1,\"a\"]", "[1,[1]]", "[1,{}]", "[1,true]", "[1,false]", "[\"a\",[]]", "[\"a\",{}]", "[\"a\",true]",
            "[[1],{}]", "[[],false]", "[{},true]", "[true,true]", "[false,false]", "[true,false]");
    }

    private static void subtractAndMultiplyOfOthers() {
        Rig.says("(those of x keep their places); otherwise it fails.");
        for (String part : new String[] {"SUBTRACT", "MULTIPLY"}) {
            fails(part, "[null,1]", "[null,null]", "[null,\"a\"]", "[null,[]]", "[null,{}]", "[\"a\",\"b\"]", "[[1],[1]]",
                "[{},{}]", "[true,1]", "[1,\"a\"]", "[1,[1]]", "[1,{}]", "[true,true]", "[false,false]");
        }
    }

    private static void same(String two, boolean due) {
        Rig.leads(two, "EQUAL ITEM 0 ITEM 1", due + " ended 0");
        Rig.leads(two, "EQUAL ITEM 1 ITEM 0", due + " ended 0");
    }

    private static void equal() {
        Rig.says("EQUAL: whether they are the same");
        String[] all = {"null", "false", "true", "0", "1", "\"\"", "\"a\"", "\"b\"", "\"ab\"", "[]", "[0]", "[0,1]", "[1,0]",
            "{}", "{\"a\":0}", "{\"a\":1}", "{\"b\":0}", "{\"a\":0,\"b\":0}"};
        for (int i = 0; i < all.length; i++) {
            for (int j = 0; j < all.length; j++) {
                same("[" + all[i] + "," + all[j] + "]", i == j);
            }
        }
        same("[[[[[[[0]]]]]],[[[[[[0]]]]]]]", true);
        same("[[[[[[[0]]]]]],[[[[[[1]]]]]]]", false);
        same("[-9223372036854775808,9223372036854775807]", false);
        same("[0,4294967296]", false);
        Rig.leads("[[[[[[[0]]]]]]]", "EQUAL SELF SELF", "true ended 0");
        Rig.leads("{\"b\":1,\"a\":2}", "EQUAL KEYS LIST BOTH LETTER b LETTER a", "true ended 0");
        Rig.leads("\"ab\"", "EQUAL SELF ADD LETTER a LETTER b", "true ended 0");
        Rig.leads("\"a\"", "EQUAL SELF LETTER a", "true ended 0");
        Rig.leads("-5", "EQUAL SELF NUMBER -5", "true ended 0");
        String seven = "LIST ".repeat(6) + "LIST BOTH LIST NONE NUMBER ";
        Rig.leads("[[[[[[[[],0]]]]]]]", "EQUAL SELF " + seven + "0", "true ended 0");
        Rig.leads("[[[[[[[[],0]]]]]]]", "EQUAL SELF " + seven + "1", "false ended 0");
    }

    private static void equalObjects() {
        Rig.says("(objects when they have the same keys, each with the same value, in whatever order)");
        same("[{\"a\":1,\"b\":[2]},{\"b\":[2],\"a\":1}]", true);
        same("[{\"a\":1,\"b\":[2]},{\"b\":[3],\"a\":1}]", false);
        same("[{\"a\":1,\"b\":2},{\"a\":2,\"b\":1}]", false);
        same("[{\"a\":1,\"b\":2},{\"a\":1}]", false);
        same("[{\"a\":1,\"b\":2},{\"a\":1,\"c\":2}]", false);
        same("[{\"a\":null},{\"b\":null}]", false);
        same("[{\"a\":null},{}]", false);
        same("[[{\"a\":1,\"b\":2},3],[{\"b\":2,\"a\":1},3]]", true);
        same("[{\"a\":{\"b\":1,\"c\":2}},{\"a\":{\"c\":2,\"b\":1}}]", true);
        same("[[1,2],[2,1]]", false);
        Rig.leads("{\"a\":null}", "EQUAL SELF PIPE NULL PUT a NULL", "true ended 0");
    }

    private static void less(String two, boolean due, boolean dueTurned) {
        Rig.leads(two, "LESS ITEM 0 ITEM 1", due + " ended 0");
        Rig.leads(two, "LESS ITEM 1 ITEM 0", dueTurned + " ended 0");
    }

    private static void lessIntegers() {
        Rig.says("LESS: of two integers");
        less("[-9223372036854775808,9223372036854775807]", true, false);
        less("[-1,0]", true, false);
        less("[1,2]", true, false);
        less("[2,10]", true, false);
        less("[5,5]", false, false);
    }

    private static void lessStrings() {
        Rig.says("of two strings (the first character that differs, by its number; a beginning is less)");
        less("[\"a\",\"b\"]", true, false);
        less("[\"a\",\"ab\"]", true, false);
        less("[\"\",\"a\"]", true, false);
        less("[\"\",\"\"]", false, false);
        less("[\"ab\",\"ab\"]", false, false);
        less("[\"ab\",\"b\"]", true, false);
        less("[\"abz\",\"ac\"]", true, false);
        less("[\"Z\",\"a\"]", true, false);
        less("[\" \",\"~\"]", true, false);
        less("[\"10\",\"9\"]", true, false);
        less("[\"\\\"\",\"\\\\\"]", true, false);
    }

    private static void lessByKind() {
        Rig.says("otherwise by kind: null, false, true, integers, strings, lists, objects");
        String[] kinds = {"null", "false", "true", "5", "\"\"", "[]", "{}"};
        for (int i = 0; i < kinds.length; i++) {
            for (int j = 0; j < kinds.length; j++) {
                less("[" + kinds[i] + "," + kinds[j] + "]", i < j, j < i);
            }
        }
        less("[true,-9]", true, false);
        less("[9,\"\"]", true, false);
        less("[[9],{}]", true, false);
        less("[\"z\",[]]", true, false);
    }

    private static void listsAndObjectsAreNotLess() {
        Rig.says("lists and objects are not less than others of their kind.");
        less("[[1],[2]]", false, false);
        less("[[1],[1,2]]", false, false);
        less("[[],[1]]", false, false);
        less("[{\"a\":1},{\"b\":2}]", false, false);
        less("[{},{\"a\":1}]", false, false);
        less("[{\"a\":1},{\"a\":2}]", false, false);
    }
}
