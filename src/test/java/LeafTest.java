/** Promise 7: what the parts without parts in them lead to. */
final class LeafTest {
    private static final String ONE_TWO = "{\"a\":1,\"b\":2}";
    private static final String FOUR = "[0,1,2,3]";
    private static final String SIXTEEN = "[" + "0,".repeat(15) + "9]";

    public static void main(String[] args) {
        self();
        fieldOfObject();
        fieldOfNull();
        fieldOfOthers();
        itemOfList();
        itemFromTheEnd();
        noSuchItem();
        itemOfNull();
        itemOfOthers();
        each();
        eachOfOthers();
        deep();
        constants();
        noneAndFail();
        not();
        length();
        lengthOfIntegers();
        lengthOfOthers();
        keys();
        keysOfOthers();
        Rig.end(LeafTest.class);
    }

    private static void fails(String parts, String... documents) {
        for (String document : documents) {
            Rig.runs(document, parts, 9, "ended 1 left 8");
        }
    }

    private static void self() {
        Rig.says("0 SELF: it.");
        for (String document : new String[] {"null", "false", "true", "-5", "\"\"", "[1,[]]", ONE_TWO}) {
            Rig.runs(document, "SELF", 9, document + " ended 0 left 8");
        }
    }

    private static void fieldOfObject() {
        Rig.says("1 FIELD k: of an object the value of the key with that one letter, null when there is none");
        Rig.leads(ONE_TWO, "FIELD a", "1 ended 0");
        Rig.leads(ONE_TWO, "FIELD b", "2 ended 0");
        Rig.leads(ONE_TWO, "FIELD c", "null ended 0");
        Rig.leads("{}", "FIELD a", "null ended 0");
        Rig.leads("{\"ab\":1,\"\":2,\"A\":3,\"ba\":4}", "FIELD a", "null ended 0");
        Rig.leads("{\"a\":false}", "FIELD a", "false ended 0");
        Rig.leads("{\"b\":{\"a\":1}}", "FIELD a", "null ended 0");
    }

    private static void fieldOfNull() {
        Rig.says("of null null; otherwise it fails.  2 ITEM");
        Rig.runs("null", "FIELD a", 9, "null ended 0 left 8");
    }

    private static void fieldOfOthers() {
        Rig.says("of null null; otherwise it fails.  2 ITEM");
        fails("FIELD a", "false", "true", "1", "\"a\"", "[1]", "[]", "[{\"a\":1}]");
    }

    private static void itemOfList() {
        Rig.says("2 ITEM n: of a list the value n (from 0;");
        Rig.leads(FOUR, "ITEM 0", "0 ended 0");
        Rig.leads(FOUR, "ITEM 3", "3 ended 0");
        Rig.leads(SIXTEEN, "ITEM 15", "9 ended 0");
        Rig.leads("[[5],[6]]", "ITEM 1", "[6] ended 0");
    }

    private static void itemFromTheEnd() {
        Rig.says("with n below 0 counted from the end, -1 the last)");
        Rig.leads(FOUR, "ITEM -1", "3 ended 0");
        Rig.leads(FOUR, "ITEM -4", "0 ended 0");
        Rig.leads(SIXTEEN, "ITEM -1", "9 ended 0");
        Rig.leads(SIXTEEN, "ITEM -16", "0 ended 0");
    }

    private static void noSuchItem() {
        Rig.says("null when there is none; of null null; otherwise it fails.  3 EACH");
        Rig.leads(FOUR, "ITEM 4", "null ended 0");
        Rig.leads(FOUR, "ITEM 127", "null ended 0");
        Rig.leads(FOUR, "ITEM -5", "null ended 0");
        Rig.leads(FOUR, "ITEM -128", "null ended 0");
        Rig.leads(SIXTEEN, "ITEM 16", "null ended 0");
        Rig.leads(SIXTEEN, "ITEM -17", "null ended 0");
        Rig.leads("[]", "ITEM 0", "null ended 0");
        Rig.leads("[]", "ITEM -1", "null ended 0");
    }

    private static void itemOfNull() {
        Rig.says("of null null; otherwise it fails.  3 EACH");
        Rig.runs("null", "ITEM 0", 9, "null ended 0 left 8");
        Rig.leads("null", "ITEM -1", "null ended 0");
    }

    private static void itemOfOthers() {
        Rig.says("of null null; otherwise it fails.  3 EACH");
        fails("ITEM 0", "false", "true", "1", "\"a\"", ONE_TWO, "{}");
        fails("ITEM -1", "false", "true", "1", "\"a\"", ONE_TWO, "{}");
    }

    private static void each() {
        Rig.says("3 EACH: the values of a list or of the members of an object");
        Rig.leads("[1,[2],null]", "EACH", "1 [2] null ended 0");
        Rig.leads("{\"b\":1,\"a\":[2],\"b\":3}", "EACH", "3 [2] ended 0");
        Rig.runs("[]", "EACH", 1, "ended 0 left 0");
        Rig.runs("{}", "EACH", 1, "ended 0 left 0");
    }

    private static void eachOfOthers() {
        Rig.says("3 EACH: the values of a list or of the members of an object; otherwise it fails.");
        fails("EACH", "null", "false", "true", "1", "\"a\"", "\"\"");
    }

    private static void deep() {
        Rig.says("4 DEEP: it, then, of a list and an object, for each value in it what DEEP leads to.");
        for (String document : new String[] {"null", "false", "true", "1", "\"ab\"", "[]", "{}"}) {
            Rig.runs(document, "DEEP", 1, document + " ended 0 left 0");
        }
        Rig.leads("[[1,[2]],{\"a\":null}]", "DEEP", "[[1,[2]],{\"a\":null}] [1,[2]] 1 [2] 2 {\"a\":null} null ended 0");
        Rig.leads("[[[[[[[0]]]]]]]", "PIPE DEEP LENGTH", "1 1 1 1 1 1 1 0 ended 0");
        Rig.leads("[[[[[[[[]]]]]]]]", "PIPE DEEP LENGTH", "1 1 1 1 1 1 1 0 ended 0");
        Rig.leads("[[],{},[[]]]", "PIPE DEEP DEEP", "[[],{},[[]]] [] {} [[]] [] [] {} [[]] [] [] ended 0");
        Rig.leads("{\"a\":[1],\"b\":2}", "LIST DEEP", "[{\"a\":[1],\"b\":2},[1],1,2] ended 0");
    }

    private static void constants() {
        Rig.says("5 NUMBER n.  6 LETTER k: the string of that letter.  7 NULL.");
        for (String document : new String[] {"null", "1", "[2]"}) {
            Rig.leads(document, "BOTH NUMBER -128 NUMBER 127", "-128 127 ended 0");
            Rig.leads(document, "BOTH LETTER a LETTER z", "\"a\" \"z\" ended 0");
            Rig.leads(document, "NULL", "null ended 0");
        }
    }

    private static void noneAndFail() {
        Rig.says("17 NONE: nothing.  18 FAIL: fails.");
        for (String document : new String[] {"null", "1", "[2]"}) {
            Rig.runs(document, "NONE", 1, "ended 0 left 0");
            Rig.runs(document, "FAIL", 1, "ended 1 left 0");
        }
    }

    private static void not() {
        Rig.says("19 NOT: true when it is null or false, otherwise false.");
        Rig.leads("[null,false,true,0,\"\",[],{}]", "PIPE EACH NOT", "true true false false false false false ended 0");
    }

    private static void length() {
        Rig.says("20 LENGTH: of null 0, of a string, list or object how many there are in it");
        Rig.leads("null", "LENGTH", "0 ended 0");
        Rig.leads("[\"\",\"abc\",[],[1,[2,3]],{},{\"a\":1,\"b\":[2,3]}]", "PIPE EACH LENGTH", "0 3 0 2 0 2 ended 0");
        Rig.leads("\"\\\"\\\\\"", "LENGTH", "2 ended 0");
        Rig.leads("\"abcdefghijklmnopqrstuvwx\"", "LENGTH", "24 ended 0");
        Rig.leads(SIXTEEN, "LENGTH", "16 ended 0");
    }

    private static void lengthOfIntegers() {
        Rig.says("of an integer itself without its sign (of the least one itself)");
        Rig.leads("[3,-3,1,-1,0,-0]", "PIPE EACH LENGTH", "3 3 1 1 0 0 ended 0");
        Rig.leads("9223372036854775807", "LENGTH", "9223372036854775807 ended 0");
        Rig.leads("-9223372036854775807", "LENGTH", "9223372036854775807 ended 0");
        Rig.leads("-9223372036854775808", "LENGTH", "-9223372036854775808 ended 0");
    }

    private static void lengthOfOthers() {
        Rig.says("(of the least one itself); otherwise it fails.");
        fails("LENGTH", "false", "true");
    }

    private static void keys() {
        Rig.says("21 KEYS: a list of an object's keys, in order of the members");
        Rig.leads("{\"b\":1,\"a\":2,\"b\":3}", "KEYS", "[\"b\",\"a\"] ended 0");
        Rig.leads("{\"\":1,\"\\\"\":2}", "KEYS", "[\"\",\"\\\"\"] ended 0");
        Rig.leads("{}", "KEYS", "[] ended 0");
        Rig.leads("{\"b\":1,\"a\":2}", "PIPE KEYS EACH", "\"b\" \"a\" ended 0");
        Rig.leads("{\"b\":1,\"a\":2}", "PIPE PUT c NULL KEYS", "[\"b\",\"a\",\"c\"] ended 0");
    }

    private static void keysOfOthers() {
        Rig.says("in order of the members; otherwise it fails.");
        fails("KEYS", "null", "false", "true", "1", "\"a\"", "[1]", "[]");
    }
}
