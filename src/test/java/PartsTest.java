/** Promise 7: what each part leads to. */
final class PartsTest {
    private static final String ONE_TWO = "{\"a\":1,\"b\":2}";
    private static final String FOUR = "[0,1,2,3]";
    private static final String SEVEN_AROUND = "[[[[[[[0]]]]]]]";

    public static void main(String[] args) {
        parts0To7();
        deep();
        pipeAndBoth();
        elseAndTry();
        ifs();
        lists();
        folds();
        elements();
        puts();
        parts17To21();
        arithmetic();
        added();
        equal();
        less();
        limits();
        deepQueries();
        oneAfterTheOther();
        Rig.end(PartsTest.class);
    }

    private static void parts0To7() {
        Rig.leads("[1, 2]", "SELF", "[1,2] ended 0");
        Rig.leads(ONE_TWO, "FIELD b", "2 ended 0");
        Rig.leads(ONE_TWO, "FIELD c", "null ended 0");
        Rig.leads("{\"ab\":1,\"\":2}", "FIELD a", "null ended 0");
        Rig.leads("null", "FIELD a", "null ended 0");
        for (String wrong : new String[] {"false", "true", "1", "\"a\"", "[1]"}) {
            Rig.leads(wrong, "FIELD a", "ended 1");
        }
        Rig.leads(FOUR, "ITEM 0", "0 ended 0");
        Rig.leads(FOUR, "ITEM 3", "3 ended 0");
        Rig.leads(FOUR, "ITEM 4", "null ended 0");
        Rig.leads(FOUR, "ITEM 127", "null ended 0");
        Rig.leads(FOUR, "ITEM -1", "3 ended 0");
        Rig.leads(FOUR, "ITEM -4", "0 ended 0");
        Rig.leads(FOUR, "ITEM -5", "null ended 0");
        Rig.leads(FOUR, "ITEM -128", "null ended 0");
        Rig.leads("[]", "ITEM 0", "null ended 0");
        Rig.leads("[]", "ITEM -1", "null ended 0");
        Rig.leads("null", "ITEM 0", "null ended 0");
        for (String wrong : new String[] {"false", "true", "1", "\"a\"", ONE_TWO}) {
            Rig.leads(wrong, "ITEM 0", "ended 1");
        }
        Rig.leads("[1,[2],null]", "EACH", "1 [2] null ended 0");
        Rig.leads(ONE_TWO, "EACH", "1 2 ended 0");
        Rig.leads("[]", "EACH", "ended 0");
        Rig.leads("{}", "EACH", "ended 0");
        for (String wrong : new String[] {"null", "false", "true", "1", "\"a\""}) {
            Rig.leads(wrong, "EACH", "ended 1");
        }
        Rig.leads("null", "BOTH NUMBER -128 NUMBER 127", "-128 127 ended 0");
        Rig.leads("1", "BOTH LETTER a LETTER z", "\"a\" \"z\" ended 0");
        Rig.leads("1", "NULL", "null ended 0");
    }

    private static void deep() {
        Rig.leads("1", "DEEP", "1 ended 0");
        Rig.leads("\"ab\"", "DEEP", "\"ab\" ended 0");
        Rig.leads("[[1,[2]],{\"a\":null}]", "DEEP", "[[1,[2]],{\"a\":null}] [1,[2]] 1 [2] 2 {\"a\":null} null ended 0");
        Rig.leads(SEVEN_AROUND, "PIPE DEEP LENGTH", "1 1 1 1 1 1 1 0 ended 0");
        Rig.leads("[[],{},[[]]]", "PIPE DEEP DEEP",
            "[[],{},[[]]] [] {} [[]] [] [] {} [[]] [] [] ended 0");
        Rig.leads("{\"a\":[1],\"b\":2}", "LIST DEEP", "[{\"a\":[1],\"b\":2},[1],1,2] ended 0");
    }

    private static void pipeAndBoth() {
        Rig.leads("[[1,2],[],[3]]", "PIPE EACH EACH", "1 2 3 ended 0");
        Rig.leads("[[1,2],3,[4]]", "PIPE EACH EACH", "1 2 ended 1");
        Rig.leads("[1]", "PIPE NONE FAIL", "ended 0");
        Rig.leads("[1]", "PIPE FAIL NONE", "ended 1");
        Rig.leads("[1,2]", "PIPE EACH BOTH SELF NULL", "1 null 2 null ended 0");
        Rig.leads("[1,2]", "BOTH EACH SELF", "1 2 [1,2] ended 0");
        Rig.leads("[1,2]", "BOTH BOTH EACH FAIL SELF", "1 2 ended 1");
        Rig.leads("[1,2]", "BOTH NONE BOTH NONE EACH", "1 2 ended 0");
        Rig.leads("[1,2]", "BOTH EACH FAIL", "1 2 ended 1");
    }

    private static void elseAndTry() {
        Rig.leads("[null,1,false,2]", "ELSE EACH NUMBER 7", "1 2 ended 0");
        Rig.leads("[null,false]", "ELSE EACH NUMBER 7", "7 ended 0");
        Rig.leads("[null,false]", "ELSE EACH EACH", "null false ended 0");
        Rig.leads("[0,\"\",[],{},true]", "ELSE EACH NUMBER 7", "0 \"\" [] {} true ended 0");
        Rig.leads("1", "ELSE NONE SELF", "1 ended 0");
        Rig.leads("1", "ELSE FAIL SELF", "1 ended 0");
        Rig.leads("1", "ELSE FAIL FAIL", "ended 1");
        Rig.leads("1", "ELSE BOTH SELF FAIL NUMBER 7", "1 ended 0");
        Rig.leads("1", "ELSE BOTH NULL FAIL NUMBER 7", "7 ended 0");
        Rig.leads("1", "ELSE BOTH SELF NULL FAIL", "1 ended 0");
        Rig.leads("1", "PIPE ELSE SELF NUMBER 7 FAIL", "ended 1");
        Rig.leads("1", "ELSE PIPE ELSE SELF NUMBER 7 FAIL NUMBER 8", "8 ended 0");
        Rig.leads("1", "BOTH ELSE FAIL NONE NUMBER 2", "2 ended 0");
        Rig.leads("1", "TRY FAIL", "ended 0");
        Rig.leads("1", "TRY SELF", "1 ended 0");
        Rig.leads("1", "BOTH TRY BOTH NUMBER 2 FAIL NUMBER 3", "2 3 ended 0");
        Rig.leads("[[1],2,[3]]", "TRY PIPE EACH EACH", "1 ended 0");
        Rig.leads("[[1],2,[3]]", "PIPE EACH TRY EACH", "1 3 ended 0");
        Rig.leads("1", "PIPE TRY SELF FAIL", "ended 1");
        Rig.leads("1", "TRY BOTH NULL NOT", "null false ended 0");
    }

    private static void ifs() {
        Rig.leads("1", "IF SELF LETTER y LETTER n", "\"y\" ended 0");
        Rig.leads("[null,false,true,0,\"\",[],{}]", "IF EACH NUMBER 1 NUMBER 0", "0 0 1 1 1 1 1 ended 0");
        Rig.leads("[null,5]", "IF EACH SELF EACH", "null 5 [null,5] ended 0");
        Rig.leads("[1,2]", "IF NOT FAIL EACH", "1 2 ended 0");
        Rig.leads("[1,2]", "IF EACH EACH FAIL", "1 2 1 2 ended 0");
        Rig.leads("[1,null]", "IF EACH SELF FAIL", "[1,null] ended 1");
        Rig.leads("[1,null]", "IF FAIL SELF SELF", "ended 1");
        Rig.leads("[1,null]", "IF NONE SELF SELF", "ended 0");
        Rig.leads("[1,null,2]", "IF EACH NONE NUMBER 3", "3 ended 0");
    }

    private static void lists() {
        Rig.leads("[1,2]", "LIST EACH", "[1,2] ended 0");
        Rig.leads("1", "LIST NONE", "[] ended 0");
        Rig.leads("1", "LIST FAIL", "ended 1");
        Rig.leads("1", "LIST BOTH SELF FAIL", "ended 1");
        Rig.leads("[1,2]", "PIPE EACH LIST BOTH SELF NULL", "[1,null] [2,null] ended 0");
        Rig.leads("[1,2]", "LIST BOTH LIST EACH LIST LIST BOTH SELF NULL", "[[1,2],[[[1,2],null]]] ended 0");
        String eight = "[1,2,3,4,5,6,7,8]";
        Rig.leads(eight, "PIPE LIST BOTH EACH EACH LENGTH", "16 ended 0");
        Rig.runs(eight, "LIST BOTH BOTH EACH EACH BOTH NULL SELF", 50, "ended 1 left 43");
        Rig.runs(eight, "LIST BOTH BOTH EACH EACH BOTH NULL FAIL", 7, "ended 1 left 0");
        Rig.runs(eight, "LIST BOTH BOTH EACH EACH FAIL", 50, "ended 1 left 44");
    }

    private static void folds() {
        Rig.leads("[1,2,3]", "FOLD EACH NUMBER 0 ADD SELF ELEMENT", "6 ended 0");
        Rig.leads("[1,2,3]", "FOLD NONE NUMBER 9 FAIL", "9 ended 0");
        Rig.leads("[1,2,3]", "FOLD EACH NONE FAIL", "ended 0");
        Rig.leads("[1,2,3]", "FOLD EACH EACH ADD SELF ELEMENT", "7 8 9 ended 0");
        Rig.leads("[1,2,3]", "FOLD EACH NUMBER 0 NONE", "null ended 0");
        Rig.leads("[1,2,3]", "FOLD EACH NUMBER 0 LIST SELF", "[[[0]]] ended 0");
        Rig.leads("[1,2,3]", "FOLD EACH NUMBER 0 BOTH LETTER x ADD SELF ELEMENT", "6 ended 0");
        Rig.leads("[1,2,3]", "FOLD EACH NUMBER 0 BOTH ELEMENT FAIL", "ended 1");
        Rig.leads("[1,2,3]", "FOLD FAIL NUMBER 0 ELEMENT", "ended 1");
        Rig.leads("[1,2,3]", "FOLD BOTH EACH FAIL NUMBER 0 ELEMENT", "ended 1");
        Rig.leads("[1,2,3]", "FOLD EACH FAIL ELEMENT", "ended 1");
        Rig.leads("[1,2,3]", "FOLD EACH BOTH NUMBER 5 FAIL ELEMENT", "3 ended 1");
        Rig.leads("[1,2,3]", "TRY FOLD EACH BOTH NUMBER 5 FAIL ELEMENT", "3 ended 0");
        Rig.leads("[1,2,3]", "FOLD EACH LIST NONE ADD SELF LIST ELEMENT", "[1,2,3] ended 0");
        Rig.leads("[1,2,3]", "FOLD EACH LIST NONE ADD LIST ELEMENT SELF", "[3,2,1] ended 0");
        Rig.runs("[1,2,3]", "FOLD EACH BOTH NUMBER 0 NUMBER 1 SELF", 50, "0 1 ended 0 left 38");
        Rig.runs("[1,2,3]", "FOLD EACH BOTH NUMBER 0 NUMBER 1 SELF", 8, "0 ended 2 left 0");
    }

    private static void elements() {
        Rig.leads("1", "ELEMENT", "null ended 0");
        Rig.leads("[1,2]", "FOLD ELEMENT NUMBER 5 ELEMENT", "null ended 0");
        Rig.leads("[1,2]", "FOLD EACH ELEMENT SELF", "null ended 0");
        Rig.leads("[1,2]", "BOTH FOLD EACH NULL ELEMENT ELEMENT", "2 null ended 0");
        Rig.leads("[1,2]", "FOLD EACH NULL FOLD NUMBER 7 NULL ELEMENT", "7 ended 0");
        Rig.leads("[1,2]", "FOLD EACH NULL FOLD ELEMENT NULL ELEMENT", "2 ended 0");
        Rig.leads("[1,2]", "FOLD EACH NULL FOLD NUMBER 7 ELEMENT SELF", "2 ended 0");
        Rig.leads("[1,2]", "FOLD EACH NULL FOLD BOTH ELEMENT NUMBER 7 ELEMENT LIST BOTH SELF ELEMENT",
            "[[2,2],7] ended 0");
        Rig.leads("[1,2]", "FOLD EACH NULL BOTH FOLD NUMBER 7 NULL ELEMENT ELEMENT", "2 ended 0");
        Rig.leads("[1,2]", "FOLD EACH LIST NONE ADD SELF LIST PIPE NUMBER 9 ELEMENT", "[1,2] ended 0");
        Rig.leads("[1,2]", "FOLD EACH NULL PUT a IF ELSE TRY ELEMENT NULL LIST ELEMENT NULL", "{\"a\":[2]} ended 0");
        Rig.leads("[3]", "FOLD EACH NULL FOLD NUMBER 7 NULL LIST FOLD ELEMENT ELEMENT ADD ELEMENT SELF",
            "[14] ended 0");
    }

    private static void puts() {
        Rig.leads("null", "PUT a NUMBER 1", "{\"a\":1} ended 0");
        Rig.leads("{}", "PUT z SELF", "{\"z\":{}} ended 0");
        Rig.leads(ONE_TWO, "PUT a NUMBER 9", "{\"a\":9,\"b\":2} ended 0");
        Rig.leads(ONE_TWO, "PUT c EACH", "{\"a\":1,\"b\":2,\"c\":1} {\"a\":1,\"b\":2,\"c\":2} ended 0");
        Rig.leads(ONE_TWO, "PUT b NONE", "ended 0");
        Rig.leads(ONE_TWO, "PUT b FAIL", "ended 1");
        Rig.leads(ONE_TWO, "PUT b BOTH NULL FAIL", "{\"a\":1,\"b\":null} ended 1");
        for (String wrong : new String[] {"false", "true", "1", "\"a\"", "[1]"}) {
            Rig.runs(wrong, "PUT a NUMBER 1", 1, "ended 1 left 0");
        }
        Rig.leads(ONE_TWO, "BOTH PUT a NULL SELF", "{\"a\":null,\"b\":2} {\"a\":1,\"b\":2} ended 0");
    }

    private static void parts17To21() {
        Rig.leads("1", "NONE", "ended 0");
        Rig.leads("1", "FAIL", "ended 1");
        Rig.leads("[null,false,true,0,\"\",[],{}]", "PIPE EACH NOT", "true true false false false false false ended 0");
        Rig.leads("[null,3,-3,0,\"\",\"abc\",[],[1,[2,3]],{},{\"a\":1}]", "PIPE EACH LENGTH", "0 3 3 0 0 3 0 2 0 1 ended 0");
        Rig.leads("-9223372036854775808", "LENGTH", "-9223372036854775808 ended 0");
        Rig.leads("-9223372036854775807", "LENGTH", "9223372036854775807 ended 0");
        Rig.leads("\"\\\"\\\\\"", "LENGTH", "2 ended 0");
        Rig.leads("false", "LENGTH", "ended 1");
        Rig.leads("true", "LENGTH", "ended 1");
        Rig.leads("{\"b\":1,\"a\":2,\"b\":3}", "KEYS", "[\"b\",\"a\"] ended 0");
        Rig.leads("{}", "KEYS", "[] ended 0");
        for (String wrong : new String[] {"null", "false", "true", "1", "\"a\"", "[1]"}) {
            Rig.leads(wrong, "KEYS", "ended 1");
        }
        Rig.leads("{\"b\":1,\"a\":2}", "PIPE KEYS EACH", "\"b\" \"a\" ended 0");
    }

    private static void arithmetic() {
        Rig.leads("[7,3]", "ADD ITEM 0 ITEM 1", "10 ended 0");
        Rig.leads("[7,3]", "SUBTRACT ITEM 0 ITEM 1", "4 ended 0");
        Rig.leads("[7,3]", "MULTIPLY ITEM 0 ITEM 1", "21 ended 0");
        Rig.leads("9223372036854775807", "ADD SELF NUMBER 1", "-9223372036854775808 ended 0");
        Rig.leads("-9223372036854775808", "SUBTRACT SELF NUMBER 1", "9223372036854775807 ended 0");
        Rig.leads("9223372036854775807", "MULTIPLY SELF NUMBER 2", "-2 ended 0");
        Rig.leads("-9223372036854775808", "MULTIPLY SELF NUMBER -1", "-9223372036854775808 ended 0");
        Rig.leads("[1,2]", "SUBTRACT EACH EACH", "0 -1 1 0 ended 0");
        Rig.leads("[1,2]", "ADD EACH NONE", "ended 0");
        Rig.leads("[1,2]", "ADD NONE FAIL", "ended 0");
        Rig.leads("[1,2]", "ADD EACH BOTH NUMBER 0 FAIL", "1 ended 1");
        for (String part : new String[] {"SUBTRACT", "MULTIPLY"}) {
            for (String two : new String[] {"[null,1]", "[1,null]", "[null,null]", "[\"a\",\"b\"]", "[[1],[1]]", "[{},{}]",
                "[true,1]", "[1,\"a\"]", "[true,true]"}) {
                Rig.leads(two, part + " ITEM 0 ITEM 1", "ended 1");
            }
        }
    }

    private static void added() {
        Rig.leads("[null,7]", "ADD ITEM 0 ITEM 1", "7 ended 0");
        Rig.leads("[7,null]", "ADD ITEM 0 ITEM 1", "7 ended 0");
        Rig.leads("[null,true]", "ADD ITEM 0 ITEM 1", "true ended 0");
        Rig.leads("[false,null]", "ADD ITEM 0 ITEM 1", "false ended 0");
        Rig.leads("null", "ADD SELF SELF", "null ended 0");
        Rig.leads("[\"ab\",\"c\"]", "ADD ITEM 0 ITEM 1", "\"abc\" ended 0");
        Rig.leads("[[1,2],[2]]", "ADD ITEM 0 ITEM 1", "[1,2,2] ended 0");
        Rig.leads("[{\"a\":1,\"b\":2},{\"c\":3,\"a\":4}]", "ADD ITEM 0 ITEM 1", "{\"a\":4,\"b\":2,\"c\":3} ended 0");
        for (String two : new String[] {"[1,\"a\"]", "[\"a\",1]", "[true,true]", "[false,1]", "[[1],1]", "[{},[]]",
            "[{},\"a\"]", "[true,false]"}) {
            Rig.leads(two, "ADD ITEM 0 ITEM 1", "ended 1");
        }
    }

    private static void same(String two, boolean due) {
        Rig.leads(two, "EQUAL ITEM 0 ITEM 1", due + " ended 0");
        Rig.leads(two, "EQUAL ITEM 1 ITEM 0", due + " ended 0");
    }

    private static void equal() {
        String[] all = {"null", "false", "true", "0", "1", "\"\"", "\"a\"", "\"b\"", "\"ab\"", "[]", "[0]", "[0,1]", "[1,0]", "{}",
            "{\"a\":0}", "{\"a\":1}", "{\"b\":0}", "{\"a\":0,\"b\":0}"};
        for (int i = 0; i < all.length; i++) {
            for (int j = 0; j < all.length; j++) {
                same("[" + all[i] + "," + all[j] + "]", i == j);
            }
        }
        same("[{\"a\":1,\"b\":[2]},{\"b\":[2],\"a\":1}]", true);
        same("[{\"a\":1,\"b\":[2]},{\"b\":[3],\"a\":1}]", false);
        same("[[{\"a\":1,\"b\":2},3],[{\"b\":2,\"a\":1},3]]", true);
        same("[[[[[[[0]]]]]],[[[[[[0]]]]]]]", true);
        same("[[[[[[[0]]]]]],[[[[[[1]]]]]]]", false);
        same("[-9223372036854775808,9223372036854775807]", false);
        Rig.leads(SEVEN_AROUND, "EQUAL SELF SELF", "true ended 0");
        Rig.leads("{\"b\":1,\"a\":2}", "EQUAL KEYS LIST BOTH LETTER b LETTER a", "true ended 0");
        Rig.leads("\"ab\"", "EQUAL SELF ADD LETTER a LETTER b", "true ended 0");
        Rig.leads("\"a\"", "EQUAL SELF LETTER a", "true ended 0");
        Rig.leads("{\"a\":null}", "EQUAL SELF PIPE NULL PUT a NULL", "true ended 0");
    }

    private static void less(String two, boolean due, boolean dueTurned) {
        Rig.leads(two, "LESS ITEM 0 ITEM 1", due + " ended 0");
        Rig.leads(two, "LESS ITEM 1 ITEM 0", dueTurned + " ended 0");
    }

    private static void less() {
        String[] kinds = {"null", "false", "true", "5", "\"\"", "[]", "{}"};
        for (int i = 0; i < kinds.length; i++) {
            for (int j = 0; j < kinds.length; j++) {
                less("[" + kinds[i] + "," + kinds[j] + "]", i < j, j < i);
            }
        }
        less("[-9223372036854775808,9223372036854775807]", true, false);
        less("[-1,0]", true, false);
        less("[\"a\",\"b\"]", true, false);
        less("[\"a\",\"ab\"]", true, false);
        less("[\"ab\",\"b\"]", true, false);
        less("[\"Z\",\"a\"]", true, false);
        less("[\"ab\",\"ab\"]", false, false);
        less("[[1],[2]]", false, false);
        less("[[1],[1,2]]", false, false);
        less("[{\"a\":1},{\"b\":2}]", false, false);
    }

    private static void limits() {
        Rig.leads("\"abcdefghijkl\"", "ADD SELF SELF", "\"abcdefghijklabcdefghijkl\" ended 0");
        Rig.leads("\"abcdefghijkl\"", "PIPE ADD SELF SELF ADD SELF LETTER a", "ended 1");
        Rig.leads("[1,2,3,4,5,6,7,8]", "PIPE ADD SELF SELF LENGTH", "16 ended 0");
        Rig.leads("[1,2,3,4,5,6,7,8]", "ADD SELF ADD SELF LIST NULL", "ended 1");
        String sixteen = "{\"a\":0,\"b\":0,\"c\":0,\"d\":0,\"e\":0,\"f\":0,\"g\":0,\"h\":0,"
            + "\"i\":0,\"j\":0,\"k\":0,\"l\":0,\"m\":0,\"n\":0,\"o\":0,\"p\":0}";
        Rig.leads(sixteen, "PUT q NULL", "ended 1");
        Rig.leads(sixteen, "PIPE PUT p LETTER x FIELD p", "\"x\" ended 0");
        Rig.leads(sixteen, "PIPE ADD SELF PIPE NULL PUT p NUMBER 7 FIELD p", "7 ended 0");
        Rig.leads(sixteen, "PIPE ADD SELF SELF LENGTH", "16 ended 0");
        Rig.leads(sixteen, "ADD SELF PIPE NULL PUT q NULL", "ended 1");
        Rig.leads(SEVEN_AROUND, "LIST SELF", "ended 1");
        Rig.leads("[[[[[[0]]]]]]", "LIST SELF", "[[[[[[[0]]]]]]] ended 0");
        Rig.leads("[[[[[[[]]]]]]]", "LIST SELF", "[[[[[[[[]]]]]]]] ended 0");
        Rig.leads("[[[[[[[[]]]]]]]]", "LIST SELF", "ended 1");
        Rig.leads("null", "PUT a ".repeat(7) + "NULL", "{\"a\":".repeat(7) + "null" + "}".repeat(7) + " ended 0");
        Rig.leads("null", "PUT a ".repeat(8) + "NULL", "ended 1");
        Rig.leads(SEVEN_AROUND, "PIPE ADD SELF SELF LENGTH", "2 ended 0");
        manyValues();
    }

    /** 11 values in it are 12 with itself: 8 of these make 97. */
    private static void manyValues() {
        String eleven = "[1,2,3,4,5,6,7,8,9,10,11]";
        String eightTimes = "LIST BOTH BOTH BOTH SELF SELF BOTH SELF SELF BOTH BOTH SELF SELF BOTH SELF SELF";
        Rig.leads(eleven, "PIPE " + eightTimes + " LENGTH", "8 ended 0");
        Rig.leads(eleven, "PIPE " + eightTimes + " PIPE ADD SELF LIST BOTH NULL BOTH NULL NULL LENGTH", "11 ended 0");
        Rig.leads(eleven, "PIPE " + eightTimes + " ADD SELF LIST BOTH BOTH NULL NULL BOTH NULL NULL", "ended 1");
        Rig.leads(eleven, "PIPE LIST BOTH BOTH BOTH SELF SELF BOTH SELF SELF BOTH BOTH SELF SELF BOTH SELF BOTH SELF SELF LENGTH",
            "ended 1");
        Rig.leads(eleven, "PIPE " + eightTimes + " PIPE PIPE NULL PUT a ITEM 0 FIELD a", "null ended 0");
        Rig.leads("{\"a\":0,\"b\":0}", "PIPE PIPE PUT a LIST BOTH DEEP DEEP PUT b DEEP LENGTH",
            "2 2 2 2 2 2 2 2 2 2 2 2 2 ended 0");
    }

    /** Twelve parts around a DEEP that goes seven values down. */
    private static void deepQueries() {
        String all = "[[[[[[[0]]]]]]] [[[[[[0]]]]]] [[[[[0]]]]] [[[[0]]]] [[[0]]] [[0]] [0] 0 ended 0";
        for (String around : new String[] {"TRY ", "PIPE SELF ", "BOTH NONE ", "ELSE NONE ", "IF SELF ", "IF NULL SELF "}) {
            String behind = around.equals("IF SELF ") ? " SELF".repeat(12) : "";
            Rig.leads(SEVEN_AROUND, around.repeat(12) + "DEEP" + behind, all);
        }
        Rig.leads(SEVEN_AROUND, "FOLD NULL SELF ".repeat(12) + "DEEP", "0 ended 0");
        Rig.leads(SEVEN_AROUND, "ADD NULL ".repeat(12) + "DEEP", all);
        Rig.leads("null", "PIPE NULL ".repeat(10) + "PUT a LIST NULL", "{\"a\":[null]} ended 0");
        Rig.leads("null", "TRY ".repeat(11) + "LIST NUMBER 1", "[1] ended 0");
    }

    /** Nothing of one value, list or object comes into the next. */
    private static void oneAfterTheOther() {
        Rig.leads("null", "BOTH PUT a NULL PUT b NULL", "{\"a\":null} {\"b\":null} ended 0");
        Rig.leads("[[1],[2]]", "ADD EACH EACH", "[1,1] [1,2] [2,1] [2,2] ended 0");
        Rig.leads("[{\"a\":1},{\"b\":2}]", "ADD EACH EACH",
            "{\"a\":1} {\"a\":1,\"b\":2} {\"b\":2,\"a\":1} {\"b\":2} ended 0");
        Rig.leads("[1,2]", "PIPE EACH LIST SELF", "[1] [2] ended 0");
        Rig.leads("[[1,2],[3]]", "LIST PIPE EACH LIST EACH", "[[1,2],[3]] ended 0");
    }
}
