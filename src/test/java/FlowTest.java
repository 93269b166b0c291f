/** Promise 7: what the parts 8 to 16, with parts in them, lead to. */
final class FlowTest {
    private static final String ONE_TWO = "{\"a\":1,\"b\":2}";
    private static final String EIGHT = "[1,2,3,4,5,6,7,8]";
    private static final String SEVEN_AROUND = "[[[[[[[0]]]]]]]";

    public static void main(String[] args) {
        nothingMoreBehindAFailure();
        pipe();
        both();
        elses();
        elseOfNone();
        elseOfFailure();
        ifs();
        lists();
        seventeenth();
        tries();
        folds();
        foldWithoutValues();
        foldsBegin();
        foldsFail();
        elements();
        noElement();
        puts();
        putLooksFirst();
        itIsWhatItWas();
        deepQueries();
        oneAfterTheOther();
        Rig.end(FlowTest.class);
    }

    private static void nothingMoreBehindAFailure() {
        Rig.says("it may FAIL, when there is nothing more from it, and a part fails when a part with which it goes on fails");
        for (String parts : new String[] {"PIPE FAIL SELF", "PIPE SELF FAIL", "BOTH FAIL SELF", "ELSE NONE FAIL",
            "ELSE FAIL FAIL",
            "IF FAIL SELF SELF", "IF SELF FAIL SELF", "IF NULL SELF FAIL", "LIST FAIL", "FOLD FAIL SELF SELF",
            "FOLD SELF FAIL SELF", "FOLD SELF SELF FAIL", "PUT a FAIL", "ADD FAIL SELF", "SUBTRACT SELF FAIL",
            "MULTIPLY FAIL SELF", "EQUAL SELF FAIL", "LESS FAIL SELF"}) {
            Rig.leads(ONE_TWO, parts, "ended 1");
            Rig.leads(ONE_TWO, "BOTH NULL BOTH " + parts + " SELF", "null ended 1");
            Rig.leads(ONE_TWO, "BOTH TRY " + parts + " NULL", "null ended 0");
        }
        Rig.leads("[1,2]", "BOTH EACH FAIL", "1 2 ended 1");
        Rig.leads("[[1,2],3,[4]]", "PIPE EACH EACH", "1 2 ended 1");
    }

    private static void pipe() {
        Rig.says("8 PIPE p q: for each value of p, those of q from that.");
        Rig.leads("[[1,2],[],[3]]", "PIPE EACH EACH", "1 2 3 ended 0");
        Rig.leads("[1]", "PIPE NONE FAIL", "ended 0");
        Rig.leads("[1,2]", "PIPE EACH NONE", "ended 0");
        Rig.leads("[1,2]", "PIPE EACH BOTH SELF NULL", "1 null 2 null ended 0");
    }

    private static void both() {
        Rig.says("9 BOTH p q: the values of p, then those of q.");
        Rig.leads("[1,2]", "BOTH EACH SELF", "1 2 [1,2] ended 0");
        Rig.leads("[1,2]", "BOTH NONE BOTH NONE EACH", "1 2 ended 0");
        Rig.leads("[1,2]", "BOTH EACH NONE", "1 2 ended 0");
        Rig.leads("[1,2]", "BOTH NONE NONE", "ended 0");
        Rig.leads("[1,2]", "BOTH BOTH EACH FAIL SELF", "1 2 ended 1");
    }

    private static void elses() {
        Rig.says("10 ELSE p q: the values of p that are neither null nor false");
        Rig.leads("[null,1,false,2]", "ELSE EACH NUMBER 7", "1 2 ended 0");
        Rig.leads("[0,\"\",[],{},true]", "ELSE EACH NUMBER 7", "0 \"\" [] {} true ended 0");
        Rig.leads("[1,null,false]", "ELSE EACH FAIL", "1 ended 0");
    }

    private static void elseOfNone() {
        Rig.says("when there was none, those of q.");
        Rig.leads("[null,false]", "ELSE EACH NUMBER 7", "7 ended 0");
        Rig.leads("[null,false]", "ELSE EACH EACH", "null false ended 0");
        Rig.leads("1", "ELSE NONE SELF", "1 ended 0");
        Rig.leads("1", "ELSE NONE NONE", "ended 0");
        Rig.leads("1", "ELSE NULL FAIL", "ended 1");
        Rig.leads("1", "BOTH ELSE NULL NONE NUMBER 2", "2 ended 0");
    }

    private static void elseOfFailure() {
        Rig.says("(a failure of p is only its end, also behind some of them)");
        Rig.leads("1", "ELSE FAIL SELF", "1 ended 0");
        Rig.leads("1", "ELSE BOTH SELF FAIL NUMBER 7", "1 ended 0");
        Rig.leads("1", "ELSE BOTH NULL FAIL NUMBER 7", "7 ended 0");
        Rig.leads("1", "BOTH ELSE BOTH SELF FAIL FAIL NUMBER 2", "1 2 ended 0");
        Rig.leads("1", "PIPE ELSE SELF NUMBER 7 FAIL", "ended 1");
        Rig.leads("1", "ELSE PIPE ELSE SELF NUMBER 7 FAIL NUMBER 8", "8 ended 0");
        Rig.leads("1", "BOTH ELSE FAIL NONE NUMBER 2", "2 ended 0");
    }

    private static void ifs() {
        Rig.says("11 IF p q r: for each value of p, those of q from it, when that is neither null nor false, otherwise "
            + "those of r.");
        Rig.leads("[null,false,true,0,\"\",[],{}]", "IF EACH NUMBER 1 NUMBER 0", "0 0 1 1 1 1 1 ended 0");
        Rig.leads("[null,5]", "IF EACH SELF EACH", "null 5 [null,5] ended 0");
        Rig.leads("[1,2]", "IF EACH EACH FAIL", "1 2 1 2 ended 0");
        Rig.leads("[1,2]", "IF NOT FAIL EACH", "1 2 ended 0");
        Rig.leads("[1,null]", "IF EACH SELF FAIL", "[1,null] ended 1");
        Rig.leads("[1,null]", "IF NONE FAIL FAIL", "ended 0");
        Rig.leads("[1,null,2]", "IF EACH NONE NUMBER 3", "3 ended 0");
        Rig.leads("[1,null,2]", "IF EACH NUMBER 3 NONE", "3 3 ended 0");
    }

    private static void lists() {
        Rig.says("12 LIST p: a list of all values of p");
        Rig.leads("[1,2]", "LIST EACH", "[1,2] ended 0");
        Rig.leads("1", "LIST NONE", "[] ended 0");
        Rig.leads("1", "LIST BOTH SELF FAIL", "ended 1");
        Rig.leads("[1,2]", "PIPE EACH LIST BOTH SELF NULL", "[1,null] [2,null] ended 0");
        Rig.leads("[1,2]", "LIST BOTH LIST EACH LIST LIST BOTH SELF NULL", "[[1,2],[[[1,2],null]]] ended 0");
        Rig.leads(EIGHT, "PIPE LIST BOTH EACH EACH LENGTH", "16 ended 0");
    }

    private static void seventeenth() {
        Rig.says("(it fails as soon as a seventeenth comes, asking for no more)");
        Rig.runs(EIGHT, "LIST BOTH BOTH EACH EACH NONE", 50, "[1,2,3,4,5,6,7,8,1,2,3,4,5,6,7,8] ended 0 left 44");
        Rig.runs(EIGHT, "LIST BOTH BOTH EACH EACH NULL", 50, "ended 1 left 44");
        Rig.runs(EIGHT, "LIST BOTH BOTH EACH EACH BOTH NULL SELF", 50, "ended 1 left 43");
        Rig.runs(EIGHT, "LIST BOTH BOTH EACH EACH BOTH NULL FAIL", 7, "ended 1 left 0");
        Rig.runs(EIGHT, "LIST BOTH BOTH EACH EACH BOTH NULL FAIL", 6, "ended 2 left 0");
        Rig.runs(EIGHT, "TRY LIST BOTH BOTH EACH EACH EACH", 50, "ended 0 left 43");
        Rig.runs(EIGHT, "LIST BOTH BOTH EACH EACH FAIL", 50, "ended 1 left 44");
    }

    private static void tries() {
        Rig.says("13 TRY p: the values of p (a failure is only their end; want of fuel is none).");
        Rig.leads("1", "TRY FAIL", "ended 0");
        Rig.leads("1", "TRY SELF", "1 ended 0");
        Rig.leads("1", "TRY NONE", "ended 0");
        Rig.leads("1", "TRY BOTH NULL NOT", "null false ended 0");
        Rig.leads("1", "BOTH TRY BOTH NUMBER 2 FAIL NUMBER 3", "2 3 ended 0");
        Rig.leads("[[1],2,[3]]", "TRY PIPE EACH EACH", "1 ended 0");
        Rig.leads("[[1],2,[3]]", "PIPE EACH TRY EACH", "1 3 ended 0");
        Rig.leads("1", "PIPE TRY SELF FAIL", "ended 1");
        Rig.runs("1", "TRY SELF", 1, "ended 2 left 0");
        Rig.runs("1", "BOTH TRY BOTH SELF SELF NULL", 4, "1 ended 2 left 0");
    }

    private static void folds() {
        Rig.says("14 FOLD p q r: for each value of q a RESULT, which for each value of p becomes the last value of r from the "
            + "result, with that value as the ELEMENT");
        Rig.leads("[1,2,3]", "FOLD EACH NUMBER 0 ADD SELF ELEMENT", "6 ended 0");
        Rig.leads("[1,2,3]", "FOLD EACH EACH ADD SELF ELEMENT", "7 8 9 ended 0");
        Rig.leads("[1,2,3]", "FOLD EACH NUMBER 0 LIST SELF", "[[[0]]] ended 0");
        Rig.leads("[1,2,3]", "FOLD EACH NUMBER 0 BOTH LETTER x ADD SELF ELEMENT", "6 ended 0");
        Rig.leads("[1,2,3]", "FOLD EACH NUMBER 0 BOTH ADD SELF ELEMENT NULL", "null ended 0");
        Rig.leads("[1,2,3]", "FOLD EACH LIST NONE ADD SELF LIST ELEMENT", "[1,2,3] ended 0");
        Rig.leads("[1,2,3]", "FOLD EACH LIST NONE ADD LIST ELEMENT SELF", "[3,2,1] ended 0");
    }

    private static void foldWithoutValues() {
        Rig.says("null when there is none; then the result.");
        Rig.leads("[1,2,3]", "FOLD EACH NUMBER 0 NONE", "null ended 0");
        Rig.leads("[1,2,3]", "FOLD EACH NUMBER 0 IF EQUAL ELEMENT NUMBER 2 NONE LIST SELF", "[null] ended 0");
        Rig.leads("[1,2,3]", "FOLD NONE NUMBER 9 FAIL", "9 ended 0");
        Rig.leads("[1,2,3]", "FOLD NONE EACH FAIL", "1 2 3 ended 0");
        Rig.leads("[1,2,3]", "FOLD EACH NONE FAIL", "ended 0");
        Rig.leads("[1,2,3]", "FOLD FAIL NONE FAIL", "ended 0");
    }

    private static void foldsBegin() {
        Rig.says("(q is begun once; p anew from it for each of its values; r anew for each value of p, and asked for all "
            + "its values");
        Rig.runs("[1,2,3]", "FOLD EACH BOTH NUMBER 0 NUMBER 1 SELF", 50, "0 1 ended 0 left 38");
        Rig.runs("[1,2,3]", "FOLD EACH BOTH NUMBER 0 NUMBER 1 SELF", 8, "0 ended 2 left 0");
        Rig.runs("[1,2,3]", "FOLD EACH NULL BOTH SELF NONE", 50, "null ended 0 left 38");
        Rig.runs("[1,2,3]", "FOLD NULL EACH NONE", 50, "null null null ended 0 left 42");
    }

    private static void foldsFail() {
        Rig.says("when it fails behind some, FOLD fails.)");
        Rig.leads("[1,2,3]", "FOLD EACH NUMBER 0 BOTH ELEMENT FAIL", "ended 1");
        Rig.leads("[1,2,3]", "FOLD EACH NUMBER 0 IF EQUAL ELEMENT NUMBER 3 FAIL SELF", "ended 1");
        Rig.leads("[1,2,3]", "FOLD BOTH EACH FAIL NUMBER 0 ELEMENT", "ended 1");
        Rig.leads("[1,2,3]", "FOLD EACH BOTH NUMBER 5 FAIL ELEMENT", "3 ended 1");
        Rig.leads("[1,2,3]", "TRY FOLD EACH BOTH NUMBER 5 FAIL ELEMENT", "3 ended 0");
        Rig.leads("[1,2,3]", "FOLD EACH NUMBER 0 TRY BOTH ELEMENT FAIL", "3 ended 0");
    }

    private static void elements() {
        Rig.says("15 ELEMENT: the element of the innermost fold around it in whose r it stands (in p or q of a fold within, that "
            + "of the outer one)");
        Rig.leads("[1,2]", "FOLD EACH NULL FOLD NUMBER 7 NULL ELEMENT", "7 ended 0");
        Rig.leads("[1,2]", "FOLD EACH NULL FOLD ELEMENT NULL ELEMENT", "2 ended 0");
        Rig.leads("[1,2]", "FOLD EACH NULL FOLD NUMBER 7 ELEMENT SELF", "2 ended 0");
        Rig.leads("[1,2]", "FOLD EACH NULL FOLD BOTH ELEMENT NUMBER 7 ELEMENT LIST BOTH SELF ELEMENT", "[[2,2],7] ended 0");
        Rig.leads("[1,2]", "FOLD EACH NULL BOTH FOLD NUMBER 7 NULL ELEMENT ELEMENT", "2 ended 0");
        Rig.leads("[3]", "FOLD EACH NULL FOLD NUMBER 7 NULL LIST FOLD ELEMENT ELEMENT ADD ELEMENT SELF", "[14] ended 0");
        Rig.leads("[3]", "FOLD EACH NULL LIST FOLD BOTH ELEMENT NUMBER 7 BOTH LIST NONE LIST NONE ADD SELF LIST ELEMENT",
            "[[3,7],[3,7]] ended 0");
        for (String around : new String[] {"PIPE ELEMENT SELF", "PIPE NUMBER 9 ELEMENT", "BOTH ELEMENT NONE",
            "BOTH NONE ELEMENT",
            "ELSE ELEMENT NULL", "ELSE NULL ELEMENT", "IF ELEMENT ELEMENT NULL", "IF NULL NULL ELEMENT", "TRY ELEMENT",
            "PIPE LIST ELEMENT EACH", "PIPE PIPE NULL PUT a ELEMENT FIELD a", "ADD ELEMENT NULL", "ADD NULL ELEMENT"}) {
            Rig.leads("[1,2]", "FOLD EACH LIST NONE ADD SELF LIST " + around, "[1,2] ended 0");
        }
    }

    private static void noElement() {
        Rig.says("null when it stands in none.");
        Rig.leads("1", "ELEMENT", "null ended 0");
        Rig.leads("[1,2]", "FOLD ELEMENT NUMBER 5 ELEMENT", "null ended 0");
        Rig.leads("[1,2]", "FOLD EACH ELEMENT SELF", "null ended 0");
        Rig.leads("[1,2]", "BOTH FOLD EACH NULL ELEMENT ELEMENT", "2 null ended 0");
        Rig.leads("[1,2]", "FOLD BOTH ELEMENT NUMBER 7 BOTH LIST NONE LIST NONE ADD SELF LIST ELEMENT",
            "[null,7] [null,7] ended 0");
        Rig.leads("[1,2]", "FOLD NUMBER 7 BOTH ELEMENT ELEMENT SELF", "null null ended 0");
    }

    private static void puts() {
        Rig.says("16 PUT k p: for each value of p an object, it with that value as member k (at its place, or behind the "
            + "others)");
        Rig.leads(ONE_TWO, "PUT a NUMBER 9", "{\"a\":9,\"b\":2} ended 0");
        Rig.leads(ONE_TWO, "PUT b NUMBER 9", "{\"a\":1,\"b\":9} ended 0");
        Rig.leads(ONE_TWO, "PUT c EACH", "{\"a\":1,\"b\":2,\"c\":1} {\"a\":1,\"b\":2,\"c\":2} ended 0");
        Rig.leads(ONE_TWO, "PUT b NONE", "ended 0");
        Rig.leads(ONE_TWO, "PUT b BOTH NULL FAIL", "{\"a\":1,\"b\":null} ended 1");
        Rig.leads("{}", "PUT z SELF", "{\"z\":{}} ended 0");
        Rig.leads("{\"ab\":1,\"\":2}", "PUT a NULL", "{\"ab\":1,\"\":2,\"a\":null} ended 0");
        Rig.leads(ONE_TWO, "BOTH PUT a NULL SELF", "{\"a\":null,\"b\":2} {\"a\":1,\"b\":2} ended 0");
    }

    private static void putLooksFirst() {
        Rig.says("it must be an object or null (as without members), otherwise PUT fails (looked at before p).");
        Rig.leads("null", "PUT a NUMBER 1", "{\"a\":1} ended 0");
        Rig.leads("null", "PUT a SELF", "{\"a\":null} ended 0");
        for (String wrong : new String[] {"false", "true", "1", "\"a\"", "[1]", "[]"}) {
            Rig.runs(wrong, "PUT a NUMBER 1", 1, "ended 1 left 0");
            Rig.runs(wrong, "PUT a NONE", 9, "ended 1 left 8");
            Rig.runs(wrong, "PUT a FAIL", 9, "ended 1 left 8");
        }
        Rig.runs("null", "PUT a NONE", 9, "ended 0 left 7");
        Rig.runs("null", "PUT a NUMBER 1", 1, "ended 2 left 0");
    }

    private static void itIsWhatItWas() {
        Rig.says("In p of PIPE, IF, ELSE, BOTH, LIST, TRY, PUT, and of 22 to 26 in p and q, and in p and q of FOLD, it is "
            + "what it was.");
        Rig.leads("[5]", "PIPE SELF SELF", "[5] ended 0");
        Rig.leads("[5]", "PIPE EACH IF EQUAL SELF NUMBER 5 LETTER y LETTER n", "\"y\" ended 0");
        Rig.leads("[5]", "BOTH SELF SELF", "[5] [5] ended 0");
        Rig.leads("[5]", "ELSE SELF NULL", "[5] ended 0");
        Rig.leads("[5]", "ELSE NULL SELF", "[5] ended 0");
        Rig.leads("[5]", "LIST SELF", "[[5]] ended 0");
        Rig.leads("[5]", "TRY SELF", "[5] ended 0");
        Rig.leads("{}", "PUT a SELF", "{\"a\":{}} ended 0");
        for (String part : new String[] {"ADD", "SUBTRACT", "MULTIPLY"}) {
            String due = part.equals("ADD") ? "10" : part.equals("SUBTRACT") ? "0" : "25";
            Rig.leads("5", part + " SELF SELF", due + " ended 0");
        }
        Rig.leads("[1,2]", "ADD EACH LENGTH", "3 4 ended 0");
        Rig.leads("[1,2]", "EQUAL EACH LENGTH", "false true ended 0");
        Rig.leads("[1,2]", "LESS EACH LENGTH", "true false ended 0");
        Rig.leads("[5]", "FOLD SELF NULL ELEMENT", "[5] ended 0");
        Rig.leads("[5]", "FOLD NONE SELF NULL", "[5] ended 0");
        Rig.leads("[5,6]", "FOLD EACH EACH ADD SELF ELEMENT", "16 17 ended 0");
    }

    /** Twelve parts around a DEEP that goes seven values down. */
    private static void deepQueries() {
        Rig.says("or a part stands in more than 12 others.");
        String all = "[[[[[[[0]]]]]]] [[[[[[0]]]]]] [[[[[0]]]]] [[[[0]]]] [[[0]]] [[0]] [0] 0 ended 0";
        for (String around : new String[] {"TRY ", "PIPE SELF ", "BOTH NONE ", "ELSE NONE ", "IF SELF ", "IF NULL SELF "}) {
            String behind = around.equals("IF SELF ") ? " SELF".repeat(12) : "";
            Rig.leads(SEVEN_AROUND, around.repeat(12) + "DEEP" + behind, all);
        }
        Rig.leads(SEVEN_AROUND, "FOLD NULL SELF ".repeat(12) + "DEEP", "0 ended 0");
        Rig.leads(SEVEN_AROUND, "ADD NULL ".repeat(12) + "DEEP", all);
        Rig.leads("null", "PIPE NULL ".repeat(10) + "PUT a LIST NULL", "{\"a\":[null]} ended 0");
        Rig.leads("null", "TRY ".repeat(11) + "LIST NUMBER 1", "[1] ended 0");
    }

    private static void oneAfterTheOther() {
        Rig.says("A part leads from a value, IT, to values, in order");
        Rig.leads("null", "BOTH PUT a NULL PUT b NULL", "{\"a\":null} {\"b\":null} ended 0");
        Rig.leads("[1,2]", "PIPE EACH LIST SELF", "[1] [2] ended 0");
        Rig.leads("[[1,2],[3]]", "LIST PIPE EACH LIST EACH", "[[1,2],[3]] ended 0");
        Rig.leads("[1,2]", "PIPE BOTH EACH SELF BOTH SELF SELF", "1 1 2 2 [1,2] [1,2] ended 0");
    }
}
