/** Promise 7: what would be longer than said, have a value in more than 7 others, or more than 100 values in it, fails. */
final class LimitTest {
    private static final String TWELVE_LETTERS = "\"abcdefghijkl\"";
    private static final String EIGHT = "[1,2,3,4,5,6,7,8]";
    private static final String SIXTEEN_MEMBERS = "{\"a\":0,\"b\":0,\"c\":0,\"d\":0,\"e\":0,\"f\":0,\"g\":0,\"h\":0,"
        + "\"i\":0,\"j\":0,\"k\":0,\"l\":0,\"m\":0,\"n\":0,\"o\":0,\"p\":0}";
    private static final String SEVEN_AROUND = "[[[[[[[0]]]]]]]";
    private static final String SIX_AROUND = "[[[[[[0]]]]]]";
    /** Ten values in it, eleven with itself. */
    private static final String ELEVEN = "[1,2,3,4,5,6,7,8,9,10]";
    private static final String TWELVE = "[1,2,3,4,5,6,7,8,9,10,11]";
    /** Thirteen values in it, fourteen with itself. */
    private static final String FOURTEEN = "[1,2,3,4,5,6,7,8,9,10,11,12,13]";

    public static void main(String[] args) {
        longStrings();
        longLists();
        longObjects();
        deepLists();
        deepObjects();
        deepSums();
        hundredInLists();
        hundredInSums();
        hundredInPuts();
        hundredInSumsOfObjects();
        keysAreNotCounted();
        failsWithAllFuelPaid();
        whatFailsMayBeTried();
        Rig.end(LimitTest.class);
    }

    /** The part n times in BOTHs, none of which stands in more others than it must. */
    private static String times(int n, String part) {
        return n == 1 ? part + " " : "BOTH " + times(n / 2, part) + times(n - n / 2, part);
    }

    private static void longStrings() {
        Rig.says("STRINGs of at most 24 characters");
        Rig.leads(TWELVE_LETTERS, "ADD SELF SELF", "\"abcdefghijklabcdefghijkl\" ended 0");
        Rig.leads(TWELVE_LETTERS, "PIPE ADD SELF SELF ADD SELF LETTER a", "ended 1");
        Rig.leads(TWELVE_LETTERS, "PIPE ADD SELF SELF ADD LETTER a SELF", "ended 1");
        Rig.leads(TWELVE_LETTERS, "PIPE ADD SELF SELF ADD SELF SELF", "ended 1");
        Rig.leads("[\"" + "\\\"".repeat(12) + "\",\"\"]", "PIPE ITEM 0 PIPE ADD SELF SELF LENGTH", "24 ended 0");
        Rig.leads("[\"abcdefghijklmnopqrstuvwx\",\"\"]", "ADD ITEM 0 ITEM 1", "\"abcdefghijklmnopqrstuvwx\" ended 0");
    }

    private static void longLists() {
        Rig.says("LISTs of at most 16 values");
        Rig.leads(EIGHT, "PIPE ADD SELF SELF LENGTH", "16 ended 0");
        Rig.leads(EIGHT, "ADD SELF ADD SELF LIST NULL", "ended 1");
        Rig.leads(EIGHT, "ADD LIST NULL ADD SELF SELF", "ended 1");
        Rig.leads(EIGHT, "PIPE ADD SELF SELF ADD SELF SELF", "ended 1");
        Rig.leads(EIGHT, "PIPE ADD SELF SELF PIPE ADD SELF LIST NONE LENGTH", "16 ended 0");
        Rig.leads("null", "PIPE LIST " + times(16, "SELF") + "LENGTH", "16 ended 0");
        Rig.leads("null", "LIST " + times(17, "SELF"), "ended 1");
    }

    private static void longObjects() {
        Rig.says("OBJECTs of at most 16 MEMBERS, each a KEY (a string, no two the same) and a value");
        Rig.leads(SIXTEEN_MEMBERS, "PUT q NULL", "ended 1");
        Rig.leads(SIXTEEN_MEMBERS, "PIPE PUT p LETTER x FIELD p", "\"x\" ended 0");
        Rig.leads(SIXTEEN_MEMBERS, "PIPE PUT a LETTER x LENGTH", "16 ended 0");
        Rig.leads(SIXTEEN_MEMBERS, "PIPE ADD SELF PIPE NULL PUT p NUMBER 7 FIELD p", "7 ended 0");
        Rig.leads(SIXTEEN_MEMBERS, "PIPE ADD SELF SELF LENGTH", "16 ended 0");
        Rig.leads(SIXTEEN_MEMBERS, "ADD SELF PIPE NULL PUT q NULL", "ended 1");
        Rig.leads(SIXTEEN_MEMBERS, "ADD PIPE NULL PUT q NULL SELF", "ended 1");
        String fifteen = SIXTEEN_MEMBERS.replace(",\"p\":0", "");
        Rig.leads(fifteen, "PIPE PUT q NULL LENGTH", "16 ended 0");
        Rig.leads(fifteen, "PIPE ADD SELF PIPE NULL PUT q NULL LENGTH", "16 ended 0");
        Rig.leads(fifteen, "PIPE PUT q NULL PUT r NULL", "ended 1");
        Rig.leads(fifteen, "ADD SELF PIPE PIPE NULL PUT q NULL PUT r NULL", "ended 1");
    }

    private static void deepLists() {
        Rig.says("or have a value in more than 7 others");
        Rig.leads(SIX_AROUND, "LIST SELF", SEVEN_AROUND + " ended 0");
        Rig.leads(SEVEN_AROUND, "LIST SELF", "ended 1");
        Rig.leads("[[[[[[[]]]]]]]", "LIST SELF", "[[[[[[[[]]]]]]]] ended 0");
        Rig.leads("[[[[[[[[]]]]]]]]", "LIST SELF", "ended 1");
        Rig.leads(SEVEN_AROUND, "LIST BOTH NULL SELF", "ended 1");
        Rig.leads(SEVEN_AROUND, "LIST BOTH SELF NULL", "ended 1");
        Rig.leads("null", "LIST ".repeat(7) + "SELF", "[[[[[[[null]]]]]]] ended 0");
        Rig.leads("null", "LIST ".repeat(8) + "SELF", "ended 1");
        Rig.leads("null", "LIST ".repeat(8) + "NONE", "[[[[[[[[]]]]]]]] ended 0");
        Rig.leads("null", "LIST ".repeat(9) + "NONE", "ended 1");
    }

    private static void deepObjects() {
        Rig.says("or have a value in more than 7 others");
        Rig.leads("null", "PUT a ".repeat(7) + "NULL", "{\"a\":".repeat(7) + "null" + "}".repeat(7) + " ended 0");
        Rig.leads("null", "PUT a ".repeat(8) + "NULL", "ended 1");
        Rig.leads(SIX_AROUND, "FOLD SELF NULL PUT a ELEMENT", "{\"a\":" + SIX_AROUND + "} ended 0");
        Rig.leads(SEVEN_AROUND, "FOLD SELF NULL PUT a ELEMENT", "ended 1");
        Rig.leads("{\"a\":[[[[[[0]]]]]],\"b\":0}", "BOTH PUT b NULL PUT b SELF",
            "{\"a\":[[[[[[0]]]]]],\"b\":null} ended 1");
        Rig.leads("{\"a\":[[[[[[0]]]]]]}", "PUT a LIST FIELD a", "ended 1");
        Rig.leads("{\"a\":[[[[[[0]]]]]]}", "PUT a PIPE FIELD a ITEM 0", "{\"a\":[[[[[0]]]]]} ended 0");
    }

    private static void deepSums() {
        Rig.says("or have a value in more than 7 others");
        Rig.leads(SEVEN_AROUND, "ADD SELF SELF", "[[[[[[[0]]]]]],[[[[[[0]]]]]]] ended 0");
        Rig.leads(SEVEN_AROUND, "ADD SELF LIST NULL", "[[[[[[[0]]]]]],null] ended 0");
        Rig.leads("{\"a\":[[[[[[0]]]]]]}", "ADD SELF PIPE NULL PUT b NULL", "{\"a\":[[[[[[0]]]]]],\"b\":null} ended 0");
    }

    private static void hundredInLists() {
        Rig.says("or more than 100 values in it (itself counted), fails.");
        Rig.leads(ELEVEN, "PIPE LIST " + times(9, "SELF") + "LENGTH", "9 ended 0");
        Rig.leads(ELEVEN, "LIST BOTH NULL " + times(9, "SELF"), "ended 1");
        Rig.leads(ELEVEN, "LIST BOTH " + times(9, "SELF") + "NULL", "ended 1");
        Rig.leads(ELEVEN, "LIST LIST " + times(9, "SELF"), "ended 1");
        Rig.leads(ELEVEN, "LIST " + times(10, "SELF"), "ended 1");
        Rig.leads(FOURTEEN, "PIPE LIST LIST " + times(7, "SELF") + "LENGTH", "1 ended 0");
        Rig.leads(FOURTEEN, "LIST LIST BOTH " + times(7, "SELF") + "NULL", "ended 1");
    }

    private static void hundredInSums() {
        Rig.says("or more than 100 values in it (itself counted), fails.");
        String hundred = "PIPE LIST " + times(9, "SELF");
        Rig.leads(ELEVEN, hundred + "PIPE ADD SELF LIST NONE LENGTH", "9 ended 0");
        Rig.leads(ELEVEN, hundred + "ADD SELF LIST NULL", "ended 1");
        Rig.leads(ELEVEN, hundred + "ADD LIST NULL SELF", "ended 1");
        Rig.leads(ELEVEN, hundred + "PIPE ADD NULL SELF LENGTH", "9 ended 0");
        String ninetyNine = "PIPE LIST " + times(7, "SELF");
        Rig.leads(FOURTEEN, ninetyNine + "PIPE ADD SELF LIST NULL LENGTH", "8 ended 0");
        Rig.leads(FOURTEEN, ninetyNine + "ADD SELF LIST BOTH NULL NULL", "ended 1");
        Rig.leads(FOURTEEN, ninetyNine + "ADD SELF LIST LIST NULL", "ended 1");
    }

    private static void hundredInPuts() {
        Rig.says("or more than 100 values in it (itself counted), fails.");
        String ninetyNine = "FOLD LIST " + times(7, "SELF");
        String hundred = "FOLD LIST BOTH " + times(7, "SELF") + "NULL ";
        Rig.leads(FOURTEEN, "PIPE " + ninetyNine + "NULL PUT a ELEMENT LENGTH", "1 ended 0");
        Rig.leads(FOURTEEN, hundred + "NULL PUT a ELEMENT", "ended 1");
        Rig.leads(FOURTEEN, "PIPE " + ninetyNine + "NULL PUT a ELEMENT PIPE PUT a NULL LENGTH", "1 ended 0");
        Rig.leads(FOURTEEN, "PIPE " + ninetyNine + "NULL PUT a ELEMENT PIPE PUT a FIELD a LENGTH", "1 ended 0");
        Rig.leads(FOURTEEN, "PIPE " + ninetyNine + "NULL PUT a ELEMENT PUT b NULL", "ended 1");
    }

    private static void hundredInSumsOfObjects() {
        Rig.says("or more than 100 values in it (itself counted), fails.");
        String hundred = "PIPE FOLD LIST " + times(7, "SELF") + "NULL PUT a ELEMENT ";
        Rig.leads(FOURTEEN, hundred + "PIPE ADD SELF PIPE NULL PUT a NULL LENGTH", "1 ended 0");
        Rig.leads(FOURTEEN, hundred + "PIPE ADD SELF SELF LENGTH", "1 ended 0");
        Rig.leads(FOURTEEN, hundred + "ADD SELF PIPE NULL PUT b NULL", "ended 1");
        Rig.leads(FOURTEEN, hundred + "ADD PIPE NULL PUT b NULL SELF", "ended 1");
        String ninetyEight = "PIPE FOLD LIST " + times(8, "SELF") + "NULL PUT a ELEMENT ";
        Rig.leads(TWELVE, ninetyEight + "PIPE ADD SELF PIPE PIPE NULL PUT b NULL PUT c NULL LENGTH", "3 ended 0");
        Rig.leads(TWELVE, ninetyEight + "ADD SELF PIPE NULL PUT b LIST BOTH NULL NULL", "ended 1");
    }

    private static void keysAreNotCounted() {
        Rig.says("each a KEY (a string, no two the same) and a value");
        String small = "{\"a\":1,\"b\":2,\"c\":3,\"d\":4,\"e\":5,\"f\":6,\"g\":7,\"h\":8,\"i\":9,\"j\":10}";
        Rig.leads(small, "PIPE LIST " + times(9, "SELF") + "LENGTH", "9 ended 0");
        Rig.leads(small, "LIST BOTH NULL " + times(9, "SELF"), "ended 1");
    }

    private static void failsWithAllFuelPaid() {
        Rig.says("What would be longer than said, or have a value in more than 7 others, or more than 100 values in it (itself "
            + "counted), fails.");
        Rig.runs(TWELVE_LETTERS, "PIPE ADD SELF SELF ADD SELF LETTER a", 9, "ended 1 left 0");
        Rig.runs(EIGHT, "PIPE ADD SELF SELF ADD SELF SELF", 9, "ended 1 left 0");
        Rig.runs(SIXTEEN_MEMBERS, "PUT q NULL", 9, "ended 1 left 6");
        Rig.runs(SEVEN_AROUND, "LIST SELF", 9, "ended 1 left 7");
        Rig.runs(SEVEN_AROUND, "LIST BOTH SELF NULL", 9, "ended 1 left 5");
        Rig.runs(SEVEN_AROUND, "LIST BOTH SELF NULL", 3, "ended 2 left 0");
        Rig.runs(ELEVEN, "LIST BOTH " + times(10, "SELF") + "NULL", 50, "ended 1 left 28");
    }

    private static void whatFailsMayBeTried() {
        Rig.says("a part fails when a part with which it goes on fails (but for p of ELSE and TRY)");
        Rig.leads(SEVEN_AROUND, "BOTH TRY LIST SELF NULL", "null ended 0");
        Rig.leads(SEVEN_AROUND, "ELSE LIST SELF NUMBER 1", "1 ended 0");
        Rig.leads(TWELVE_LETTERS, "ELSE PIPE ADD SELF SELF ADD SELF LETTER a NUMBER 1", "1 ended 0");
        Rig.leads(SIXTEEN_MEMBERS, "ELSE PUT q NULL NUMBER 1", "1 ended 0");
        Rig.leads(ELEVEN, "ELSE LIST " + times(10, "SELF") + "NUMBER 1", "1 ended 0");
    }
}
