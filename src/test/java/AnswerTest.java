/** Promises 11 to 13: what is told of a value. */
final class AnswerTest {
    public static void main(String[] args) {
        kinds();
        written();
        characters();
        integers();
        longTexts();
        Rig.end(AnswerTest.class);
    }

    private static void kinds() {
        Rig rig = new Rig().document("[null,false,true,7,\"a\",[],{}]").query("EACH");
        rig.run(9);
        for (int k = 0; k < 7; k++) {
            Rig.check("kind of " + k, rig.machine.kind(k), k);
        }
        Rig.check("kind of the document", rig.machine.kind(-1), 5);
        for (int k : new int[] {7, 16, -2, Integer.MIN_VALUE, Integer.MAX_VALUE}) {
            Rig.check("kind(" + k + ")", Rig.thrown(() -> rig.machine.kind(k)), Rig.ELEMENT);
            Rig.check("written(" + k + ", 0)", Rig.thrown(() -> rig.machine.written(k, 0)), Rig.ELEMENT);
            Rig.check("written(" + k + ", -1)", Rig.thrown(() -> rig.machine.written(k, -1)), Rig.ELEMENT);
            Rig.check("written(" + k + ", -2)", Rig.thrown(() -> rig.machine.written(k, -2)), Rig.ELEMENT);
            Rig.check("integer(" + k + ")", Rig.thrown(() -> rig.machine.integer(k)), Rig.ELEMENT);
        }
        Rig fresh = new Rig().document("{}");
        Rig.check("a document without a run", fresh.machine.kind(-1), 6);
    }

    private static void written() {
        for (String text : new String[] {"null", "false", "true", "0", "-1", "10", "100", "-120", "9223372036854775807",
            "-9223372036854775808", "\"\"", "\"a b\"", "\"\\\"\\\\\"", "[]", "[1,2]", "{}", "{\"a\":[{\"\\\\\":\"\"}],\"b\":{}}"}) {
            Rig rig = new Rig().document(" " + text + " ").query("SELF");
            rig.run(1);
            Rig.check("the document written", rig.written(-1), text);
            Rig.check("the value written", rig.written(0), text);
        }
    }

    private static void characters() {
        Rig rig = new Rig().document("[1]");
        rig.run(1);
        for (int k = -1; k <= 0; k++) {
            int value = k;
            Rig.check("how many", rig.machine.written(k, -1), 3);
            Rig.check("the first", rig.machine.written(k, 0), (int) '[');
            Rig.check("the last", rig.machine.written(k, 2), (int) ']');
            for (int i : new int[] {3, 4, -2, Integer.MIN_VALUE, Integer.MAX_VALUE}) {
                Rig.check("character " + i, Rig.thrown(() -> rig.machine.written(value, i)), Rig.INDEX);
            }
        }
    }

    private static void integers() {
        Rig rig = new Rig().document("[null,false,true,\"1\",[1],{},-5]").query("EACH");
        rig.run(9);
        for (int k = 0; k < 6; k++) {
            int value = k;
            Rig.check("integer of " + k, Rig.thrown(() -> rig.machine.integer(value)), Rig.STATE);
        }
        Rig.check("integer", rig.machine.integer(6), -5L);
        Rig.check("of the document", Rig.thrown(() -> rig.machine.integer(-1)), Rig.STATE);
        rig.document("-9223372036854775808");
        Rig.check("the least", rig.machine.integer(-1), Long.MIN_VALUE);
        Rig.check("the run's stays", rig.machine.integer(6), -5L);
    }

    /** A value may be far longer than a document's text. */
    private static void longTexts() {
        String string = "\"" + "\\\"".repeat(24) + "\"";
        Rig rig = new Rig().document(string).query("LIST BOTH SELF BOTH SELF BOTH SELF SELF");
        rig.run(99);
        rig.machine.adopt(0);
        rig.run(99);
        rig.machine.adopt(0);
        rig.run(99);
        String four = "[" + string + "," + string + "," + string + "," + string + "]";
        String sixteen = "[" + four + "," + four + "," + four + "," + four + "]";
        String due = "[" + sixteen + "," + sixteen + "," + sixteen + "," + sixteen + "]";
        Rig.check("85 values", rig.written(0), due);
        Rig.check("its document", rig.written(-1), sixteen);
    }
}
