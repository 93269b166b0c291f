/** Promises 11 to 13: what is told of a value. */
final class AnswerTest {
    private static final int[] NO_VALUES_OF_SEVEN = {7, 8, 15, 16, -2, -16, Integer.MIN_VALUE, Integer.MAX_VALUE};

    public static void main(String[] args) {
        kinds();
        kindOfNoValue();
        written();
        characters();
        howMany();
        writtenOfNoValue();
        noSuchCharacter();
        whichComesFirst();
        integers();
        integerOfNoValue();
        noInteger();
        sixteenValues();
        longTexts();
        Rig.end(AnswerTest.class);
    }

    /** A run with a value of each kind, in order. */
    private static Rig sevenKinds() {
        Rig rig = new Rig().document("[null,false,true,7,\"a\",[],{}]").query("EACH");
        rig.run(9);
        return rig;
    }

    private static void kinds() {
        Rig.says("The kind of value k of the latest run (k = -1: of the document): 0 null, 1 false, 2 true, 3 integer, 4 string, "
            + "5 list, 6 object.");
        Rig rig = sevenKinds();
        for (int k = 0; k < 7; k++) {
            Rig.check("kind of " + k, rig.machine.kind(k), k);
        }
        Rig.check("kind of the document", rig.machine.kind(-1), 5);
        for (int k = 0; k < 7; k++) {
            rig.machine.adopt(k);
            Rig.check("kind of the document", rig.machine.kind(-1), k);
        }
        Rig.check("a document without a run", new Rig().document("{}").machine.kind(-1), 6);
    }

    private static void kindOfNoValue() {
        Rig.says("5 list, 6 object. NoSuchElementException: there is none.");
        for (int k : NO_VALUES_OF_SEVEN) {
            Rig.check("kind(" + k + ")", Rig.thrown(() -> sevenKinds().machine.kind(k)), Rig.ELEMENT);
        }
    }

    private static void written() {
        Rig.says("WRITTEN: a value's text is as in a document without blanks.");
        for (String text : new String[] {"null", "false", "true", "0", "-1", "10", "100", "-120", "9223372036854775807",
            "-9223372036854775808", "1000000000000000000", "\"\"", "\"a b\"", "\"\\\"\\\\\"", "[]", "[1,2]", "{}",
            "{\"a\":[{\"\\\\\":\"\"}],\"b\":{}}", "{\"\\\"\":\" \"}"}) {
            Rig rig = new Rig().document(" " + text + " ").query("SELF");
            rig.run(1);
            Rig.check("the document written", rig.written(-1), text);
            Rig.check("the value written", rig.written(0), text);
        }
        Rig.check("without blanks", new Rig().document("[ 1 , { \"a b\" : [ ] , \"c\" : -0 } ]").written(-1),
            "[1,{\"a b\":[],\"c\":0}]");
    }

    private static void characters() {
        Rig.says("Character i of its text (k = -1: the document's), when it is written");
        Rig rig = new Rig().document("[1]").query("NUMBER -128");
        rig.run(1);
        Rig.check("the document's first", rig.machine.written(-1, 0), (int) '[');
        Rig.check("the document's last", rig.machine.written(-1, 2), (int) ']');
        Rig.check("the value's first", rig.machine.written(0, 0), (int) '-');
        Rig.check("the value's last", rig.machine.written(0, 3), (int) '8');
    }

    private static void howMany() {
        Rig.says("i = -1: how many there are.");
        Rig rig = sevenKinds();
        int[] dues = {4, 5, 4, 1, 3, 2, 2};
        for (int k = 0; k < 7; k++) {
            Rig.check("how many of " + k, rig.machine.written(k, -1), dues[k]);
        }
        Rig.check("how many of the document", rig.machine.written(-1, -1), 29);
    }

    private static void writtenOfNoValue() {
        Rig.says("NoSuchElementException: there is no such value; IndexOutOfBoundsException");
        for (int k : NO_VALUES_OF_SEVEN) {
            for (int i : new int[] {-1, 0}) {
                Rig.check("written(" + k + ", " + i + ")", Rig.thrown(() -> sevenKinds().machine.written(k, i)), Rig.ELEMENT);
            }
        }
    }

    private static void noSuchCharacter() {
        Rig.says("IndexOutOfBoundsException: no such character.");
        Rig rig = sevenKinds();
        int[] lengths = {29, 4, 5, 4, 1, 3, 2, 2};
        for (int k = -1; k < 7; k++) {
            int value = k;
            int length = lengths[k + 1];
            for (int i : new int[] {length, length + 1, -2, -3, 1000, Integer.MIN_VALUE, Integer.MAX_VALUE}) {
                Rig.check("written(" + k + ", " + i + ")", Rig.thrown(() -> rig.machine.written(value, i)), Rig.INDEX);
            }
            Rig.check("the last of " + k, Rig.thrown(() -> rig.machine.written(value, length - 1)), Rig.NOTHING_THROWN);
        }
    }

    private static void whichComesFirst() {
        Rig.says("NoSuchElementException: there is no such value; IndexOutOfBoundsException: no such character.");
        for (int k : NO_VALUES_OF_SEVEN) {
            for (int i : new int[] {-2, 1000}) {
                Rig.check("written(" + k + ", " + i + ")", Rig.thrown(() -> sevenKinds().machine.written(k, i)), Rig.ELEMENT);
            }
        }
    }

    private static void integers() {
        Rig.says("It (k = -1: the document) as an integer.");
        for (long number : new long[] {0, 1, -1, Long.MAX_VALUE, Long.MIN_VALUE, 1L << 32, -(1L << 31)}) {
            Rig rig = new Rig().document(String.valueOf(number));
            rig.run(1);
            Rig.check("of the document", rig.machine.integer(-1), number);
            Rig.check("of the value", rig.machine.integer(0), number);
        }
        Rig rig = new Rig().document("[1,2]").query("EACH");
        rig.run(9);
        rig.document("-5");
        Rig.check("the document", rig.machine.integer(-1), -5L);
        Rig.check("the run's stay", rig.machine.integer(1), 2L);
    }

    private static void integerOfNoValue() {
        Rig.says("NoSuchElementException: there is no such value; IllegalStateException");
        for (int k : NO_VALUES_OF_SEVEN) {
            Rig.check("integer(" + k + ")", Rig.thrown(() -> sevenKinds().machine.integer(k)), Rig.ELEMENT);
        }
    }

    private static void noInteger() {
        Rig.says("IllegalStateException: it is no integer.");
        Rig rig = sevenKinds();
        for (int k = -1; k < 7; k++) {
            int value = k;
            String due = k == 3 ? Rig.NOTHING_THROWN : Rig.STATE;
            Rig.check("integer(" + k + ")", Rig.thrown(() -> rig.machine.integer(value)), due);
        }
        Rig.check("a string of digits", Rig.thrown(() -> new Rig().document("\"1\"").machine.integer(-1)), Rig.STATE);
        Rig.check("null", Rig.thrown(() -> new QueryMachine().integer(-1)), Rig.STATE);
    }

    private static void sixteenValues() {
        Rig.says("The run's values are put out, at most 16.");
        Rig rig = new Rig().document("[0,1,2,3,4,5,6,7,8,9,10,11,12,13,14,15]").query("BOTH EACH NULL");
        rig.run(9);
        for (int k = 0; k < 16; k++) {
            Rig.check("integer(" + k + ")", rig.machine.integer(k), (long) k);
        }
        Rig.check("kind(16)", Rig.thrown(() -> rig.machine.kind(16)), Rig.ELEMENT);
        Rig.check("written(16, -1)", Rig.thrown(() -> rig.machine.written(16, -1)), Rig.ELEMENT);
        Rig.check("integer(16)", Rig.thrown(() -> rig.machine.integer(16)), Rig.ELEMENT);
        Rig.check("adopt(16)", Rig.thrown(() -> rig.machine.adopt(16)), Rig.ELEMENT);
    }

    /** A value may be far longer than a document's text. */
    private static void longTexts() {
        Rig.says("WRITTEN: a value's text is as in a document without blanks.");
        String string = "\"" + "\\\"".repeat(24) + "\"";
        Rig rig = new Rig().document(string).query("LIST BOTH SELF BOTH SELF BOTH SELF SELF");
        rig.machine.run(99);
        rig.machine.adopt(0);
        rig.machine.run(99);
        rig.machine.adopt(0);
        rig.machine.run(99);
        String four = "[" + string + "," + string + "," + string + "," + string + "]";
        String sixteen = "[" + four + "," + four + "," + four + "," + four + "]";
        String due = "[" + sixteen + "," + sixteen + "," + sixteen + "," + sixteen + "]";
        rig.checkWritten(0, due, 0, 100);
        rig.checkWritten(0, due, due.length() - 100, 120);
        rig.checkWritten(-1, sixteen, sixteen.length() - 100, 120);
    }
}
