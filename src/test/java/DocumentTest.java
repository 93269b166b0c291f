/** Promises 3 and 4. */
final class DocumentTest {
    public static void main(String[] args) {
        goodDocuments();
        goodAtTheLimits();
        wrongSigns();
        wrongEnds();
        wrongIntegers();
        wrongStrings();
        tooManyItems();
        tooDeep();
        whatStays();
        Rig.end(DocumentTest.class);
    }

    private static void reads(String text, String due) {
        Rig rig = new Rig().document("[1]").document(text);
        Rig.check("read " + text, rig.written(-1), due);
        Rig.check("bad behind " + text, rig.machine.bad(), -1);
    }

    private static void reads(String text) {
        reads(text, text);
    }

    private static void refuses(String text, int place) {
        Rig rig = new Rig().document("[1]").text(text);
        Rig.check("document of " + text, Rig.thrown(rig.machine::document), Rig.ARGUMENT);
        Rig.check("bad in " + text, rig.machine.bad(), place);
        Rig.check("document stays behind " + text, rig.written(-1), "[1]");
    }

    private static void goodDocuments() {
        for (String text : new String[] {"null", "false", "true", "0", "7", "-7", "1203", "\"\"", "\"a b\"", "[]", "{}",
            "[1,[2,[]],{}]", "{\"a\":{\"b c\":[null]},\"\":false}", "\"\\\"\\\\\"", "\"[{,:}]0\"", "{\"\\\"\":1}"}) {
            reads(text);
        }
        reads("-0", "0");
        reads("  null  ", "null");
        reads(" [ 1 , { \"a\" : true , \"b\" : [ ] } , { } ] ", "[1,{\"a\":true,\"b\":[]},{}]");
        reads("{\"a\":1,\"b\":2,\"a\":3,\"c\":4,\"b\":5}", "{\"a\":3,\"b\":5,\"c\":4}");
        reads("{\"a\":1,\"A\":2}");
        reads("[\"~\",\"/\",\"!\"]");
    }

    private static void goodAtTheLimits() {
        reads("9223372036854775807");
        reads("-9223372036854775808");
        reads("\"abcdefghijklmnopqrstuvwx\"");
        reads("\"" + "\\\"".repeat(24) + "\"");
        reads("{\"abcdefghijklmnopqrstuvwx\":1}");
        reads("[" + "0,".repeat(15) + "0]");
        reads("{" + "\"a\":1,".repeat(15) + "\"a\":2}", "{\"a\":2}");
        reads("[[[[[[[0]]]]]]]");
        reads("[[[[[[[[]]]]]]]]");
        reads("{\"a\":".repeat(7) + "{}" + "}".repeat(7));
        reads("[[[[[[[0,1],2],3],4],5],6],[[[[[[7]]]]]]]");
        reads("\"" + " ".repeat(24) + "\"" + " ".repeat(94), "\"" + " ".repeat(24) + "\"");
    }

    private static void wrongSigns() {
        refuses("x", 0);
        refuses("]", 0);
        refuses("nulL", 3);
        refuses(" tru ", 4);
        refuses("falsee", 5);
        refuses("n ull", 1);
        refuses("null null", 5);
        refuses("1 2", 2);
        refuses("[1 2]", 3);
        refuses("[,1]", 1);
        refuses("[1,]", 3);
        refuses("[1,,2]", 3);
        refuses("[1}", 2);
        refuses("{1:2}", 1);
        refuses("{\"a\" 1}", 5);
        refuses("{\"a\",1}", 4);
        refuses("{\"a\":}", 5);
        refuses("{\"a\":1,}", 7);
        refuses("{\"a\":1 \"b\":2}", 7);
        refuses("{,}", 1);
        refuses("{\"a\":1]", 6);
        refuses("[] ]", 3);
        refuses("+1", 0);
        refuses("'a'", 0);
    }

    private static void wrongEnds() {
        refuses("", 0);
        refuses("     ", 5);
        refuses("[", 1);
        refuses("[ ", 2);
        refuses("[1", 2);
        refuses("[1,", 3);
        refuses("{", 1);
        refuses("{\"a", 3);
        refuses("{\"a\"", 4);
        refuses("{\"a\":", 5);
        refuses("{\"a\":1", 6);
        refuses("{\"a\":1, ", 8);
        refuses("\"", 1);
        refuses("\"abc", 4);
        refuses("\"abc\\", 5);
        refuses("\"abc\\\"", 6);
        refuses("nul", 3);
        refuses("-", 1);
        refuses("[[[[[[[[", 8);
        refuses(" ".repeat(119) + "[", 120);
    }

    private static void wrongIntegers() {
        refuses("01", 1);
        refuses("00", 1);
        refuses("-01", 2);
        refuses("- 1", 1);
        refuses("--1", 1);
        refuses("-x", 1);
        refuses("1.5", 1);
        refuses("12e3", 2);
        refuses("0.5", 1);
        refuses("0e1", 1);
        refuses("1-", 1);
        refuses("9223372036854775808", 18);
        refuses("-9223372036854775809", 19);
        refuses("9223372036854775810", 18);
        refuses("99999999999999999999", 18);
        refuses("10000000000000000000", 19);
        refuses("[ -10000000000000000000]", 22);
        refuses("92233720368547758070", 19);
    }

    private static void wrongStrings() {
        refuses("\"abcdefghijklmnopqrstuvwxy\"", 25);
        refuses("\"abcdefghijklmnopqrstuvwx\\\"\"", 26);
        refuses("\"abcdefghijklmnopqrstuvwx\\y\"", 26);
        refuses("\"abcdefghijklmnopqrstuvwx\\", 26);
        refuses("\"abcdefghijklmnopqrstuvwx", 25);
        refuses("{\"abcdefghijklmnopqrstuvwxy\":1}", 26);
        refuses("\"\\x\"", 2);
        refuses("\"\\n\"", 2);
        refuses("\"\\/\"", 2);
        refuses("\"" + "\\\\".repeat(25) + "\"", 50);
    }

    private static void tooManyItems() {
        String sixteen = "0,".repeat(15) + "0";
        refuses("[" + sixteen + ",0]", 32);
        refuses("[" + sixteen + " , 0]", 33);
        refuses("[" + sixteen + "x", 32);
        refuses("[" + sixteen, 32);
        refuses("[[" + sixteen + ",", 33);
        refuses("{" + "\"a\":1,".repeat(16) + "\"a\":2}", 96);
        refuses("{" + "\"\":1,".repeat(16) + "}", 80);
    }

    private static void tooDeep() {
        refuses("[[[[[[[[0]]]]]]]]", 8);
        refuses("[[[[[[[[ 0]]]]]]]]", 9);
        refuses("[[[[[[[[[]]]]]]]]]", 8);
        refuses("[[[[[[[[null]]]]]]]]", 8);
        refuses("[[[[[[[[x", 8);
        refuses("{\"a\":".repeat(8) + "1" + "}".repeat(8), 40);
        refuses("[[[[[[[{\"a\":1", 12);
        refuses("[[[[[[[{\"a\"1", 11);
    }

    private static void whatStays() {
        Rig rig = new Rig().document("[1]");
        rig.text("[2");
        Rig.check("bad text", Rig.thrown(rig.machine::document), Rig.ARGUMENT);
        Rig.check("its place", rig.machine.bad(), 2);
        rig.text("]");
        Rig.check("the place stays while text comes", rig.machine.bad(), 2);
        Rig.check("the text was empty again", Rig.thrown(rig.machine::document), Rig.ARGUMENT);
        Rig.check("place in the new text", rig.machine.bad(), 0);
        rig.document("3");
        Rig.check("not bad", rig.machine.bad(), -1);
        Rig.check("the new document", rig.written(-1), "3");
        Rig.check("no text left", Rig.thrown(rig.machine::document), Rig.ARGUMENT);
        rig.run(9);
        Rig.check("a run leaves the place", rig.machine.bad(), 0);
        rig.machine.adopt(0);
        Rig.check("so does adopt", rig.machine.bad(), 0);
    }
}
