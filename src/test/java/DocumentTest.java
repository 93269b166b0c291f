/** What a document is, and promises 3 and 4. */
final class DocumentTest {
    private static final String TWENTY_FOUR = "abcdefghijklmnopqrstuvwx";
    private static final String SIXTEEN = "0,".repeat(15) + "0";
    private static final String SIXTEEN_MEMBERS = "\"a\":1,".repeat(15) + "\"a\":1";

    public static void main(String[] args) {
        length();
        blanks();
        words();
        integers();
        digits();
        strings();
        lists();
        objects();
        keysAgain();
        sevenAround();
        longest();
        Rig.end(DocumentTest.class);
    }

    private static void reads(String text, String due) {
        Rig rig = new Rig().document("[1]").document(text);
        Rig.check("read " + text, rig.written(-1), due);
        Rig.check("bad behind " + text, rig.machine.bad(), -1);
    }

    private static void reads(String text) {
        reads(text, text);
    }

    private static void length() {
        Rig.says("THE DOCUMENT is a text of at most 120 characters (32 .. 126)");
        String string = "\"" + TWENTY_FOUR + "\"";
        String text = "[" + (string + ",").repeat(4) + "\"abcdefgh\"]";
        Rig.check("how long it is", text.length(), 120);
        reads(text);
        reads(" ".repeat(119) + "7", "7");
        reads("7" + " ".repeat(119), "7");
        reads("7");
    }

    private static void blanks() {
        Rig.says("a value with BLANKS (32) before, behind and between its signs");
        for (String value : new String[] {"null", "false", "true", "-12", "0", "\" a \"", "[]", "{}"}) {
            reads(" " + value, value);
            reads(value + " ", value);
            reads("   " + value + "   ", value);
        }
        reads(" [ 1 , { \"a\" : true , \"b\" : [ ] } , { } ] ", "[1,{\"a\":true,\"b\":[]},{}]");
        reads("  [  1  ,  2  ]  ", "[1,2]");
        reads("  {  \"a\"  :  1  ,  \"b\"  :  2  }  ", "{\"a\":1,\"b\":2}");
        reads("\"" + " ".repeat(24) + "\"" + " ".repeat(94), "\"" + " ".repeat(24) + "\"");
    }

    private static void words() {
        Rig.says("null, false, true; an integer");
        for (String word : new String[] {"null", "false", "true"}) {
            reads(word);
            reads("[" + word + "," + word + "]");
        }
    }

    private static void integers() {
        Rig.says("an integer from -2^63 to 2^63 - 1");
        for (String text : new String[] {"1", "9", "10", "-1", "-9", "-10", "1203", "9223372036854775807",
            "9223372036854775806", "-9223372036854775808", "-9223372036854775807", "1000000000000000000",
            "-1000000000000000000", "999999999999999999", "922337203685477580", "-922337203685477580"}) {
            reads(text);
            Rig.check("its number", new Rig().document(text).machine.integer(-1), Long.parseLong(text));
        }
    }

    private static void digits() {
        Rig.says("- or nothing, then 0, or digits of which the first is not 0");
        reads("0");
        reads("-0", "0");
        Rig.check("no sign on it", new Rig().document("-0").machine.integer(-1), 0L);
        reads("[0,-0]", "[0,0]");
        reads("1234567890");
        reads("-1000");
    }

    private static void strings() {
        Rig.says("a string: \", characters other than \" and \\, or \\\" or \\\\ for these two, \"");
        reads("\"\"");
        for (char c = 32; c < 127; c++) {
            reads(c == '"' || c == '\\' ? "\"\\" + c + "\"" : "\"" + c + "\"");
        }
        reads("\"[{,:}]0\"");
        reads("\"\\\"\\\\\\\"\"");
        reads("[\"\\\\\",\"\\\"\"]");
        reads("{\"\\\"\":1,\"\\\\\":2}");
    }

    private static void lists() {
        Rig.says("a list: [ and ], with values between, and a comma between each two");
        for (String text : new String[] {"[]", "[1]", "[1,2]", "[[]]", "[[],[]]", "[1,[2,[]],{}]", "[null,\"\",false]"}) {
            reads(text);
        }
    }

    private static void objects() {
        Rig.says("an object: { and }, likewise with members: a string, a colon, a value.");
        for (String text : new String[] {"{}", "{\"a\":1}", "{\"\":{}}", "{\"a\":{\"b c\":[null]},\"\":false}",
            "{\"a\":1,\"A\":2}", "{\"ab\":1,\"a\":2,\"b\":3}"}) {
            reads(text);
        }
    }

    private static void keysAgain() {
        Rig.says("(A key that comes again: its member stays at its place, with the later value.)");
        reads("{\"a\":1,\"b\":2,\"a\":3,\"c\":4,\"b\":5}", "{\"a\":3,\"b\":5,\"c\":4}");
        reads("{\"a\":1,\"a\":2,\"a\":3}", "{\"a\":3}");
        reads("{\"\":1,\"\":2}", "{\"\":2}");
        reads("{\"a\":[1],\"b\":{\"a\":1,\"a\":2},\"a\":null}", "{\"a\":null,\"b\":{\"a\":2}}");
        reads("{\"\\\"\":1,\"\\\\\":2,\"\\\"\":3}", "{\"\\\"\":3,\"\\\\\":2}");
    }

    private static void sevenAround() {
        Rig.says("No value stands in more than 7 others");
        reads("[[[[[[[0]]]]]]]");
        reads("[[[[[[[[]]]]]]]]");
        reads("[[[[[[[{}]]]]]]]");
        reads("[[[[[[[\"a\",null]]]]]]]");
        reads("{\"a\":".repeat(7) + "1" + "}".repeat(7));
        reads("{\"a\":".repeat(7) + "{}" + "}".repeat(7));
        reads("[[[[[[[0,1],2],3],4],5],6],[[[[[[7]]]]]]]");
    }

    private static void longest() {
        Rig.says("strings, lists and objects are not longer than said (members are counted before keys are found the same).");
        reads("\"" + TWENTY_FOUR + "\"");
        reads("\"" + "\\\"".repeat(24) + "\"");
        reads("\"" + TWENTY_FOUR.substring(1) + "\\\\\"");
        reads("{\"" + TWENTY_FOUR + "\":1}");
        reads("[" + SIXTEEN + "]");
        reads("[[" + SIXTEEN + "],[" + SIXTEEN + "]]");
        reads("{" + SIXTEEN_MEMBERS + "}", "{\"a\":1}");
        StringBuilder members = new StringBuilder();
        for (char key = 'a'; key <= 'p'; key++) {
            members.append(key == 'a' ? "" : ",").append('"').append(key).append("\":0");
        }
        reads("{" + members + "}");
    }
}
