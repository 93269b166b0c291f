/** The places at which a document is bad, and promises 3 and 4. */
final class BadDocumentTest {
    private static final String TWENTY_FOUR = "abcdefghijklmnopqrstuvwx";
    private static final String SIXTEEN = "0,".repeat(15) + "0";

    public static void main(String[] args) {
        firstPlace();
        wrongCharacters();
        wrongCharactersInWords();
        wrongCharactersInLists();
        wrongCharactersInObjects();
        wrongEnds();
        tooLargeIntegers();
        tooLongStrings();
        behindABackslash();
        seventeenthValue();
        seventeenthMember();
        tooDeep();
        emptyTexts();
        behindZero();
        behindDigits();
        emptyAfterwards();
        documentStays();
        latestText();
        Rig.end(BadDocumentTest.class);
    }

    private static void refuses(String text, int place) {
        Rig rig = new Rig().document("[1]").text(text);
        Rig.check("document of " + text, Rig.thrown(rig.machine::document), Rig.ARGUMENT);
        Rig.check("bad in " + text, rig.machine.bad(), place);
        Rig.check("document stays behind " + text, rig.written(-1), "[1]");
    }

    private static void firstPlace() {
        Rig.says("A document that is not so is BAD at the first of these places");
        refuses("[01,x]", 2);
        refuses("[x,01", 1);
        refuses("[[[[[[[[0,x", 8);
        refuses("{\"a\\n\":99999999999999999999", 4);
        refuses("[99999999999999999999,\"" + TWENTY_FOUR + "y\"]", 19);
        refuses("[" + SIXTEEN + ",x", 32);
        refuses("[" + SIXTEEN.substring(2) + ",x,", 31);
    }

    private static void wrongCharacters() {
        Rig.says("a character that may not stand there");
        String begins = "\"-0123456789[ftn{ ";
        for (char c = 32; c < 127; c++) {
            if (begins.indexOf(c) < 0) {
                refuses(String.valueOf(c), 0);
                refuses("  " + c + "1", 2);
                refuses("[1," + c, 3);
            }
            if (c != ' ' && !Character.isDigit(c)) {
                refuses("12" + c, 2);
                refuses("0" + c, 1);
                refuses("null" + c, 4);
                refuses("\"a\"" + c, 3);
                refuses("[] " + c, 3);
                refuses("{}" + c, 2);
                refuses("-" + c, 1);
            }
        }
        refuses("- 1", 1);
        refuses("--1", 1);
        refuses("+1", 0);
        refuses("1 2", 2);
        refuses("null null", 5);
    }

    private static void wrongCharactersInWords() {
        Rig.says("a character that may not stand there");
        for (String word : new String[] {"null", "false", "true"}) {
            for (int i = 1; i < word.length(); i++) {
                for (String wrong : new String[] {"x", " ", "\"", "]", ",", word.substring(i, i + 1).toUpperCase()}) {
                    refuses("[" + word.substring(0, i) + wrong + word.substring(i + 1) + "]", i + 1);
                }
            }
            refuses(word + word, word.length());
            refuses(word.toUpperCase(), 0);
        }
    }

    private static void wrongCharactersInLists() {
        Rig.says("a list: [ and ], with values between, and a comma between each two");
        refuses("]", 0);
        refuses("[1 2]", 3);
        refuses("[,1]", 1);
        refuses("[ ,]", 2);
        refuses("[1,]", 3);
        refuses("[1, ]", 4);
        refuses("[1,,2]", 3);
        refuses("[1}", 2);
        refuses("[}", 1);
        refuses("[1:2]", 2);
        refuses("[\"a\":2]", 4);
        refuses("[[]]]", 4);
        refuses("[1],[2]", 3);
    }

    private static void wrongCharactersInObjects() {
        Rig.says("likewise with members: a string, a colon, a value.");
        refuses("}", 0);
        refuses("{1:2}", 1);
        refuses("{null:2}", 1);
        refuses("{a:2}", 1);
        refuses("{[]:2}", 1);
        refuses("{:2}", 1);
        refuses("{\"a\" 1}", 5);
        refuses("{\"a\",1}", 4);
        refuses("{\"a\"}", 4);
        refuses("{\"a\":}", 5);
        refuses("{\"a\":,", 5);
        refuses("{\"a\"::1}", 5);
        refuses("{\"a\":1,}", 7);
        refuses("{\"a\":1 , }", 9);
        refuses("{\"a\":1,,", 7);
        refuses("{\"a\":1,2}", 7);
        refuses("{\"a\":1 \"b\":2}", 7);
        refuses("{,}", 1);
        refuses("{\"a\":1]", 6);
        refuses("{]", 1);
        refuses("{}}", 2);
    }

    private static void wrongEnds() {
        Rig.says("the end of a text that may not end");
        String whole = " [ null , false , true , -12 , { \"a\\\\b\" : [ 0 , { } ] , \"\" : \"\\\"\" } ]";
        for (int length = 0; length < whole.length(); length++) {
            refuses(whole.substring(0, length), length);
        }
        Rig.check("the whole", new Rig().document(whole).written(-1),
            "[null,false,true,-12,{\"a\\\\b\":[0,{}],\"\":\"\\\"\"}]");
        refuses("\"", 1);
        refuses("\"abc\\", 5);
        refuses("\"abc\\\"", 6);
        refuses("\"" + TWENTY_FOUR, 25);
        refuses("nul", 3);
        refuses("-", 1);
        refuses("[-", 2);
        refuses("[" + SIXTEEN, 32);
        refuses("[[[[[[[[", 8);
        refuses("[" + " ".repeat(119), 120);
        endsBehindThe120th();
    }

    private static void endsBehindThe120th() {
        for (String end : new String[] {"[", "{", "[1", "[1,", "{\"a", "{\"a\"", "{\"a\":", "{\"a\":1", "{\"a\":1,", "\"",
            "\"a", "\"\\", "-", "n", "nul", "fals", "tru", "[[[[[[[["}) {
            refuses(" ".repeat(120 - end.length()) + end, 120);
        }
    }

    private static void tooLargeIntegers() {
        Rig.says("the digit with which an integer is too large");
        refuses("9223372036854775808", 18);
        refuses("9223372036854775809", 18);
        refuses("9223372036854775810", 18);
        refuses("9300000000000000000", 18);
        refuses("9999999999999999999", 18);
        refuses("-9223372036854775809", 19);
        refuses("-9223372036854775810", 19);
        refuses("-9999999999999999999", 19);
        refuses("10000000000000000000", 19);
        refuses("-10000000000000000000", 20);
        refuses("92233720368547758070", 19);
        refuses("-92233720368547758080", 20);
        refuses("99999999999999999999999", 18);
        refuses("18446744073709551616", 19);
        refuses("18446744073709551617", 19);
        refuses("[ -10000000000000000000]", 22);
        refuses("{\"a\":9223372036854775808}", 23);
    }

    private static void tooLongStrings() {
        Rig.says("the character (of two for one the second) with which a string has 25");
        refuses("\"" + TWENTY_FOUR + "y\"", 25);
        refuses("\"" + TWENTY_FOUR + " \"", 25);
        refuses("\"" + TWENTY_FOUR + "\\\"\"", 26);
        refuses("\"" + TWENTY_FOUR + "\\\\\"", 26);
        refuses("\"" + "\\\\".repeat(25) + "\"", 50);
        refuses("\"" + "\\\"".repeat(24) + "a\"", 49);
        refuses("\"" + "a".repeat(40), 25);
        refuses("{\"" + TWENTY_FOUR + "y\":1}", 26);
        refuses("{\"" + TWENTY_FOUR + "\\\\\":1}", 27);
        refuses("{\"a\":\"" + TWENTY_FOUR + "y", 30);
    }

    private static void behindABackslash() {
        Rig.says("(behind a \\ the one that may not stand there)");
        for (char c = 32; c < 127; c++) {
            if (c != '"' && c != '\\') {
                refuses("\"\\" + c + "\"", 2);
            }
        }
        refuses("\"" + TWENTY_FOUR + "\\y\"", 26);
        refuses("\"" + TWENTY_FOUR.substring(1) + "\\y\"", 25);
        refuses("{\"\\n\":1}", 3);
        refuses("\"" + TWENTY_FOUR + "\\", 26);
    }

    private static void seventeenthValue() {
        Rig.says("the comma that would bring a 17th value or member");
        refuses("[" + SIXTEEN + ",0]", 32);
        refuses("[" + SIXTEEN + " , 0]", 33);
        refuses("[" + SIXTEEN + ",", 32);
        refuses("[" + SIXTEEN + ",]", 32);
        refuses("[[" + SIXTEEN + ",", 33);
        refuses("[0,[" + SIXTEEN + ",0]]", 35);
        refuses("[" + "[],".repeat(16) + "[]]", 48);
        refuses("[" + SIXTEEN + "x", 32);
    }

    private static void seventeenthMember() {
        Rig.says("(members are counted before keys are found the same)");
        refuses("{" + "\"a\":1,".repeat(16) + "\"a\":2}", 96);
        refuses("{" + "\"\":1,".repeat(16) + "\"\":1}", 80);
        refuses("{" + "\"\":1,".repeat(16) + "}", 80);
        refuses("{" + "\"\":1,".repeat(15) + "\"\":1 ,", 81);
        refuses("{" + "\"\":1,".repeat(15) + "\"\":1]", 80);
    }

    private static void tooDeep() {
        Rig.says("the first character of a value that would stand in 8 others.");
        for (String value : new String[] {"0", "null", "true", "-1", "\"a\"", "[]", "{}", "x"}) {
            refuses("[[[[[[[[" + value + "]]]]]]]]", 8);
            refuses("[[[[[[[[  " + value + "]]]]]]]]", 10);
            refuses("{\"a\":".repeat(8) + value + "}".repeat(8), 40);
        }
        refuses("[[[[[[[[[[[[", 8);
        refuses("[[[[[[[[],[0]]]]]]]]", 11);
        refuses("[[[[[[[{\"a\":1", 12);
        refuses("[[[[[[[{\"a\"1", 11);
        refuses("[0,[[[[[[{\"a\":[", 14);
    }

    private static void emptyTexts() {
        Rig.says("(Of an empty text, or of blanks alone, its length;");
        refuses("", 0);
        refuses(" ", 1);
        refuses("     ", 5);
        refuses(" ".repeat(120), 120);
    }

    private static void behindZero() {
        Rig.says("a second digit behind a 0");
        for (char c = '0'; c <= '9'; c++) {
            refuses("0" + c, 1);
            refuses("-0" + c, 2);
            refuses("[0" + c + "]", 2);
        }
    }

    private static void behindDigits() {
        Rig.says("a point or e behind digits may not stand there.)");
        refuses("1.5", 1);
        refuses("0.5", 1);
        refuses("-12.5", 3);
        refuses("12e3", 2);
        refuses("12E3", 2);
        refuses("0e1", 1);
        refuses("[1.0]", 2);
        refuses("1-", 1);
        refuses("1+1", 1);
    }

    private static void emptyAfterwards() {
        Rig.says("The text becomes the document, and is empty afterwards, also when this throws.");
        Rig rig = new Rig().document("3");
        Rig.check("the new document", rig.written(-1), "3");
        Rig.check("no text left", Rig.thrown(rig.machine::document), Rig.ARGUMENT);
        Rig.check("it was empty", rig.machine.bad(), 0);
        rig.text("[2");
        Rig.check("bad text", Rig.thrown(rig.machine::document), Rig.ARGUMENT);
        rig.text("]");
        Rig.check("nothing stands before it", Rig.thrown(rig.machine::document), Rig.ARGUMENT);
        Rig.check("its place", rig.machine.bad(), 0);
        rig.text("true  ");
        rig.machine.document();
        rig.text("n");
        Rig.check("nothing stands behind it", Rig.thrown(rig.machine::document), Rig.ARGUMENT);
        Rig.check("it ends there", rig.machine.bad(), 1);
    }

    private static void documentStays() {
        Rig.says("IllegalArgumentException: it is bad (the document stays).");
        Rig rig = new Rig().text("x");
        Rig.check("bad text", Rig.thrown(rig.machine::document), Rig.ARGUMENT);
        Rig.check("the first document", rig.written(-1), "null");
        rig.document("{\"a\":[1,2]}").query("FIELD a").text("{\"a\":[3,4],\"b\":x}");
        Rig.check("bad at its end", Rig.thrown(rig.machine::document), Rig.ARGUMENT);
        Rig.check("nothing of it came in", rig.written(-1), "{\"a\":[1,2]}");
        Rig.check("a run is on the one that stays", rig.run(9), "[1,2] ended 0 left 8");
    }

    private static void latestText() {
        Rig.says("The place (from 0) at which the latest text was bad; -1 when it was not, or there was none.");
        Rig rig = new Rig().document("1");
        Rig.check("a good text", rig.machine.bad(), -1);
        rig.text("[2");
        Rig.check("not looked at yet", rig.machine.bad(), -1);
        Rig.check("bad text", Rig.thrown(rig.machine::document), Rig.ARGUMENT);
        Rig.check("its place", rig.machine.bad(), 2);
        rig.text("[3]");
        Rig.check("the place stays while text comes", rig.machine.bad(), 2);
        Rig.check("also when text is refused", Rig.thrown(() -> rig.machine.text(0, 9)), Rig.ARGUMENT);
        rig.run(9);
        rig.machine.adopt(0);
        rig.query("SELF");
        Rig.check("run, adopt and query leave it", rig.machine.bad(), 2);
        rig.machine.document();
        Rig.check("a good one behind a bad one", rig.machine.bad(), -1);
        Rig.check("an empty one", Rig.thrown(rig.machine::document), Rig.ARGUMENT);
        Rig.check("at its length", rig.machine.bad(), 0);
    }
}
