/** Promises 7 to 10: fuel, endings and what stays of a run. */
final class RunTest {
    private static final String[] TWO = {"ADD", "SUBTRACT", "MULTIPLY", "EQUAL", "LESS"};
    private static final String FIFTEEN = "[" + "0,".repeat(14) + "0]";
    private static final String SIXTEEN = "[" + "0,".repeat(15) + "0]";

    public static void main(String[] args) {
        wrongFuel();
        edgesOfFuel();
        eachBeginCosts();
        deepWithinDeepCosts();
        twoThatComeTogetherCost();
        valuesThatComeToPutCost();
        aheadOfWhatIsMade();
        anotherValueCostsNothing();
        endsWithNoMore();
        endsWithFailure();
        endsWithoutFuel();
        wantOfFuelIsNoFailure();
        endsWithTheSixteenth();
        asksForNoMore();
        howMany();
        left();
        staysUntilTheNext();
        staysWhenTheNextThrows();
        everyFuel();
        Rig.end(RunTest.class);
    }

    private static void wrongFuel() {
        Rig.says("IllegalArgumentException: fuel is not 0 .. 250.");
        for (int fuel : new int[] {-1, 251, -250, 500, Integer.MIN_VALUE, Integer.MAX_VALUE}) {
            Rig.check("run(" + fuel + ")", Rig.thrown(() -> new QueryMachine().run(fuel)), Rig.ARGUMENT);
        }
    }

    private static void edgesOfFuel() {
        Rig.says("IllegalArgumentException: fuel is not 0 .. 250.");
        Rig.runs("[1,2]", "EACH", 250, "1 2 ended 0 left 249");
        Rig.runs("[1,2]", "EACH", 249, "1 2 ended 0 left 248");
        Rig.runs("[1,2]", "EACH", 1, "1 2 ended 0 left 0");
        Rig.runs("[1,2]", "EACH", 0, "ended 2 left 0");
        allFuelGoesIntoBegins();
    }

    private static void allFuelGoesIntoBegins() {
        String nulls = "[" + "null,".repeat(15) + "null]";
        Rig.runs(nulls, "ELSE PIPE BOTH EACH EACH " + "BOTH NULL ".repeat(3) + "NULL SELF", 250, nulls + " ended 0 left 20");
        Rig.runs(nulls, "ELSE PIPE BOTH EACH EACH " + "BOTH NULL ".repeat(4) + "NULL SELF", 250, "ended 2 left 0");
    }

    private static void eachBeginCosts() {
        Rig.says("each part that BEGINS costs 1");
        for (String leaf : new String[] {"SELF", "FIELD a", "ITEM 0", "EACH", "DEEP", "NUMBER 1", "LETTER a", "NULL", "ELEMENT",
            "NONE", "FAIL", "NOT", "LENGTH", "KEYS"}) {
            Rig rig = new Rig().query(leaf);
            rig.machine.run(9);
            Rig.check("left by " + leaf, rig.machine.left(), 8);
            Rig.check(leaf + " without fuel", rig.run(0), "ended 2 left 0");
        }
        Rig.runs("[1,2,3]", "PIPE EACH SELF", 9, "1 2 3 ended 0 left 4");
        Rig.runs("1", "BOTH SELF SELF", 9, "1 1 ended 0 left 6");
        Rig.runs("1", "ELSE SELF SELF", 9, "1 ended 0 left 7");
        Rig.runs("null", "ELSE SELF SELF", 9, "null ended 0 left 6");
        Rig.runs("1", "IF SELF SELF SELF", 9, "1 ended 0 left 6");
        Rig.runs("null", "IF SELF FAIL NULL", 9, "null ended 0 left 6");
        Rig.runs("1", "LIST SELF", 9, "[1] ended 0 left 7");
        Rig.runs("1", "LIST TRY FAIL", 9, "[] ended 0 left 6");
        Rig.runs("[1,2]", "FOLD EACH NULL SELF", 9, "null ended 0 left 4");
    }

    private static void deepWithinDeepCosts() {
        Rig.says("(each DEEP within a DEEP, too)");
        Rig.runs("1", "DEEP", 9, "1 ended 0 left 8");
        Rig.runs("[]", "DEEP", 9, "[] ended 0 left 8");
        Rig.runs("[[1],2]", "DEEP", 9, "[[1],2] [1] 1 2 ended 0 left 5");
        Rig.runs("[[1],2]", "DEEP", 4, "[[1],2] [1] 1 2 ended 0 left 0");
        Rig.runs("[[1],2]", "DEEP", 3, "[[1],2] [1] 1 ended 2 left 0");
        Rig.runs("{\"a\":{\"b\":1}}", "DEEP", 2, "{\"a\":{\"b\":1}} {\"b\":1} ended 2 left 0");
        Rig.runs("{\"a\":{\"b\":1}}", "DEEP", 1, "{\"a\":{\"b\":1}} ended 2 left 0");
    }

    private static void twoThatComeTogetherCost() {
        Rig.says("and each two values that come together in 22 to 26");
        String[] dues = {"2 3 3 4", "0 -1 1 0", "1 2 2 4", "true false false true", "false true false false"};
        for (int i = 0; i < TWO.length; i++) {
            String[] values = dues[i].split(" ");
            Rig.runs("[1,2]", TWO[i] + " EACH EACH", 9, dues[i] + " ended 0 left 1");
            Rig.runs("[1,2]", TWO[i] + " EACH EACH", 8, dues[i] + " ended 0 left 0");
            Rig.runs("[1,2]", TWO[i] + " EACH EACH", 7, values[0] + " " + values[1] + " " + values[2] + " ended 2 left 0");
            Rig.runs("[1,2]", TWO[i] + " EACH EACH", 5, values[0] + " " + values[1] + " ended 2 left 0");
            Rig.runs("[1,2]", TWO[i] + " EACH EACH", 3, "ended 2 left 0");
            Rig.runs("[1,2]", TWO[i] + " EACH FAIL", 9, "ended 1 left 6");
            Rig.runs("[1,2]", TWO[i] + " EACH NONE", 9, "ended 0 left 5");
        }
    }

    private static void valuesThatComeToPutCost() {
        Rig.says("and each value that comes to a PUT");
        Rig.runs("null", "PUT a BOTH NULL NULL", 9, "{\"a\":null} {\"a\":null} ended 0 left 3");
        Rig.runs("null", "PUT a BOTH NULL NULL", 6, "{\"a\":null} {\"a\":null} ended 0 left 0");
        Rig.runs("null", "PUT a BOTH NULL NULL", 5, "{\"a\":null} ended 2 left 0");
        Rig.runs("null", "PUT a NONE", 2, "ended 0 left 0");
        Rig.runs("null", "PUT a FAIL", 2, "ended 1 left 0");
        Rig.runs("null", "PUT a NULL", 2, "ended 2 left 0");
    }

    private static void aheadOfWhatIsMade() {
        Rig.says("ahead of what is made of them (so that without fuel it ends with 2, not 1)");
        for (String part : new String[] {"ADD", "SUBTRACT", "MULTIPLY"}) {
            Rig.runs("true", part + " SELF SELF", 3, "ended 2 left 0");
            Rig.runs("true", part + " SELF SELF", 4, "ended 1 left 0");
        }
        Rig.runs("null", "ADD SELF SELF", 3, "ended 2 left 0");
        String seven = "[[[[[[[0]]]]]]]";
        Rig.runs(seven, "FOLD SELF NULL PUT a ELEMENT", 5, "ended 2 left 0");
        Rig.runs(seven, "FOLD SELF NULL PUT a ELEMENT", 6, "ended 1 left 0");
        Rig.runs("true", "BOTH TRY ADD SELF SELF NULL", 5, "ended 2 left 0");
        Rig.runs("true", "BOTH TRY ADD SELF SELF NULL", 7, "null ended 0 left 0");
    }

    private static void anotherValueCostsNothing() {
        Rig.says("a part that is asked for another value costs nothing.");
        Rig.runs(FIFTEEN, "EACH", 1, "0 ".repeat(15) + "ended 0 left 0");
        Rig.runs("[1,2,3]", "TRY TRY BOTH NONE EACH", 9, "1 2 3 ended 0 left 4");
        Rig.runs("[1,2,3]", "ELSE EACH NULL", 2, "1 2 3 ended 0 left 0");
    }

    private static void endsWithNoMore() {
        Rig.says("It ENDS: 0 when there are no more values");
        Rig.runs("1", "NONE", 1, "ended 0 left 0");
        Rig.runs("1", "SELF", 1, "1 ended 0 left 0");
        Rig.runs(FIFTEEN, "EACH", 9, "0 ".repeat(15) + "ended 0 left 8");
    }

    private static void endsWithFailure() {
        Rig.says("1 when it fails");
        Rig.runs("1", "EACH", 9, "ended 1 left 8");
        Rig.runs("1", "FAIL", 1, "ended 1 left 0");
        Rig.runs("1", "BOTH SELF FAIL", 9, "1 ended 1 left 6");
        Rig.runs(FIFTEEN, "BOTH EACH FAIL", 9, "0 ".repeat(15) + "ended 1 left 6");
    }

    private static void endsWithoutFuel() {
        Rig.says("2 when something would cost 1 without fuel left");
        Rig.runs("1", "FAIL", 0, "ended 2 left 0");
        Rig.runs("1", "NONE", 0, "ended 2 left 0");
        Rig.runs("1", "BOTH SELF SELF", 2, "1 ended 2 left 0");
        Rig.runs("[1,2,3]", "PIPE EACH SELF", 5, "1 2 3 ended 0 left 0");
        Rig.runs("[1,2,3]", "PIPE EACH SELF", 4, "1 2 ended 2 left 0");
        Rig.runs("[1,2,3]", "PIPE EACH SELF", 2, "ended 2 left 0");
        Rig.runs("[1,2,3]", "PIPE EACH SELF", 1, "ended 2 left 0");
        Rig.runs("[1,2]", "FOLD EACH NULL SELF", 5, "null ended 0 left 0");
        Rig.runs("[1,2]", "FOLD EACH NULL SELF", 4, "ended 2 left 0");
        Rig.runs("1", "IF SELF SELF SELF", 2, "ended 2 left 0");
        Rig.runs("1", "LIST SELF", 2, "[1] ended 0 left 0");
        Rig.runs("1", "LIST BOTH SELF SELF", 3, "ended 2 left 0");
    }

    private static void wantOfFuelIsNoFailure() {
        Rig.says("want of fuel is none");
        Rig.runs("1", "TRY SELF", 1, "ended 2 left 0");
        Rig.runs("1", "TRY BOTH SELF SELF", 3, "1 ended 2 left 0");
        Rig.runs("1", "BOTH TRY ADD SELF SELF NULL", 4, "ended 2 left 0");
        Rig.runs("1", "ELSE SELF SELF", 1, "ended 2 left 0");
        Rig.runs("1", "ELSE BOTH SELF SELF SELF", 3, "1 ended 2 left 0");
        Rig.runs("null", "ELSE BOTH SELF SELF SELF", 3, "ended 2 left 0");
        Rig.runs("null", "BOTH ELSE PUT a SELF NULL NULL", 4, "ended 2 left 0");
    }

    private static void endsWithTheSixteenth() {
        Rig.says("The run's values are put out, at most 16.");
        String told = "0 ".repeat(16);
        Rig.runs(SIXTEEN, "EACH", 9, told + "ended 3 left 8");
        Rig.runs(SIXTEEN, "BOTH EACH SELF", 9, told + "ended 3 left 7");
        Rig.runs(SIXTEEN, "BOTH NULL EACH", 9, "null " + "0 ".repeat(15) + "ended 3 left 6");
        Rig.runs(SIXTEEN, "BOTH EACH EACH", 9, told + "ended 3 left 7");
        Rig.runs(FIFTEEN, "BOTH EACH SELF", 9, "0 ".repeat(15) + FIFTEEN + " ended 3 left 6");
    }

    private static void asksForNoMore() {
        Rig.says("3 with the sixteenth value, when it asks for no more (also when none would come).");
        String told = "0 ".repeat(16);
        Rig.runs(SIXTEEN, "EACH", 1, told + "ended 3 left 0");
        Rig.runs(SIXTEEN, "BOTH EACH FAIL", 9, told + "ended 3 left 7");
        Rig.runs(SIXTEEN, "BOTH EACH SELF", 2, told + "ended 3 left 0");
        Rig.runs(SIXTEEN, "PIPE EACH SELF", 18, told + "ended 3 left 0");
        Rig.runs(SIXTEEN, "PIPE EACH SELF", 17, "0 ".repeat(15) + "ended 2 left 0");
        Rig.runs(SIXTEEN, "BOTH NUMBER 1 DEEP", 16, "1 " + SIXTEEN + " " + "0 ".repeat(13) + "ended 2 left 0");
        Rig.runs(SIXTEEN, "BOTH NUMBER 1 DEEP", 17, "1 " + SIXTEEN + " " + "0 ".repeat(14) + "ended 3 left 0");
    }

    private static void howMany() {
        Rig.says("Runs: how many values were put out.");
        Rig rig = new Rig().document("[1,2,3]");
        String[] queries = {"NONE", "SELF", "EACH", "BOTH EACH FAIL", "BOTH EACH EACH",
            "BOTH BOTH BOTH EACH EACH EACH BOTH EACH "
            + "BOTH EACH EACH"};
        int[] dues = {0, 1, 3, 3, 6, 16};
        for (int i = 0; i < queries.length; i++) {
            rig.query(queries[i]);
            Rig.check("run of " + queries[i], rig.machine.run(99), dues[i]);
            Rig.check("count of " + queries[i], rig.machine.count(), dues[i]);
        }
        Rig.check("run without fuel", rig.machine.run(0), 0);
        Rig.check("count without fuel", rig.machine.count(), 0);
    }

    private static void left() {
        Rig.says("How much fuel the latest run had left");
        Rig rig = new Rig().document("[1,2]");
        for (int fuel : new int[] {250, 1, 77}) {
            rig.machine.run(fuel);
            Rig.check("left of " + fuel, rig.machine.left(), fuel - 1);
        }
        rig.query("BOTH SELF FAIL");
        rig.machine.run(7);
        Rig.check("left by one that fails", rig.machine.left(), 4);
    }

    private static void staysUntilTheNext() {
        Rig.says("The values of the latest run, and all that is told of it, stay until the next one that does not throw.");
        Rig rig = new Rig().document("[1,2]").query("BOTH EACH FAIL");
        String due = "1 2 ended 1 left 6";
        Rig.check("the run", rig.run(9), due);
        rig.query("SELF");
        Rig.check("behind a query", rig.told(), due);
        rig.document("true");
        Rig.check("behind a document", rig.told(), due);
        rig.machine.adopt(1);
        Rig.check("behind adopt", rig.told(), due);
        rig.text("x").bytes(27);
        Rig.check("a bad text", Rig.thrown(rig.machine::document), Rig.ARGUMENT);
        Rig.check("a malformed query", Rig.thrown(rig.machine::query), Rig.ARGUMENT);
        Rig.check("behind these", rig.told(), due);
        Rig.check("the next run", rig.run(2), "2 ended 0 left 1");
        Rig.check("only its values", Rig.thrown(() -> rig.machine.kind(1)), Rig.ELEMENT);
        Rig.check("the same again", rig.run(2), "2 ended 0 left 1");
        Rig.check("none", rig.run(0), "ended 2 left 0");
        Rig.check("no value any more", Rig.thrown(() -> rig.machine.kind(0)), Rig.ELEMENT);
    }

    private static void staysWhenTheNextThrows() {
        Rig.says("stay until the next one that does not throw.");
        Rig rig = new Rig().document("[1,2]").query("EACH");
        rig.run(7);
        rig.query("NULL");
        for (int fuel : new int[] {-1, 251, Integer.MIN_VALUE, Integer.MAX_VALUE}) {
            Rig.check("run(" + fuel + ")", Rig.thrown(() -> rig.machine.run(fuel)), Rig.ARGUMENT);
            Rig.check("the latest run stays", rig.told(), "1 2 ended 0 left 6");
        }
        Rig never = new Rig();
        Rig.check("run(-1)", Rig.thrown(() -> never.machine.run(-1)), Rig.ARGUMENT);
        Rig.check("no run yet", never.told(), "ended -1 left 0");
    }

    /** With less fuel a run puts out a beginning of the same values, and has none left when it ends for want of it. */
    private static void everyFuel() {
        Rig.says("2 when something would cost 1 without fuel left");
        String document = "[{\"a\":[1,2]},{\"a\":[3]},null]";
        String parts = "PIPE TRY PIPE EACH FIELD a FOLD ELSE TRY EACH NUMBER 1 NUMBER 0 ADD SELF ELEMENT";
        Rig.runs(document, parts, 250, "3 3 1 ended 0 left 211");
        for (int fuel = 0; fuel <= 60; fuel++) {
            String told = new Rig().document(document).query(parts).run(fuel);
            String due = "ended " + (fuel < 39 ? "2 left 0" : "0 left " + (fuel - 39));
            Rig.check("with " + fuel, told.substring(told.indexOf("ended")), due);
            Rig.check("a beginning with " + fuel, "3 3 1 ".startsWith(told.substring(0, told.indexOf("ended"))), true);
        }
    }
}
