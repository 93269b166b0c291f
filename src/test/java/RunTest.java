/** Promises 7 to 10: fuel, endings and what stays of a run. */
final class RunTest {
    public static void main(String[] args) {
        wrongFuel();
        fuelOfBegins();
        fuelOfTwoAndOfPut();
        wantOfFuelIsNoFailure();
        sixteenValues();
        whatStays();
        everyFuel();
        Rig.end(RunTest.class);
    }

    private static void wrongFuel() {
        Rig rig = new Rig().document("[1,2]").query("EACH");
        rig.run(7);
        for (int fuel : new int[] {-1, 251, Integer.MIN_VALUE, Integer.MAX_VALUE}) {
            Rig.check("run(" + fuel + ")", Rig.thrown(() -> rig.machine.run(fuel)), Rig.ARGUMENT);
            Rig.check("the latest run stays", rig.told(), "1 2 ended 0 left 6");
        }
        Rig.check("run(250)", rig.run(250), "1 2 ended 0 left 249");
        Rig.check("run(0)", rig.run(0), "ended 2 left 0");
        Rig never = new Rig();
        Rig.check("run(-1)", Rig.thrown(() -> never.machine.run(-1)), Rig.ARGUMENT);
        Rig.check("no run yet", never.told(), "ended -1 left 0");
    }

    private static void fuelOfBegins() {
        Rig.runs("[1,2,3]", "PIPE EACH SELF", 5, "1 2 3 ended 0 left 0");
        Rig.runs("[1,2,3]", "PIPE EACH SELF", 4, "1 2 ended 2 left 0");
        Rig.runs("[1,2,3]", "PIPE EACH SELF", 1, "ended 2 left 0");
        Rig.runs("[1,2,3]", "EACH", 1, "1 2 3 ended 0 left 0");
        Rig.runs("[[1],2]", "DEEP", 4, "[[1],2] [1] 1 2 ended 0 left 0");
        Rig.runs("[[1],2]", "DEEP", 3, "[[1],2] [1] 1 ended 2 left 0");
        Rig.runs("1", "FAIL", 0, "ended 2 left 0");
        Rig.runs("1", "FAIL", 1, "ended 1 left 0");
        Rig.runs("1", "NONE", 1, "ended 0 left 0");
        Rig.runs("1", "BOTH SELF SELF", 2, "1 ended 2 left 0");
        Rig.runs("1", "ELSE SELF SELF", 9, "1 ended 0 left 7");
        Rig.runs("null", "ELSE SELF SELF", 9, "null ended 0 left 6");
        Rig.runs("1", "IF SELF SELF SELF", 9, "1 ended 0 left 6");
        Rig.runs("1", "LIST TRY FAIL", 9, "[] ended 0 left 6");
        Rig.runs("1", "LIST SELF", 2, "[1] ended 0 left 0");
        Rig.runs("[1,2]", "FOLD EACH NULL SELF", 5, "null ended 0 left 0");
        Rig.runs("[1,2]", "FOLD EACH NULL SELF", 4, "ended 2 left 0");
        Rig.runs("1", "EACH", 9, "ended 1 left 8");
        String nulls = "[" + "null,".repeat(15) + "null]";
        Rig.runs(nulls, "ELSE PIPE BOTH EACH EACH " + "BOTH NULL ".repeat(3) + "NULL SELF", 250,
            nulls + " ended 0 left 20");
        Rig.runs(nulls, "ELSE PIPE BOTH EACH EACH " + "BOTH NULL ".repeat(4) + "NULL SELF", 250, "ended 2 left 0");
    }

    private static void fuelOfTwoAndOfPut() {
        for (String part : new String[] {"ADD", "SUBTRACT", "MULTIPLY"}) {
            Rig.runs("[1,2]", part + " EACH FAIL", 9, "ended 1 left 6");
            Rig.runs("true", part + " SELF SELF", 3, "ended 2 left 0");
            Rig.runs("true", part + " SELF SELF", 4, "ended 1 left 0");
        }
        Rig.runs("[1,2]", "ADD EACH EACH", 8, "2 3 3 4 ended 0 left 0");
        Rig.runs("[1,2]", "ADD EACH EACH", 7, "2 3 3 ended 2 left 0");
        Rig.runs("[1,2]", "ADD EACH EACH", 5, "2 3 ended 2 left 0");
        Rig.runs("[1,2]", "EQUAL EACH EACH", 8, "true false false true ended 0 left 0");
        Rig.runs("[1,2]", "EQUAL EACH EACH", 7, "true false false ended 2 left 0");
        Rig.runs("[1,2]", "LESS EACH EACH", 7, "false true false ended 2 left 0");
        Rig.runs("null", "ADD SELF SELF", 3, "ended 2 left 0");
        Rig.runs("null", "PUT a BOTH NULL NULL", 6, "{\"a\":null} {\"a\":null} ended 0 left 0");
        Rig.runs("null", "PUT a BOTH NULL NULL", 5, "{\"a\":null} ended 2 left 0");
        Rig.runs("[[[[[[[0]]]]]]]", "PIPE NULL PUT a ELEMENT", 9, "{\"a\":null} ended 0 left 4");
        Rig.runs("[[[[[[[0]]]]]]]", "FOLD SELF NULL PUT a ELEMENT", 5, "ended 2 left 0");
        Rig.runs("[[[[[[[0]]]]]]]", "FOLD SELF NULL PUT a ELEMENT", 6, "ended 1 left 0");
    }

    private static void wantOfFuelIsNoFailure() {
        Rig.runs("1", "TRY SELF", 1, "ended 2 left 0");
        Rig.runs("1", "TRY BOTH SELF SELF", 3, "1 ended 2 left 0");
        Rig.runs("1", "ELSE SELF SELF", 1, "ended 2 left 0");
        Rig.runs("1", "ELSE BOTH SELF SELF SELF", 3, "1 ended 2 left 0");
        Rig.runs("null", "ELSE BOTH SELF SELF SELF", 3, "ended 2 left 0");
        Rig.runs("1", "BOTH TRY ADD SELF SELF NULL", 4, "ended 2 left 0");
        Rig.runs("null", "BOTH ELSE PUT a SELF NULL NULL", 4, "ended 2 left 0");
        Rig.runs("1", "LIST BOTH SELF SELF", 3, "ended 2 left 0");
    }

    private static void sixteenValues() {
        String sixteen = "[" + "0,".repeat(15) + "0]";
        String told = "0 ".repeat(16);
        Rig.runs(sixteen, "EACH", 9, told + "ended 3 left 8");
        Rig.runs(sixteen, "BOTH EACH FAIL", 9, told + "ended 3 left 7");
        Rig.runs(sixteen, "BOTH EACH SELF", 2, told + "ended 3 left 0");
        Rig.runs(sixteen, "BOTH NULL EACH", 9, "null " + "0 ".repeat(15) + "ended 3 left 6");
        Rig.runs("[" + "0,".repeat(14) + "0]", "EACH", 9, "0 ".repeat(15) + "ended 0 left 8");
        Rig.runs("[" + "0,".repeat(14) + "0]", "BOTH EACH FAIL", 9, "0 ".repeat(15) + "ended 1 left 6");
        Rig.runs(sixteen, "BOTH NUMBER 1 DEEP", 16, "1 " + sixteen + " " + "0 ".repeat(13) + "ended 2 left 0");
    }

    private static void whatStays() {
        Rig rig = new Rig().document("[1,2]").query("BOTH EACH FAIL");
        String due = "1 2 ended 1 left 6";
        Rig.check("the run", rig.run(9), due);
        rig.query("SELF");
        Rig.check("behind a query", rig.told(), due);
        rig.document("true");
        Rig.check("behind a document", rig.told(), due);
        rig.machine.adopt(1);
        Rig.check("behind adopt", rig.told(), due);
        Rig.check("the next run", rig.run(2), "2 ended 0 left 1");
        Rig.check("only its values", Rig.thrown(() -> rig.machine.kind(1)), Rig.ELEMENT);
        Rig.check("the same again", rig.run(2), "2 ended 0 left 1");
        Rig.check("none", rig.run(0), "ended 2 left 0");
        Rig.check("no value any more", Rig.thrown(() -> rig.machine.kind(0)), Rig.ELEMENT);
    }

    /** With less fuel a run puts out a beginning of the same values, and has none left when it ends for want of it. */
    private static void everyFuel() {
        String document = "[{\"a\":[1,2]},{\"a\":[3]},null]";
        String parts = "PIPE TRY PIPE EACH FIELD a FOLD ELSE TRY EACH NUMBER 1 NUMBER 0 ADD SELF ELEMENT";
        Rig rig = new Rig().document(document).query(parts);
        Rig.check("all of it", rig.run(250), "3 3 1 ended 0 left 211");
        for (int fuel = 0; fuel <= 60; fuel++) {
            String told = rig.run(fuel);
            String due = "ended " + (fuel < 39 ? "2 left 0" : "0 left " + (fuel - 39));
            Rig.check("with " + fuel, told.substring(told.indexOf("ended")), due);
            Rig.check("a beginning with " + fuel, "3 3 1 ".startsWith(told.substring(0, told.indexOf("ended"))), true);
        }
    }
}
