/** Promise 1, and what promises 4 and 8 to 14 say of an object that has not run. */
final class NewObjectTest {
    public static void main(String[] args) {
        documentQueryAndValues();
        noText();
        noRun();
        noValue();
        twoObjectsAreApart();
        Rig.end(NewObjectTest.class);
    }

    private static void documentQueryAndValues() {
        Rig.says("The document is null, the query SELF, no values put out.");
        Rig rig = new Rig();
        Rig.check("kind of the document", rig.machine.kind(-1), 0);
        Rig.check("written document", rig.written(-1), "null");
        Rig.check("values", rig.machine.count(), 0);
        Rig.check("the query is SELF", rig.run(5), "null ended 0 left 4");
        Rig.check("SELF, on another document", new Rig().document("[1]").run(5), "[1] ended 0 left 4");
    }

    private static void noText() {
        Rig.says("-1 when it was not, or there was none.");
        Rig.check("bad", new QueryMachine().bad(), -1);
    }

    private static void noRun() {
        Rig.says("How the latest run ended; -1 when there was none.");
        Rig.check("ended", new QueryMachine().ended(), -1);
        Rig.says("How much fuel the latest run had left; 0 when there was none.");
        Rig.check("left", new QueryMachine().left(), 0);
        Rig.says("How many values the latest run put out.");
        Rig.check("count", new QueryMachine().count(), 0);
    }

    private static void noValue() {
        QueryMachine machine = new QueryMachine();
        Rig.says("NoSuchElementException: there is none.");
        Rig.check("kind(0)", Rig.thrown(() -> machine.kind(0)), Rig.ELEMENT);
        Rig.says("NoSuchElementException: there is no such value");
        Rig.check("written(0, 0)", Rig.thrown(() -> machine.written(0, 0)), Rig.ELEMENT);
        Rig.check("written(0, -1)", Rig.thrown(() -> machine.written(0, -1)), Rig.ELEMENT);
        Rig.check("integer(0)", Rig.thrown(() -> machine.integer(0)), Rig.ELEMENT);
        Rig.says("NoSuchElementException: there is none (k is from 0).");
        Rig.check("adopt(0)", Rig.thrown(() -> machine.adopt(0)), Rig.ELEMENT);
        Rig.check("adopt(-1)", Rig.thrown(() -> machine.adopt(-1)), Rig.ELEMENT);
    }

    private static void twoObjectsAreApart() {
        Rig.says("The document is null, the query SELF, no values put out.");
        Rig one = new Rig().document("[1]").query("EACH");
        Rig other = new Rig();
        one.run(9);
        Rig.check("the other's document", other.written(-1), "null");
        Rig.check("the other's run", other.run(1), "null ended 0 left 0");
        Rig.check("the one's run stays", one.told(), "1 ended 0 left 8");
    }
}
