/** Promise 1, and what promises 4 and 8 to 14 say of an object that has not run. */
final class NewObjectTest {
    public static void main(String[] args) {
        QueryMachine machine = new QueryMachine();
        Rig.check("kind of the document", machine.kind(-1), 0);
        Rig.check("bad", machine.bad(), -1);
        Rig.check("ended", machine.ended(), -1);
        Rig.check("left", machine.left(), 0);
        Rig.check("count", machine.count(), 0);
        Rig.check("kind(0)", Rig.thrown(() -> machine.kind(0)), Rig.ELEMENT);
        Rig.check("written(0, 0)", Rig.thrown(() -> machine.written(0, 0)), Rig.ELEMENT);
        Rig.check("integer(0)", Rig.thrown(() -> machine.integer(0)), Rig.ELEMENT);
        Rig.check("adopt(0)", Rig.thrown(() -> machine.adopt(0)), Rig.ELEMENT);
        Rig.check("written document", new Rig().written(-1), "null");
        Rig.check("the query is SELF", new Rig().run(5), "null ended 0 left 4");
        twoObjectsAreApart();
        Rig.end(NewObjectTest.class);
    }

    private static void twoObjectsAreApart() {
        Rig one = new Rig().document("[1]").query("EACH");
        Rig other = new Rig();
        one.run(9);
        Rig.check("the other's document", other.written(-1), "null");
        Rig.check("the other's run", other.run(1), "null ended 0 left 0");
        Rig.check("the one's run stays", one.told(), "1 ended 0 left 8");
    }
}
