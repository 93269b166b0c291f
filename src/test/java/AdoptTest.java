/** Promise 14. */
final class AdoptTest {
    public static void main(String[] args) {
        Rig rig = new Rig().document("[[1],{\"a\":2},3]").query("EACH");
        for (int k : new int[] {0, -1, 1}) {
            Rig.check("adopt(" + k + ") before a run", Rig.thrown(() -> rig.machine.adopt(k)), Rig.ELEMENT);
        }
        rig.run(9);
        for (int k : new int[] {3, -1, -2, 16, Integer.MIN_VALUE, Integer.MAX_VALUE}) {
            Rig.check("adopt(" + k + ")", Rig.thrown(() -> rig.machine.adopt(k)), Rig.ELEMENT);
            Rig.check("the document stays", rig.written(-1), "[[1],{\"a\":2},3]");
        }
        rig.machine.adopt(1);
        Rig.check("the document", rig.written(-1), "{\"a\":2}");
        Rig.check("its kind", rig.machine.kind(-1), 6);
        Rig.check("the run stays", rig.told(), "[1] {\"a\":2} 3 ended 0 left 8");
        rig.machine.adopt(2);
        Rig.check("another", rig.machine.integer(-1), 3L);
        rig.machine.adopt(0);
        Rig.check("a run on it", rig.run(9), "1 ended 0 left 8");
        Rig.check("a run leaves the document", rig.written(-1), "[1]");
        Rig.check("values of the run before are gone", Rig.thrown(() -> rig.machine.adopt(1)), Rig.ELEMENT);
        nextTextStays();
        Rig.end(AdoptTest.class);
    }

    private static void nextTextStays() {
        Rig rig = new Rig().text("[1").query("NUMBER 4");
        rig.run(9);
        rig.machine.adopt(0);
        rig.text("]");
        Rig.check("adopted", rig.written(-1), "4");
        rig.machine.document();
        Rig.check("the text was kept", rig.written(-1), "[1]");
    }
}
