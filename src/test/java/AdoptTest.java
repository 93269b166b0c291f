/** Promise 14. */
final class AdoptTest {
    private static final String DOCUMENT = "[[1],{\"a\":2},3]";
    private static final String TOLD = "[1] {\"a\":2} 3 ended 0 left 8";

    public static void main(String[] args) {
        becomesTheDocument();
        valuesStay();
        noRun();
        noSuchValue();
        notTheDocument();
        valuesOfTheLatestRun();
        nextTextStays();
        sharedValuesStay();
        Rig.end(AdoptTest.class);
    }

    private static Rig threeValues() {
        Rig rig = new Rig().document(DOCUMENT).query("EACH");
        rig.run(9);
        return rig;
    }

    private static void becomesTheDocument() {
        Rig.says("A value of the latest run becomes the document");
        Rig rig = threeValues();
        rig.machine.adopt(1);
        Rig.check("the document", rig.written(-1), "{\"a\":2}");
        Rig.check("its kind", rig.machine.kind(-1), 6);
        rig.machine.adopt(2);
        Rig.check("another", rig.machine.integer(-1), 3L);
        rig.machine.adopt(0);
        Rig.check("a run on it", rig.run(9), "1 ended 0 left 8");
        Rig.check("a run leaves the document", rig.written(-1), "[1]");
    }

    private static void valuesStay() {
        Rig.says("(and the run's values stay)");
        Rig rig = threeValues();
        for (int k = 0; k < 3; k++) {
            rig.machine.adopt(k);
            Rig.check("behind adopt(" + k + ")", rig.told(), TOLD);
        }
    }

    private static void noRun() {
        Rig.says("NoSuchElementException: there is none (k is from 0).");
        Rig rig = new Rig().document(DOCUMENT);
        for (int k : new int[] {0, -1, 1}) {
            Rig.check("adopt(" + k + ") before a run", Rig.thrown(() -> rig.machine.adopt(k)), Rig.ELEMENT);
        }
        Rig.check("the document stays", rig.written(-1), DOCUMENT);
        rig.query("NONE");
        rig.run(9);
        Rig.check("adopt(0) behind a run without values", Rig.thrown(() -> rig.machine.adopt(0)), Rig.ELEMENT);
    }

    private static void noSuchValue() {
        Rig.says("NoSuchElementException: there is none (k is from 0).");
        Rig rig = threeValues();
        for (int k : new int[] {3, 4, 15, 16, -2, Integer.MIN_VALUE, Integer.MAX_VALUE}) {
            Rig.check("adopt(" + k + ")", Rig.thrown(() -> rig.machine.adopt(k)), Rig.ELEMENT);
            Rig.check("the document stays", rig.written(-1), DOCUMENT);
            Rig.check("the run stays", rig.told(), TOLD);
        }
    }

    private static void notTheDocument() {
        Rig.says("(k is from 0)");
        Rig rig = threeValues();
        Rig.check("adopt(-1)", Rig.thrown(() -> rig.machine.adopt(-1)), Rig.ELEMENT);
        Rig.check("the document stays", rig.written(-1), DOCUMENT);
    }

    private static void valuesOfTheLatestRun() {
        Rig.says("A value of the latest run becomes the document");
        Rig rig = threeValues();
        rig.query("NULL");
        rig.run(9);
        Rig.check("values of the run before are gone", Rig.thrown(() -> rig.machine.adopt(1)), Rig.ELEMENT);
        rig.machine.adopt(0);
        Rig.check("the latest run's", rig.written(-1), "null");
    }

    private static void nextTextStays() {
        Rig.says("Appends n characters to the text of the next document");
        Rig rig = new Rig().text("[1").query("NUMBER 4");
        rig.run(9);
        rig.machine.adopt(0);
        rig.text("]");
        Rig.check("adopted", rig.written(-1), "4");
        rig.machine.document();
        Rig.check("the text was kept", rig.written(-1), "[1]");
    }

    /** What is made of a document that was adopted changes neither it nor the values of the run it is from. */
    private static void sharedValuesStay() {
        Rig.says("(and the run's values stay)");
        Rig rig = threeValues();
        rig.machine.adopt(1);
        rig.query("BOTH PUT a NUMBER 9 SELF");
        Rig.check("a run that puts", rig.run(9), "{\"a\":9} {\"a\":2} ended 0 left 4");
        Rig.check("the document stays", rig.written(-1), "{\"a\":2}");
    }
}
