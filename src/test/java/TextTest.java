/** Promise 2. */
final class TextTest {
    public static void main(String[] args) {
        lowestBytesTheHighestFirst();
        wrongAmounts();
        wrongCharacters();
        tooMany();
        Rig.end(TextTest.class);
    }

    private static void lowestBytesTheHighestFirst() {
        Rig rig = new Rig();
        rig.machine.text(0x0001020331323334L, 4);
        rig.machine.text(0x3536373839303132L, 8);
        rig.machine.text(-1L << 8 | 0x33, 1);
        rig.machine.document();
        Rig.check("digits", rig.machine.integer(-1), 1234567890123L);
    }

    private static void wrongAmounts() {
        QueryMachine machine = new QueryMachine();
        for (int n : new int[] {0, -1, 9, 16, Integer.MIN_VALUE, Integer.MAX_VALUE}) {
            Rig.check("text with n " + n, Rig.thrown(() -> machine.text(0x3131313131313131L, n)), Rig.ARGUMENT);
        }
        Rig.check("still empty", Rig.thrown(machine::document), Rig.ARGUMENT);
        Rig.check("bad at its length", machine.bad(), 0);
    }

    private static void wrongCharacters() {
        for (int c = 0; c < 256; c++) {
            int character = c;
            String due = c >= 32 && c <= 126 ? Rig.NOTHING_THROWN : Rig.ARGUMENT;
            QueryMachine machine = new QueryMachine();
            Rig.check("character " + c, Rig.thrown(() -> machine.text(character, 1)), due);
        }
        QueryMachine machine = new QueryMachine();
        Rig.check("first of eight", Rig.thrown(() -> machine.text(0x1F31313131313131L, 8)), Rig.ARGUMENT);
        Rig.check("last of eight", Rig.thrown(() -> machine.text(0x313131313131317FL, 8)), Rig.ARGUMENT);
        machine.text('7', 1);
        machine.document();
        Rig.check("nothing of these was appended", machine.integer(-1), 7L);
    }

    private static void tooMany() {
        Rig rig = new Rig().text("1" + " ".repeat(118));
        QueryMachine machine = rig.machine;
        Rig.check("121 characters", Rig.thrown(() -> machine.text(0x2020, 2)), Rig.STATE);
        Rig.check("a wrong character comes before", Rig.thrown(() -> machine.text(0x2000, 2)), Rig.ARGUMENT);
        Rig.check("a wrong amount comes before", Rig.thrown(() -> machine.text(0x2020, 9)), Rig.ARGUMENT);
        Rig.check("120 characters", Rig.thrown(() -> machine.text(' ', 1)), Rig.NOTHING_THROWN);
        Rig.check("one more", Rig.thrown(() -> machine.text(' ', 1)), Rig.STATE);
        machine.document();
        Rig.check("the text stayed", machine.integer(-1), 1L);
        Rig.check("empty again", Rig.thrown(() -> machine.text(' ', 1)), Rig.NOTHING_THROWN);
    }
}
