/** Promise 2. */
final class TextTest {
    private static final long EIGHT_ONES = 0x3131313131313131L;

    public static void main(String[] args) {
        lowestBytes();
        highestFirst();
        wrongAmounts();
        wrongCharacters();
        bytesAboveTheLowest();
        moreThan120();
        whichComesFirst();
        emptyBehindADocument();
        Rig.end(TextTest.class);
    }

    private static void lowestBytes() {
        Rig.says("the lowest n bytes of bytes");
        for (int n = 1; n <= 8; n++) {
            QueryMachine machine = new QueryMachine();
            machine.text(0x3132333435363738L, n);
            machine.document();
            Rig.check("the lowest " + n, String.valueOf(machine.integer(-1)), "12345678".substring(8 - n));
        }
    }

    private static void highestFirst() {
        Rig.says("Appends n characters to the text of the next document: the lowest n bytes of bytes, the highest first.");
        QueryMachine machine = new QueryMachine();
        machine.text(0x31323334L, 4);
        machine.text(0x3536373839303132L, 8);
        machine.text(0x33L, 1);
        machine.document();
        Rig.check("one behind the other", machine.integer(-1), 1234567890123L);
    }

    private static void wrongAmounts() {
        Rig.says("IllegalArgumentException: n is not 1 .. 8");
        QueryMachine machine = new QueryMachine();
        for (int n : new int[] {0, -1, 9, 16, -8, 257, Integer.MIN_VALUE, Integer.MAX_VALUE}) {
            Rig.check("text with n " + n, Rig.thrown(() -> machine.text(EIGHT_ONES, n)), Rig.ARGUMENT);
        }
        Rig.check("still empty", Rig.thrown(machine::document), Rig.ARGUMENT);
        Rig.check("bad at its length", machine.bad(), 0);
        for (int n : new int[] {1, 8}) {
            Rig.check("text with n " + n, Rig.thrown(() -> machine.text(EIGHT_ONES, n)), Rig.NOTHING_THROWN);
        }
        machine.document();
        Rig.check("these came", machine.integer(-1), 111111111L);
    }

    private static void wrongCharacters() {
        Rig.says("or a character not 32 .. 126");
        for (int c = 0; c < 256; c++) {
            int character = c;
            String due = c >= 32 && c <= 126 ? Rig.NOTHING_THROWN : Rig.ARGUMENT;
            Rig.check("character " + c, Rig.thrown(() -> new QueryMachine().text(character, 1)), due);
        }
        QueryMachine machine = new QueryMachine();
        for (int i = 0; i < 8; i++) {
            for (long c : new long[] {0, 31, 127, 128, 255}) {
                long bytes = EIGHT_ONES & ~(255L << 8 * i) | c << 8 * i;
                Rig.check(c + " at " + i, Rig.thrown(() -> machine.text(bytes, 8)), Rig.ARGUMENT);
            }
        }
        machine.text('7', 1);
        machine.document();
        Rig.check("nothing of these was appended", machine.integer(-1), 7L);
    }

    private static void bytesAboveTheLowest() {
        Rig.says("the lowest n bytes of bytes");
        QueryMachine machine = new QueryMachine();
        machine.text(0x0001020331323334L, 4);
        machine.text(-1L << 8 | 0x35, 1);
        machine.text(Long.MIN_VALUE | 0x36, 1);
        machine.document();
        Rig.check("what stands above is not looked at", machine.integer(-1), 123456L);
    }

    private static Rig ofLength(int length) {
        return new Rig().text("1" + " ".repeat(length - 1));
    }

    private static void moreThan120() {
        Rig.says("IllegalStateException: there would be more than 120.");
        for (int n = 1; n <= 8; n++) {
            int amount = n;
            long blanks = 0x2020202020202020L;
            Rig full = ofLength(120 - n);
            Rig.check("120 by " + n, Rig.thrown(() -> full.machine.text(blanks, amount)), Rig.NOTHING_THROWN);
            Rig.check("121 by 1", Rig.thrown(() -> full.machine.text(' ', 1)), Rig.STATE);
            Rig over = ofLength(121 - n);
            Rig.check("121 by " + n, Rig.thrown(() -> over.machine.text(blanks, amount)), Rig.STATE);
            Rig.check("128 by 8", Rig.thrown(() -> ofLength(120).machine.text(blanks, 8)), Rig.STATE);
        }
        Rig rig = ofLength(119);
        Rig.check("121", Rig.thrown(() -> rig.machine.text(0x5D5D, 2)), Rig.STATE);
        rig.text("]");
        Rig.check("the text stayed as it was", Rig.thrown(rig.machine::document), Rig.ARGUMENT);
        Rig.check("119 characters and one", rig.machine.bad(), 119);
    }

    private static void whichComesFirst() {
        Rig.says("IllegalArgumentException: n is not 1 .. 8, or a character not 32 .. 126; IllegalStateException:");
        QueryMachine full = ofLength(120).machine;
        Rig.check("a wrong character and too many", Rig.thrown(() -> full.text(0x2000, 2)), Rig.ARGUMENT);
        Rig.check("a wrong amount and too many", Rig.thrown(() -> full.text(EIGHT_ONES, 9)), Rig.ARGUMENT);
        Rig.check("no amount", Rig.thrown(() -> full.text(EIGHT_ONES, 0)), Rig.ARGUMENT);
    }

    private static void emptyBehindADocument() {
        Rig.says("The text becomes the document, and is empty afterwards, also when this throws.");
        Rig rig = ofLength(120);
        rig.machine.document();
        rig.text("x" + " ".repeat(119));
        Rig.check("120 more", Rig.thrown(rig.machine::document), Rig.ARGUMENT);
        rig.text("2" + " ".repeat(119));
        Rig.check("and 120 more", Rig.thrown(() -> rig.machine.text(' ', 1)), Rig.STATE);
        rig.machine.document();
        Rig.check("the last", rig.machine.integer(-1), 2L);
    }
}
