import java.io.IOException;
import java.nio.file.Files;
import java.nio.file.Path;
import java.util.List;

/** The calls that README.md shows: that they stand there, and that they answer what it says. */
final class ReadmeTest {
    private static final List<String> SHOWN = List.of(
        "QueryMachine machine = new QueryMachine();", "machine.text(0x5B312C20325DL, 6);", "machine.document();",
        "machine.bytes(0x16030581L, 4);", "machine.query();", "int count = machine.run(100);",
        "long first = machine.integer(0);", "int ended = machine.ended();", "int length = machine.written(1, -1);",
        "machine.adopt(1);");

    public static void main(String[] args) throws IOException {
        String readme = Files.readString(Path.of("README.md"));
        for (String call : SHOWN) {
            Rig.check("README.md shows " + call, readme.contains(call), true);
        }
        shownCallsAnswer();
        Rig.end(ReadmeTest.class);
    }

    private static void shownCallsAnswer() {
        QueryMachine machine = new QueryMachine();
        machine.text(0x5B312C20325DL, 6);
        machine.document();
        machine.bytes(0x16030581L, 4);
        machine.query();
        Rig.check("count", machine.run(100), 2);
        Rig.check("first", machine.integer(0), 2L);
        Rig.check("ended", machine.ended(), 0);
        Rig.check("length", machine.written(1, -1), 1);
        Rig.check("the text", (char) machine.written(1, 0), '3');
        machine.adopt(1);
        Rig.check("the document", machine.integer(-1), 3L);
    }
}
