import java.io.IOException;
import java.nio.file.Files;
import java.nio.file.Path;
import java.util.ArrayList;
import java.util.List;

/** The examples of README.md: they stand in this file word for word, and answer what README.md says. */
public final class ReadmeTest {
    private static final Check check = new Check();

    private ReadmeTest() {
    }

    public static void main(String[] args) throws IOException {
        text();
        binary();
        sameWords();
        check.end("ReadmeTest");
    }

    private static void text() {
        TunnelDesk desk = new TunnelDesk();
        desk.rule(true, 0, 0, 0, 0, 65535);             // a rule that lets every goal through
        int c = desk.open();                            // a client came: it is connection 0
        for (char b : "CONNECT a.b:80\n\n".toCharArray()) {
            desk.send(c, b);                            // what it says, byte by byte
        }
        int state = desk.about(c, 0);                   // 4, CONNECTING: reach the target, and tell how that went:
        desk.connected(c, true);                        // it was reached, so bytes are relayed from here on
        desk.send(c, 'h');                              // a byte from the client; false would say: later, UP is full
        int forTarget = desk.up(c);                     // 'h'
        desk.give(c, 'i');                              // a byte from the target
        StringBuilder forClient = new StringBuilder();
        for (int b = desk.down(c); b >= 0; b = desk.down(c)) {
            forClient.append((char) b);                 // the status 200 and a byte 10, then 'i'
        }
        desk.finish(c, true);                           // the client sends no more
        desk.finish(c, false);                          // the target neither: both rings are empty, so it is ended
        int end = desk.down(c);                         // OVER: nothing will come; NONE would say: nothing now
        int had = desk.free(c);                         // 6, ENDED: the connection can be opened again
        check.due("text: c", 0, c);
        check.due("text: state", 4, state);
        check.due("text: forTarget", (int) 'h', forTarget);
        check.due("text: forClient", "200\ni", forClient.toString());
        check.due("text: end", TunnelDesk.OVER, end);
        check.due("text: had", 6, had);
    }

    private static void binary() {
        TunnelDesk desk = new TunnelDesk();
        for (char letter : "example.org".toCharArray()) {
            desk.type(letter);
        }
        desk.named(true, 443, 443);                     // lets example.org and www.example.org through
        for (char letter : "ann.secret".toCharArray()) {
            desk.type(letter);
        }
        desk.account();                                 // the user ann, the password secret
        int c = desk.open();
        int[] said = {5, 1, 2,                          // one method, the one with a password
            1, 3, 'a', 'n', 'n', 6, 's', 'e', 'c', 'r', 'e', 't',
            5, 1, 0, 3, 11, 'e', 'x', 'a', 'm', 'p', 'l', 'e', '.', 'o', 'r', 'g', 443 >> 8, 443 & 255};
        for (int b : said) {
            desk.send(c, b);
        }
        int state = desk.about(c, 0);                   // 4, CONNECTING
        desk.connected(c, false);                       // the target was not reached
        int waiting = desk.about(c, 2);                 // 14 bytes for the client: 5 2, 1 0, and the reply 5
        int ended = desk.about(c, 0);                   // 6, ENDED: they can still be taken by down(c)
        check.due("binary: state", 4, state);
        check.due("binary: waiting", 14, waiting);
        check.due("binary: ended", 6, ended);
        check.due("binary: what waits", "5 2 1 0 5 5 0 1 0 0 0 0 0 0 -2", Drive.down(desk, c));
    }

    private static void sameWords() throws IOException {
        String here = String.join("\n", trimmed(Files.readAllLines(Path.of("src/test/java/ReadmeTest.java"))));
        List<String> examples = examples(Files.readAllLines(Path.of("README.md")));
        check.due("examples in README.md", 2, examples.size());
        for (String example : examples) {
            check.due("stands in ReadmeTest:\n" + example, true, here.contains(example));
        }
    }

    private static List<String> examples(List<String> readme) {
        List<String> examples = new ArrayList<>();
        List<String> lines = trimmed(readme);
        for (int from = lines.indexOf("```java"); from >= 0; from = lines.indexOf("```java")) {
            lines = lines.subList(from + 1, lines.size());
            examples.add(String.join("\n", lines.subList(0, lines.indexOf("```"))));
        }
        return examples;
    }

    private static List<String> trimmed(List<String> lines) {
        List<String> trimmed = new ArrayList<>();
        for (String line : lines) {
            trimmed.add(line.trim());
        }
        return trimmed;
    }
}
