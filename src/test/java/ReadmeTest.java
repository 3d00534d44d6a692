import java.io.IOException;
import java.nio.charset.StandardCharsets;
import java.nio.file.Files;
import java.nio.file.Path;

/** The example of README.md answers what it says. It runs in the project's directory, as .ci/run does. */
public final class ReadmeTest {
    private static final Due DUE = new Due();

    public static void main(String[] args) throws IOException {
        example();
        String own = Files.readString(Path.of("src/test/java/ReadmeTest.java"), StandardCharsets.UTF_8);
        String readme = Files.readString(Path.of("README.md"), StandardCharsets.UTF_8);
        String here = between(own, "// as in README.md:\n", "        // .\n").replaceAll("(?m)^ {8}", "");
        DUE.is("the example of README.md", between(readme, "```java\n", "```\n"), here);
        DUE.end();
    }

    private static void example() {
        // as in README.md:
        MailArchive archive = new MailArchive();
        archive.feed(0x5375626a, 0x6563743a, 0x2068690a, 0, 0);   // "Subject: hi\n"
        int onTape = archive.end(12);                             // 12
        int message = archive.add();                              // 0
        archive.feed(0x6e657700, 0, 0, 0, 0);                     // "new"
        archive.end(3);
        boolean changed = archive.tag(message, true);             // true
        archive.feed(0x68692a20, 0x7461673a, 0x6e657700, 0, 0);   // "hi* tag:new"
        archive.end(11);
        int matches = archive.search();                           // 1
        int first = archive.found(0);                             // 0
        int wordsInSubject = archive.about(first, 7);             // 1
        int letter = archive.at(first, 2, 0, 1);                  // 'i'
        int conversations = archive.conversations();              // 1
        int thread = archive.thread(0);                           // 0
        archive.feed(0x68692028, 0, 0, 0, 0);                     // "hi ("
        archive.end(4);
        int place = MailArchive.NONE;
        try {
            archive.search();
        } catch (IllegalArgumentException e) {
            place = archive.fault() - 1;                          // 4, the query's end
        }
        // .
        DUE.is("onTape", onTape, 12);
        DUE.is("message", message, 0);
        DUE.is("changed", changed, true);
        DUE.is("matches", matches, 1);
        DUE.is("first", first, 0);
        DUE.is("wordsInSubject", wordsInSubject, 1);
        DUE.is("letter", letter, 'i');
        DUE.is("conversations", conversations, 1);
        DUE.is("thread", thread, 0);
        DUE.is("place", place, 4);
    }

    private static String between(String text, String begin, String end) {
        int from = text.indexOf(begin) + begin.length();
        return text.substring(from, text.indexOf(end, from));
    }
}
