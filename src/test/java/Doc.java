import java.io.IOException;
import java.nio.charset.StandardCharsets;
import java.nio.file.Files;
import java.nio.file.Path;

/** DOC.md, read on from one quote to the next: so no sentence of it is passed over, and a changed one is seen. */
final class Doc {
    /** With one blank where blanks or ends of lines stand; null: DOC.md isn't there. */
    private static String text;
    private static int at;

    private Doc() {
    }

    static void open() throws IOException {
        Path path = Path.of(System.getProperty("knit.document", "../shared/DOC.md"));
        if (Files.exists(path)) {
            text = Files.readString(path, StandardCharsets.ISO_8859_1).replaceAll("\\s+", " ").strip();
        } else {
            System.out.println("there is no " + path + ": what is quoted of it can't be looked up");
        }
    }

    /** The document goes on with these words. */
    static void says(String quote) {
        if (text == null) {
            return;
        }
        boolean found = text.startsWith(quote, at);
        Due.due("DOC.md goes on with \"" + quote + "\"", found ? 1 : 0, 1);
        int place = found ? at : text.indexOf(quote, at);
        if (place >= 0) {
            at = place + quote.length();
            while (at < text.length() && text.charAt(at) == ' ') {
                at++;
            }
        }
    }

    /** All of it was quoted. */
    static void close() {
        if (text != null) {
            Due.due("what DOC.md says behind the last quote: \"" + text.substring(at) + "\"", text.length() - at, 0);
        }
    }
}
