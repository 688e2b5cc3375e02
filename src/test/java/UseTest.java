import java.io.IOException;
import java.nio.file.Files;
import java.nio.file.Path;
import java.util.regex.Matcher;
import java.util.regex.Pattern;

/** README.md tells how the class is used: its examples stand here, too, word for word, and answer as they say. */
public final class UseTest {
    private static final Path ROOT = Path.of(System.getProperty("root", "."));

    public static void main(String[] args) throws IOException {
        examples();
        sameText();
        namesCalls();
        Check.done("UseTest");
    }

    private static void examples() {
        // README begins
        PictureStudio studio = new PictureStudio();
        studio.open(16, 16);
        int sky = studio.layer(3, -1, 0);              // a RAMP, the lowest of the DOCUMENT
        studio.colours(sky, 0xFF2040A0, 0xFFA0C0FF);
        studio.ramp(sky, 0, 0, 0, 15);
        int sun = studio.layer(0, -1, 1);              // PIXELS above it
        studio.front(0xFFFFE080);
        studio.select(2, 0, 4, 2, 6, 6);               // an ellipse
        int changed = studio.fill(sun, 0);             // how many pixels changed
        int middle = studio.see(7, 5);                 // what is seen there: A, R, G, B, A the highest byte
        // README ends
        Check.due("how many pixels the ellipse has", changed, studio.select(2, 0, 4, 2, 6, 6));
        Check.dueColour("the sun", middle, 0xFFFFE080);
        Check.dueColour("the sky", studio.see(0, 0), 0xFF2040A0);
        studio.select(0, 0, 0, 0, 0, 0);
        // README begins
        byte[] file = new byte[studio.made(-1)];       // a PNG of what is seen comes to OUT
        long eight = 0;
        for (int i = 0; i < file.length; i++) {
            eight = i % 8 == 0 ? studio.octets(i) : eight << 8;
            file[i] = (byte) (eight >>> 56);
        }
        // README ends
        Check.dueText("the file", java.util.Arrays.toString(file), java.util.Arrays.toString(PngFile.out(studio)));
        int before = studio.hash();
        // README begins
        for (int i = 0; i < file.length; i += 20) {
            int[] five = new int[5];
            for (int k = i; k < i + 20 && k < file.length; k++) {
                five[(k - i) / 4] |= (file[k] & 255) << 24 - 8 * (k % 4);
            }
            studio.feed(five[0], five[1], five[2], five[3], five[4]);
        }
        studio.end(file.length);                       // what the last feed gave too many goes
        int read = studio.png();                       // the file as a new LAYER of PIXELS, the highest
        int left = studio.undo();                      // gone again: how many EDITS can still be undone
        // README ends
        Check.due("the LAYER read", read, 2);
        Check.due("EDITS left", left, 5);
        studio.redo();
        studio.drop(sky);
        studio.drop(sun);
        Check.due("what was read is what was seen", studio.hash(), before);
        // README begins
        try {
            studio.png();                              // INPUT is empty now
        } catch (UnsupportedOperationException e) {
            int which = studio.fault(0);               // 1: the first eight bytes are no PNG's
            int where = studio.fault(1);               // 0: at the first byte
            // README ends
            Check.due("which FAULT", which, 1);
            Check.due("where", where, 0);
        }
    }

    /** What stands between the marks is what stands in README.md, but for how far it is set in. */
    private static void sameText() throws IOException {
        String told = part(Files.readString(ROOT.resolve("README.md")), "```java\n(.*?)```");
        String run = part(Files.readString(ROOT.resolve("src/test/java/UseTest.java")), "// README begins\n(.*?)// README ends\n");
        Check.dueText("the examples of README.md", words(told), words(run));
    }

    /** The last mark stands ahead of the bracket that closes the last example. */
    private static String words(String text) {
        return text.replaceAll("\\s+", " ").replaceAll("[ }]+$", "").strip();
    }

    private static String part(String text, String pattern) {
        StringBuilder all = new StringBuilder();
        Matcher found = Pattern.compile(pattern, Pattern.DOTALL).matcher(text);
        while (found.find()) {
            all.append(found.group(1));
        }
        return all.toString();
    }

    /** Each call of the document is named in README.md. */
    private static void namesCalls() throws IOException {
        String readme = Files.readString(ROOT.resolve("README.md"));
        Matcher call = Pattern.compile("^## Promise \\d+: (\\w+)$", Pattern.MULTILINE)
            .matcher(Files.readString(ROOT.resolve("../shared/DOC.md")));
        int many = 0;
        while (call.find()) {
            Check.due("README.md names " + call.group(1), readme.contains("`" + call.group(1) + "`") ? 1 : 0, 1);
            many++;
        }
        Check.due("how many calls the document has, but for the constructor", many, 48);
    }
}
