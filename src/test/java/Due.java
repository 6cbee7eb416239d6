import java.io.IOException;
import java.io.UncheckedIOException;
import java.nio.file.Files;
import java.nio.file.Path;
import java.util.List;

/** Counts the answers of one test that are not as due; what the project's tests share. */
final class Due {
    private static final Path DOCUMENT = Path.of("../shared/DOC.md");

    private final String test;
    private String document;
    private String sentence = "";
    private int asked;
    private int wrong;

    Due(String test) {
        this.test = test;
    }

    /** What comes next holds the program to these words of the document: they must stand there. */
    void sentence(String words) {
        sentence = "";
        if (document == null) {
            document = readDocument();
        }
        holds("the document says \"" + words + "\"", document.contains(words));
        sentence = "\"" + words + "\": ";
    }

    private static String readDocument() {
        try {
            return Files.readString(DOCUMENT).replaceAll("\\s+", " ");
        } catch (IOException missing) {
            throw new UncheckedIOException(missing);
        }
    }

    void is(String call, long want, long got) {
        asked++;
        if (want != got) {
            tell(call + " answered " + got + ", due is " + want);
        }
    }

    void holds(String what, boolean does) {
        is(what, 1, does ? 1 : 0);
    }

    /** Compares two rows of answers; tells the first that is unlike. */
    void same(String what, List<String> want, List<String> got) {
        asked++;
        if (want.equals(got)) {
            return;
        }
        int at = 0;
        while (at < want.size() && at < got.size() && want.get(at).equals(got.get(at))) {
            at++;
        }
        String first = at < got.size() ? got.get(at) : "nothing more";
        tell(what + ": " + first + ", due is " + (at < want.size() ? want.get(at) : "nothing more"));
    }

    private void tell(String what) {
        wrong++;
        if (wrong <= 40) {
            System.out.println(test + ": " + sentence + what);
        }
    }

    boolean isWrong() {
        return wrong > 0;
    }

    void close() {
        System.out.println(test + ": " + asked + " answers, " + wrong + " not as due");
        if (wrong > 0 || asked == 0) {
            System.exit(1);
        }
    }

    static void write(OneSkate skate, String text) {
        for (int i = 0; i < text.length(); i++) {
            skate.write(1, text.charAt(i));
        }
    }

    /** Writes a text by as few calls as can be. */
    static void writeWide(OneSkate skate, String text) {
        for (int i = 0; i < text.length(); i += 8) {
            int n = Math.min(8, text.length() - i);
            long v = 0;
            for (int k = 0; k < n; k++) {
                v = v << 8 | text.charAt(i + k);
            }
            skate.write(n, v);
        }
    }

    /** A new object whose town is told by this text. */
    static OneSkate townOf(String text) {
        OneSkate skate = new OneSkate();
        writeWide(skate, text);
        if (skate.town() < 0) {
            throw new IllegalStateException("no town: " + text);
        }
        return skate;
    }
}
