import java.nio.charset.StandardCharsets;
import java.util.ArrayList;
import java.util.Arrays;
import java.util.List;

/**
 * What a test asks of readers: it counts its checks, prints each that fails with the sentence of the document that it
 * stands for, and ends with 1 if there was one. Some checks make more than the 512 calls that the document promises
 * answers for, as a full source and its octets can't be had with fewer.
 */
class Checks {
    private static int wrong = 0;
    private static int checks = 0;
    private static String sentence = "";

    /** The sentence of the document that the checks from here on are made for. */
    static void says(String words) {
        sentence = words;
    }

    static void same(String what, Object want, Object got) {
        checks++;
        if (!want.equals(got)) {
            wrong++;
            System.out.println(sentence + " [" + what.replace("\n", "|") + "] answered " + got + ", due is " + want);
        }
    }

    /** A source is read as said: "text @line #depth" for each plain line, then "end" or "kind K @line". */
    static void reads(String source, String... want) {
        MacroReader reader = begun(source);
        same(source, Arrays.asList(want), answers(reader, want.length + 2));
    }

    static MacroReader begun(String source) {
        MacroReader reader = typed(new MacroReader(), source);
        reader.begin();
        return reader;
    }

    static List<String> answers(MacroReader reader, int most) {
        List<String> answers = new ArrayList<>();
        for (int i = 0; i < most; i++) {
            int length;
            try {
                length = reader.next();
            } catch (IllegalArgumentException e) {
                answers.add("kind " + reader.fault() + " @" + reader.line());
                return answers;
            }
            if (length < 0) {
                answers.add("end");
                return answers;
            }
            answers.add(latest(reader, length) + " @" + reader.line() + " #" + reader.depth());
        }
        return answers;
    }

    static String latest(MacroReader reader, int length) {
        StringBuilder text = new StringBuilder();
        for (int i = 0; i < length; i++) {
            text.append((char) reader.octet(i));
        }
        return text.toString();
    }

    static MacroReader typed(MacroReader reader, String source) {
        byte[] bytes = source.getBytes(StandardCharsets.ISO_8859_1);
        for (int from = 0; from < bytes.length; from += 8) {
            int n = Math.min(8, bytes.length - from);
            long word = 0;
            for (int i = 0; i < n; i++) {
                word = word << 8 | bytes[from + i] & 255;
            }
            if (!reader.type(word, n)) {
                same("typing", "true", "false");
            }
        }
        return reader;
    }

    /** What next answers, or the name of the exception that it throws. */
    static String throwsAtNext(MacroReader reader) {
        try {
            return "" + reader.next();
        } catch (RuntimeException e) {
            return e.getClass().getSimpleName();
        }
    }

    /** The first octet, the line, the fault and the depth. */
    static String state(MacroReader reader) {
        return reader.octet(0) + " " + reader.line() + " " + reader.fault() + " " + reader.depth();
    }

    static String times(String part, int n) {
        return part.repeat(n);
    }

    static void finish() {
        System.out.println(wrong == 0 ? checks + " checks hold" : wrong + " of " + checks + " checks fail");
        if (wrong != 0) {
            System.exit(1);
        }
    }
}
