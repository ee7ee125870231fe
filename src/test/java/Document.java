import java.io.IOException;
import java.nio.file.Files;
import java.nio.file.Path;
import java.util.ArrayList;
import java.util.Arrays;
import java.util.LinkedHashMap;
import java.util.List;
import java.util.Map;
import java.util.regex.Matcher;
import java.util.regex.Pattern;

/**
 * The words of ../shared/DOC.md by their parts, "what it is", "section 1" to "section 6" and "promise 1" to "promise 42",
 * so that each test tells the sentence that it holds the class to, and a sentence that no test tells is found.
 */
final class Document {
    private static final Path FILE = Path.of("../shared/DOC.md");
    private static final Pattern SECTION = Pattern.compile("(\\d)\\. [A-Z][a-z, ]+");
    private static final Pattern PROMISE = Pattern.compile("## Promise (\\d+): .*");

    /** What needs no words of a test: signatures, and how a line of a promise begins. */
    private static final Pattern BEGINNING =
        Pattern.compile("(`[a-zA-Z ]*\\(.*\\)[^`]*`: )?(- `[a-zA-Z]+`: |Throws `[A-Za-z]+` |Returns )?");

    private static final Map<String, String> PARTS = new LinkedHashMap<>();
    private static final Map<String, boolean[]> TOLD = new LinkedHashMap<>();

    private Document() { }

    static {
        read();
    }

    private static void read() {
        List<String> lines = new ArrayList<>();
        try {
            lines = Files.exists(FILE) ? Files.readAllLines(FILE) : lines;
        } catch (IOException e) {
            throw new Error(e);
        }
        if (lines.isEmpty()) {
            System.out.println("no " + FILE + " here: the sentences are not compared with it");
        }
        String part = "";
        for (String line : lines) {
            Matcher section = SECTION.matcher(line);
            Matcher promise = PROMISE.matcher(line);
            if (section.matches()) {
                part = "section " + section.group(1);
            } else if (promise.matches()) {
                part = "promise " + promise.group(1);
            } else if (line.startsWith("## ")) {
                part = line.equals("## What it is") ? "what it is" : "";
            } else if (!part.isEmpty() && !line.isBlank() && !line.startsWith("Ahead of the calls ")) {
                PARTS.merge(part, line + "\n", String::concat);
            }
        }
        PARTS.forEach((name, words) -> TOLD.put(name, beginnings(words)));
    }

    private static boolean[] beginnings(String words) {
        boolean[] told = new boolean[words.length()];
        int at = 0;
        for (String line : words.split("\n")) {
            Matcher beginning = BEGINNING.matcher(line);
            if (beginning.lookingAt()) {
                Arrays.fill(told, at, at + beginning.end(), true);
            }
            at += line.length() + 1;
        }
        return told;
    }

    /** Notes that a test holds the class to these words; false if they do not stand in the part. */
    static boolean tell(String part, String words) {
        if (PARTS.isEmpty()) {
            return true;
        }
        String all = PARTS.getOrDefault(part, "");
        boolean stand = true;
        for (String piece : words.split(" // ")) {
            int at = all.indexOf(piece);
            stand &= at >= 0;
            for (; at >= 0; at = all.indexOf(piece, at + 1)) {
                Arrays.fill(TOLD.get(part), at, at + piece.length(), true);
            }
        }
        return stand;
    }

    /** The pieces of a part that no test has told. */
    static List<String> untold(String part) {
        List<String> pieces = new ArrayList<>();
        String all = PARTS.getOrDefault(part, "");
        boolean[] told = TOLD.get(part);
        StringBuilder piece = new StringBuilder();
        for (int at = 0; at < all.length(); at++) {
            boolean isOpen = !told[at] && all.charAt(at) != '\n';
            if (isOpen) {
                piece.append(all.charAt(at));
            }
            if (!isOpen || at + 1 == all.length()) {
                if (piece.chars().anyMatch(Character::isLetterOrDigit)) {
                    pieces.add(piece.toString().trim());
                }
                piece.setLength(0);
            }
        }
        return pieces;
    }
}
