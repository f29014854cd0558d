import java.io.IOException;
import java.nio.file.Files;
import java.nio.file.Path;
import java.util.ArrayList;
import java.util.Arrays;
import java.util.LinkedHashMap;
import java.util.List;
import java.util.Map;

/** The document's words, to see that each quote stands in it and that no sentence is without one. */
final class Document {
    private final Map<String, String> bodies = new LinkedHashMap<>();

    Document(Path file) throws IOException {
        for (String part : ("\n" + Files.readString(file)).split("\n## ")) {
            String head = part.lines().findFirst().orElse("");
            String body = part.substring(Math.min(part.length(), head.length()));
            bodies.put(head.replaceAll(":.*", ""), plain(body));
        }
    }

    /** Without what is no sentence: marks, the promises' signatures, the heads of the interface. */
    private static String plain(String body) {
        return body.replaceAll("```(text)?", " ").replaceAll("======== \\d", " ")
                .replaceAll("(?m)^`[^`]*`:", " ")
                .replaceAll("Ahead of the calls [^\n]* the interface says: ---- [^.\n]*\\.", " ")
                .replaceAll("\\s+", " ").strip();
    }

    /** Quotes that are not there, once and word by word; and the words of Terms and promises that no quote has. */
    List<String> complaints(List<String[]> quotes) {
        List<String> all = new ArrayList<>();
        Map<String, boolean[]> had = new LinkedHashMap<>();
        bodies.forEach((head, body) -> had.put(head, new boolean[body.length()]));
        for (String[] quote : quotes) {
            String body = bodies.getOrDefault(quote[0], "");
            int from = body.indexOf(quote[1]);
            if (from < 0 || body.indexOf(quote[1], from + 1) >= 0) {
                all.add("not there just once, under " + quote[0] + ": " + quote[1]);
            } else {
                Arrays.fill(had.get(quote[0]), from, from + quote[1].length(), true);
            }
        }
        bodies.forEach((head, body) -> {
            String left = left(body, had.get(head));
            if ((head.equals("Terms") || head.startsWith("Promise ")) && !left.isBlank()) {
                all.add("no test quotes, under " + head + ": " + left);
            }
        });
        return all;
    }

    private static String left(String body, boolean[] had) {
        StringBuilder left = new StringBuilder();
        for (int i = 0; i < body.length(); i++) {
            left.append(had[i] ? ' ' : body.charAt(i));
        }
        return left.toString().replaceAll("\\s+", " ");
    }
}
