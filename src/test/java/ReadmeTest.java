import java.io.IOException;
import java.nio.file.Files;
import java.nio.file.Path;
import java.util.ArrayList;
import java.util.List;

/**
 * The example in README.md: the same calls stand here with the answers that it tells. Run from the
 * project's directory, where README.md is found.
 */
public final class ReadmeTest {
    public static void main(String[] args) throws IOException {
        answersOfTheExample();
        theExampleIsTheOneHere();
        Checks.finish();
    }

    private static void answersOfTheExample() {
        ListForge forge = new ListForge();
        int code = forge.ask(0, 1, 0);
        int live = forge.confirm(code);
        forge.confirm(forge.ask(0, 2, 1));
        forge.moderator(0, 2, true);
        Checks.same("code", code, 1);
        Checks.same("live", live, 1);

        int first = forge.post(0, 2, 50, 3);
        int inBundle = forge.count(30);
        int next = forge.post(0, 1, 101, 3);
        int held = forge.judge(2, next, 1);
        Checks.same("first", first, 0);
        Checks.same("inBundle", inBundle, 1);
        Checks.same("next", next, 1);
        Checks.same("held", held, 0);

        double score = forge.bounce(0, 1, true);
        int today = forge.tick(3);
        Checks.same("score", score, 1.0);
        Checks.same("today", today, 3);
        Checks.same("the score has faded", forge.score(0, 1) < score, true);

        int sent = forge.count(4);
        int to = forge.sent(sent - 1, 0);
        int sort = forge.sent(sent - 1, 2);
        Checks.same("sent", sent, 6);
        Checks.same("to", to, 2);
        Checks.same("sort", sort, 1);
        Checks.same("all", Checks.sentFrom(forge, 0), "1 0 2 0, 2 0 2 0, 1 0 0 0, 2 0 3 1, 1 0 4 1, 2 0 1 1");
    }

    private static void theExampleIsTheOneHere() throws IOException {
        List<String> here = Files.readAllLines(Path.of("src/test/java/ReadmeTest.java"));
        here.replaceAll(String::trim);
        List<String> example = exampleLines();
        Checks.same("there is an example", example.isEmpty(), false);
        int from = 0;
        for (String line : example) {
            int found = here.subList(from, here.size()).indexOf(line);
            Checks.same("in this order here: " + line, found >= 0, true);
            from += found + 1;
        }
    }

    private static List<String> exampleLines() throws IOException {
        List<String> lines = new ArrayList<>();
        boolean inside = false;
        for (String line : Files.readAllLines(Path.of("README.md"))) {
            if (line.startsWith("```")) {
                inside = line.equals("```java");
            } else if (inside && !line.isBlank()) {
                lines.add(withoutComment(line));
            }
        }
        return lines;
    }

    private static String withoutComment(String line) {
        int comment = line.indexOf("//");
        return (comment < 0 ? line : line.substring(0, comment)).trim();
    }
}
