import java.io.File;
import java.io.IOException;
import java.nio.file.Files;
import java.nio.file.Path;

/** README.md: its example answers what it says, and its table names every test. */
public final class ReadmeTest {
    public static void main(String[] args) throws IOException {
        String readme = Files.readString(Path.of("README.md"));
        example();
        sameExample(readme);
        everyTestNamed(readme);
        Due.end();
    }

    private static void example() {
        Festoon parade = new Festoon();
        int lantern = parade.make(6, 1, 2);
        int raft = parade.build(5, 900);
        int load = parade.hang(lantern, raft, 0);
        int afloat = parade.launch(raft);
        int left = parade.light(lantern);
        int before = parade.setGust(12, 4);
        int early = parade.pass(11);
        int late = parade.pass(1);
        int state = parade.stateOf(lantern);
        int blown = parade.blownOut();
        int place = parade.placeOf(lantern);
        int best = parade.prize(0);
        int[] got = {lantern, raft, load, afloat, left, before, early, late, state, blown, place, best};
        int[] want = {0, 0, 250, 1, 40, 0, 0, 1, Festoon.DARK, 1, 69, 0};
        for (int i = 0; i < want.length; i++) {
            Due.is("line " + (i + 2) + " of the example", got[i], want[i]);
        }
    }

    /** The lines above are the README's own, and the answer behind // begins each comment there. */
    private static void sameExample(String readme) throws IOException {
        String test = Files.readString(Path.of("src/test/java/ReadmeTest.java"));
        int[] want = {0, 0, 250, 1, 40, 0, 0, 1, 0, 1, 69, 0};
        int at = 0;
        for (String line : readme.split("\n")) {
            if (line.startsWith("int ") && line.contains("// ")) {
                String code = line.substring(0, line.indexOf("//")).trim();
                String answer = line.substring(line.indexOf("// ") + 3).split("[: ]")[0];
                Due.holds("'" + code + "' is tested", test.contains("\n        " + code + "\n"));
                Due.is(code, answer, at < want.length ? "" + want[at] : "no line");
                at++;
            }
        }
        Due.is("lines of the example", at, want.length);
    }

    private static void everyTestNamed(String readme) {
        String[] files = new File("src/test/java").list();
        for (String file : files == null ? new String[0] : files) {
            String name = file.substring(0, file.length() - ".java".length());
            boolean named = readme.contains(name.endsWith("Test") ? "| " + name + " |" : name);
            Due.holds(name + " stands in README.md", named);
        }
        Due.holds("there are tests", files != null && files.length > 0);
    }
}
