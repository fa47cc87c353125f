import java.io.IOException;
import java.nio.file.Files;
import java.nio.file.Path;

/** The example of README.md: its calls answer what it says. */
public final class ReadmeTest {
    public static void main(String[] args) throws IOException {
        String readme = Files.readString(Path.of("README.md"));
        Check.test("the example answers what it says", () -> example(readme));
        Check.end();
    }

    private static void example(String readme) {
        CyclePatterns x = new CyclePatterns();
        says(readme, "x.type(0x5B61625DL, 4); // \"[ab]\", the highest byte first: ", x.type(0x5B61625DL, 4));
        says(readme, "x.define(0); // ", x.define(0));
        says(readme, "x.query(0, 0, 3, 2); // from time 0 to 3 / 2: ", x.query(0, 0, 3, 2));
        says(readme, "x.unit(); // ", x.unit());
        says(readme, "x.part(1, 0); // ", x.part(1, 0));
        says(readme, "x.part(1, 4); // ", x.part(1, 4));
        says(readme, "x.onsets(); // ", x.onsets());
        x.type(0x61, 1);
        says(readme, "x.define(1); // ", x.define(1));
        says(readme, "x.differ(0, 1); // ", x.differ(0, 1));
        says(readme, "x.play(1, 2, 1); // ", x.play(1, 2, 1));
        says(readme, "x.advance(500); // ", x.advance(500));
        says(readme, "x.due(1, 0); // ", x.due(1, 0));
        says(readme, "x.due(1, 3); // ", x.due(1, 3));
        says(readme, "x.tick(); // ", x.tick());
    }

    /** The word behind a call in README.md, however many blanks stand there, is its answer. */
    private static void says(String readme, String call, Object answer) {
        String oneBlank = readme.replaceAll("[ \\n]+", " ");
        int start = oneBlank.indexOf(call);
        String rest = start < 0 ? "nothing" : oneBlank.substring(start + call.length());
        Check.due(call, rest.split("\\W", 2)[0], String.valueOf(answer));
    }
}
