import java.io.IOException;
import java.nio.file.Files;
import java.nio.file.Path;
import java.util.ArrayList;
import java.util.List;

/** The example of README.md: it stands here too, word by word but for its comments, and answers what they say. */
final class ReadmeTest {
    private ReadmeTest() {
    }

    public static void main(String[] args) throws IOException {
        answersOfTheExample();
        linesOfTheExample();
        Check.end();
    }

    private static void answersOfTheExample() {
        MountainPost post = new MountainPost();
        int valley = post.addStation(400);
        int pass = post.addStation(1800);
        int road = post.build(valley, pass, 4);
        post.addMule(road, 2, false);
        int letter = post.post(valley, pass, 5);
        int hour = post.arrives(letter);
        int come = post.pass(12);
        int state = post.letter(letter, 3);
        double mean = post.mean();

        int answer = post.post(pass, valley, 0);
        post.setSight(valley, pass, true);
        int others = post.recall(answer);
        post.pass(1);
        int turned = post.letter(answer, 3);

        Check.due("hour", 11, () -> hour);
        Check.due("come", 1, () -> come);
        Check.due("state", 2, () -> state);
        Check.due("mean", 11.0, () -> mean);
        Check.due("others", 1, () -> others);
        Check.due("turned", 3, () -> turned);
    }

    private static void linesOfTheExample() throws IOException {
        List<String> here = new ArrayList<>();
        for (String line : Files.readAllLines(Path.of("src", "test", "java", "ReadmeTest.java"))) {
            here.add(line.strip());
        }
        String readme = Files.readString(Path.of("README.md"));
        int start = readme.indexOf("```java\n") + "```java\n".length();
        List<String> example = readme.substring(start, readme.indexOf("```", start)).lines().toList();
        for (String line : example) {
            String code = line.replaceAll("//.*", "").strip();
            Check.due("README.md: " + code + " stands in this test", true, () -> here.contains(code));
        }
        Check.due("the example was found", true, () -> example.size() > 10);
    }
}
