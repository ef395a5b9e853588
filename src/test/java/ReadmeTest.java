import java.io.IOException;
import java.lang.reflect.Method;
import java.nio.file.Files;
import java.nio.file.Path;
import java.util.List;

/** The example of README.md answers what stands beside it there. It is run from the project's root. */
public final class ReadmeTest {
    public static void main(String[] args) throws IOException {
        GlossaryCrown house = new GlossaryCrown();
        int concept = house.concept(2);
        int term = house.term(concept, 0, 7);
        for (int voter = 0; voter < 3; voter++) {
            Due.is("vote " + voter, house.vote(term, voter, true), voter < 2 ? 0 : 1);
        }
        int document = house.document();
        Due.is("write", house.write(document, 0, 0, 4 * 7 + 1), 1);
        Due.is("use", house.use(document, 0, 0), term);
        Due.is("approve", house.approve(document, 0), 0);
        Due.is("reopenedBy", house.reopenedBy(term), 1);
        Due.is("ban", house.ban(term, 2), 0);
        Due.is("pass", house.pass(2), 1);
        Due.is("calls of the example", callsOfTheExample(), 10);
        eachCallIsNamed();
        Due.close("ReadmeTest");
    }

    private static List<String> readme() throws IOException {
        return Files.readAllLines(Path.of("README.md"));
    }

    /** So that a line that comes to the example comes to this test too. */
    private static int callsOfTheExample() throws IOException {
        int count = 0;
        for (String line : readme()) {
            count += line.contains("house.") ? 1 : 0;
        }
        return count;
    }

    private static void eachCallIsNamed() throws IOException {
        String text = String.join("\n", readme());
        for (Method method : GlossaryCrown.class.getMethods()) {
            if (method.getDeclaringClass() == GlossaryCrown.class) {
                Due.is("README.md names " + method.getName(), text.contains("`" + method.getName() + "`") ? 1 : 0, 1);
            }
        }
    }
}
