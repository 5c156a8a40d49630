import java.io.IOException;
import java.nio.file.Files;
import java.nio.file.Path;
import java.util.ArrayList;
import java.util.List;

/** The example of README.md: its calls in its order, each with the answer that stands behind it. */
public final class ReadmeTest {
    private static final List<String> EXAMPLE = new ArrayList<>();
    private static int line = 0;

    public static void main(String[] args) throws IOException {
        readExample();
        ProfitsOffice office = new ProfitsOffice();
        Check.isTrue("the example begins with a new object", !EXAMPLE.isEmpty()
                && EXAMPLE.get(line++).equals("ProfitsOffice office = new ProfitsOffice();"));
        next("office.endow(500);", office.endow(500));
        next("office.setRates(30, 10);", office.setRates(30, 10));
        next("office.setScale(900, 100, 400);", office.setScale(900, 100, 400));
        next("office.begin(2, 100, 150);", office.begin(2, 100, 150));
        next("office.begin(3, 50, 0);", office.begin(3, 50, 0));
        next("office.run(40);", office.run(40));
        next("office.shareOf(0);", office.shareOf(0));
        next("office.bonuses(0);", office.bonuses(0));
        next("office.shortfall();", office.shortfall());
        next("office.worth(1);", office.worth(1));
        next("office.surrender(1);", office.surrender(1));
        next("office.run(-15);", office.run(-15));
        next("office.stateOf(0);", office.stateOf(0));
        next("office.paid(0);", office.paid(0));
        next("office.lastRatio(2);", office.lastRatio(2));
        next("office.estate();", office.estate());
        next("office.assets();", office.assets());
        Check.equal("lines of the example", EXAMPLE.size(), line);
        Check.end("ReadmeTest");
    }

    private static void readExample() throws IOException {
        boolean inside = false;
        for (String read : Files.readAllLines(Path.of("README.md"))) {
            if (read.startsWith("```")) {
                inside = read.equals("```java");
            } else if (inside) {
                EXAMPLE.add(read);
            }
        }
    }

    /** The next line of the example is this call, with this answer behind it. */
    private static void next(String call, long answer) {
        String stands = line < EXAMPLE.size() ? EXAMPLE.get(line) : "nothing";
        line++;
        String due = "\\Q" + call + "\\E *// " + answer + "(:.*)?";
        Check.isTrue("due is '" + call + " // " + answer + "', there stands '" + stands + "'",
                stands.matches(due));
    }
}
