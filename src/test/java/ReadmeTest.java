import java.io.IOException;
import java.lang.reflect.Method;
import java.lang.reflect.Modifier;
import java.nio.charset.StandardCharsets;
import java.nio.file.Files;
import java.nio.file.Path;

/** README.md: its example answers what it says there, and it names every call, place and test. */
public final class ReadmeTest {
    private static String readme = "";

    public static void main(String[] args) throws IOException {
        readme = Files.readString(Path.of("README.md"), StandardCharsets.UTF_8);
        exampleAnswersWhatItSays();
        everyCallIsNamed();
        everyTestIsNamed();
        Check.end("ReadmeTest");
    }

    private static void exampleAnswersWhatItSays() {
        BagHall hall = new BagHall();
        int flight = hall.addFlight(70);
        line("int flight = hall.addFlight(70);", 0, flight);
        int bag = hall.checkIn(flight, 0);
        line("int bag = hall.checkIn(flight, 0);", 0, bag);
        Check.equal("the bag's first place", BagHall.SCREEN_1, hall.placeOf(bag));
        line("hall.pass(2);", 0, hall.pass(2));
        line("hall.decide(bag, true);", BagHall.STORE, hall.decide(bag, true));
        line("hall.pass(8);", 1, hall.pass(8));
        Check.equal("the place behind the opening", BagHall.LATERAL, hall.placeOf(bag));
        line("hall.load(bag);", 1, hall.load(bag));
        line("hall.unmatched(flight);", 1, hall.unmatched(flight));
        line("hall.board(0, true);", 0, hall.board(0, true) ? 1 : 0);
        line("hall.unmatched(flight);", 0, hall.unmatched(flight));
        line("hall.pass(60);", 1, hall.pass(60));
        line("hall.placeOf(bag);", BagHall.FLOWN, hall.placeOf(bag));
        line("hall.placeByScans(bag, 9);", BagHall.STORE, hall.placeByScans(bag, 9));
        Check.isTrue("README.md shows hall.load(bag); once more", readme.indexOf("hall.load(bag);") < readme.lastIndexOf("hall.load(bag);"));
        Check.noState("hall.load(bag) at the end", hall, () -> hall.load(bag));
    }

    private static void line(String text, long due, long got) {
        Check.isTrue("README.md shows " + text, readme.contains(text));
        Check.equal("README.md: " + text, due, got);
    }

    private static void everyCallIsNamed() {
        for (Method method : BagHall.class.getDeclaredMethods()) {
            if (Modifier.isPublic(method.getModifiers())) {
                Check.isTrue("README.md names " + method.getName(), readme.contains("`" + method.getName() + "("));
            }
        }
    }

    private static void everyTestIsNamed() throws IOException {
        try (var files = Files.list(Path.of("src/test/java"))) {
            for (Path file : files.toList()) {
                String name = file.getFileName().toString().replace(".java", "");
                Check.isTrue("README.md names " + name, readme.contains("`" + name + "`"));
            }
        }
    }
}
