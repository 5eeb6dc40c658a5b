import java.io.IOException;
import java.nio.file.Files;
import java.nio.file.Path;
import java.util.ArrayList;
import java.util.Comparator;
import java.util.List;
import java.util.Set;
import java.util.TreeSet;
import java.util.regex.Matcher;
import java.util.regex.Pattern;
import java.util.stream.Stream;

/** What README.md says is so when it is done as it is written. */
public final class ReadmeTest {
    private static final Path README = Path.of("README.md");
    private static final Path TESTS = Path.of("src/test/java");
    private static final String ALL_TESTS = "bash .ci/run\n";
    private static final String CITY = "station 0 0 2 0;station 1 1 2 2;truck 0 3;";

    private record Block(String kind, String text) { }

    private ReadmeTest() {
    }

    public static void main(String[] args) throws Exception {
        String readme = Files.readString(README);
        Path copy = Files.createTempDirectory("readme");
        try {
            copySources(copy);
            followBlocks(blocks(readme), copy);
        } finally {
            delete(copy);
        }
        Check.due("the script of all tests can be run", Files.isExecutable(Path.of(".ci/run")), true);
        listsEveryTest(readme);
        refusedCalls();
        Check.end("ReadmeTest");
    }

    private static List<Block> blocks(String readme) {
        List<Block> found = new ArrayList<>();
        Matcher fence = Pattern.compile("(?ms)^```(\\w+)\n(.*?)^```$").matcher(readme);
        while (fence.find()) {
            found.add(new Block(fence.group(1), fence.group(2)));
        }
        return found;
    }

    /** Saves the program, gives each command to the shell, and compares what it prints. */
    private static void followBlocks(List<Block> blocks, Path place) throws Exception {
        String printed = "";
        int commands = 0;
        for (Block block : blocks) {
            switch (block.kind()) {
                case "java" -> Files.writeString(place.resolve("Example.java"), block.text());
                case "text" -> Check.due("the example prints what the page says, not: " + printed,
                        printed.equals(block.text()), true);
                default -> {
                    commands++;
                    // All tests are what runs this one.
                    printed = block.text().equals(ALL_TESTS) ? "" : shell(block.text(), place);
                }
            }
        }
        Check.due("blocks with commands", commands, 3);
        Check.due("blocks", blocks.size(), 5);
    }

    private static String shell(String commands, Path place) throws Exception {
        Process process = new ProcessBuilder("bash", "-e", "-c", commands)
                .directory(place.toFile()).redirectErrorStream(true).start();
        String printed = new String(process.getInputStream().readAllBytes());
        Check.due("exit of " + commands + printed, process.waitFor(), 0);
        return printed;
    }

    private static void copySources(Path place) throws IOException {
        try (Stream<Path> files = Files.walk(Path.of("src"))) {
            for (Path file : files.toList()) {
                Files.copy(file, place.resolve(file));
            }
        }
    }

    private static void delete(Path place) throws IOException {
        try (Stream<Path> files = Files.walk(place)) {
            for (Path file : files.sorted(Comparator.reverseOrder()).toList()) {
                Files.delete(file);
            }
        }
    }

    private static void listsEveryTest(String readme) throws IOException {
        Set<String> listed = new TreeSet<>();
        Matcher row = Pattern.compile("(?m)^\\| `(\\w+Test)` \\|").matcher(readme);
        while (row.find()) {
            listed.add(row.group(1));
        }
        Set<String> there = new TreeSet<>();
        try (Stream<Path> files = Files.list(TESTS)) {
            files.map(file -> file.getFileName().toString()).filter(name -> name.endsWith("Test.java"))
                    .forEach(name -> there.add(name.replace(".java", "")));
        }
        Check.due("tests listed " + listed + ", there are " + there, listed.equals(there), true);
    }

    // ---- the table of refused calls, row by row

    private static void refusedCalls() {
        Twins.unchanged("append to a full buffer", ReadmeTest::full, x -> x.append(1, 2, 3, 4, 5), BikeShare.NONE);
        Twins.refused("parse of a length below 0", IllegalArgumentException.class, ReadmeTest::busy, x -> x.parse(-1));
        Twins.refused("parse of a length above the buffer's", IllegalArgumentException.class, ReadmeTest::busy,
                x -> x.parse(21));
        syntaxErrorKeepsAllButTheBuffer();
        noSuchThing();
        Twins.refused("a number out of its range", IllegalArgumentException.class, ReadmeTest::busy, x -> x.total(6));
        Twins.refused("not as things are", IllegalStateException.class, ReadmeTest::busy, x -> x.rent(0, 1));
        Twins.unchanged("undo with nothing to undo", () -> Check.city(CITY), BikeShare::undo, BikeShare.NONE);
        Twins.unchanged("save to no slot", ReadmeTest::busy, x -> x.saveSnapshot(2) ? 1 : 0, 0);
        Twins.unchanged("restore from no slot", ReadmeTest::busy, x -> x.restoreSnapshot(-1) ? 1 : 0, 0);
        Twins.unchanged("restore an empty slot", ReadmeTest::busy, x -> x.restoreSnapshot(1) ? 1 : 0, 0);
        Twins.unchanged("a stop below 0", ReadmeTest::busy, x -> x.tourStop(0, -1), BikeShare.NONE);
        Twins.unchanged("a stop that the tour has not", ReadmeTest::busy, x -> x.tourStop(0, 8), BikeShare.NONE);
        firstInTheTable();
    }

    private static void noSuchThing() {
        Class<?> kind = IndexOutOfBoundsException.class;
        Twins.refused("a station that there is not", kind, ReadmeTest::busy, x -> x.bikes(2));
        Twins.refused("a truck that there is not", kind, ReadmeTest::busy, x -> x.cancel(1));
        Twins.refused("a rider that there is not", kind, ReadmeTest::busy, x -> x.rider(1, 0));
    }

    private static void firstInTheTable() {
        Class<?> index = IndexOutOfBoundsException.class;
        Class<?> argument = IllegalArgumentException.class;
        Twins.refused("rider: index, argument", index, ReadmeTest::busy, x -> x.rider(1, 3));
        Twins.refused("truck: index, argument", index, ReadmeTest::busy, x -> x.truck(1, 6));
        Twins.refused("rent: index, state", index, ReadmeTest::busy, x -> x.rent(0, 2));
        Twins.refused("tourMinutes: index, while another drives", index, ReadmeTest::driving, x -> x.tourMinutes(1));
        Twins.refused("tourStop: index, while another drives", index, ReadmeTest::driving, x -> x.tourStop(1, 0));
        Twins.refused("breakDock: index", index, ReadmeTest::busy, x -> x.breakDock(2));
        Twins.refused("repairDock: index", index, ReadmeTest::busy, x -> x.repairDock(2));
        Twins.refused("addBikes: index, argument", index, ReadmeTest::busy, x -> x.addBikes(2, 21));
        Twins.refused("addBikes: argument, state", argument, ReadmeTest::busy, x -> x.addBikes(0, 21));
        Twins.refused("removeBikes: index, argument", index, ReadmeTest::busy, x -> x.removeBikes(2, 21));
        Twins.refused("removeBikes: argument, state", argument, ReadmeTest::busy, x -> x.removeBikes(0, 21));
        Twins.refused("dispatch: index, argument, state", index, ReadmeTest::driving, x -> x.dispatch(0, 2, 21));
        Twins.refused("dispatch: argument, state", argument, ReadmeTest::driving, x -> x.dispatch(0, 1, 21));
        Twins.refused("dispatch: state", IllegalStateException.class, ReadmeTest::driving, x -> x.dispatch(0, 1, 20));
        Twins.refused("pass: argument, state", argument, ReadmeTest::late, x -> x.pass(1441));
        Twins.refused("pass: state", IllegalStateException.class, ReadmeTest::late, x -> x.pass(1440));
    }

    private static void syntaxErrorKeepsAllButTheBuffer() {
        BikeShare x = busy();
        int answer = x.parse(20);
        Check.due("a syntax error's answer", answer, -2 - (8 * 0 + 1));
        Check.due("it is below NONE", answer < BikeShare.NONE, true);
        Check.due("the buffer is empty", x.append(0x3b3b3b3b, 0, 0, 0, 0), 20);
        Check.due("all else stays", Twins.usedUp(x).equals(Twins.usedUp(busy())), true);
    }

    /** With two changes, a rider, a snapshot in slot 0 and twenty bytes in the buffer that are no city. */
    private static BikeShare busy() {
        BikeShare x = Check.city(CITY);
        x.saveSnapshot(0);
        x.rent(1, 0);
        x.pass(1);
        x.append(0x3b3b3b3b, 0, 0, 0, 0);
        return x;
    }

    private static BikeShare full() {
        BikeShare x = busy();
        for (int filled = 20; filled < 700; filled += 20) {
            x.append(0x20202020, 0x20202020, 0x20202020, 0x20202020, 0x20202020);
        }
        return x;
    }

    private static BikeShare driving() {
        BikeShare x = busy();
        for (int i = 0; i < 7; i++) {
            x.dispatch(0, 1, 0);
        }
        return x;
    }

    private static BikeShare late() {
        BikeShare x = busy();
        for (int i = 0; i < 6; i++) {
            x.pass(1440);
        }
        return x;
    }
}
