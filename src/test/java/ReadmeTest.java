import java.io.IOException;
import java.lang.reflect.Method;
import java.lang.reflect.Modifier;
import java.nio.file.Files;
import java.nio.file.Path;
import java.util.ArrayList;
import java.util.List;
import java.util.TreeSet;

/** That README.md says what is so; run from the project's root, as .ci/run does. */
final class ReadmeTest {
    private static final Path README = Path.of("README.md");
    private static final Path TESTS = Path.of("src", "test", "java");

    private ReadmeTest() { }

    static void run() {
        Check.test("README: its example answers what it says", ReadmeTest::example);
        Check.test("README: its example is the one that is tested here", ReadmeTest::exampleIsThisOne);
        Check.test("README: names every call of the face", ReadmeTest::namesCalls);
        Check.test("README: names every test, and none that is not there", ReadmeTest::namesTests);
        Check.test("README: how the tests are run", ReadmeTest::saysHowTestsAreRun);
    }

    private static void example() {
        LightcurveHouse house = new LightcurveHouse();
        int star = house.star(120);                      // its place in the round of 364 days; the first one is star 0
        Check.due("star", star, 0);
        house.comparison(1, 1100);                       // the light of comparison 1; the greater, the fainter
        house.step(star, 0, 500, 0, 2, 3, 1);            // watcher 0, minute 500: 2 steps behind comparison 0, 3 ahead of 1
        house.step(star, 0, 900, 0, 1, 4, 1);
        int look = house.step(star, 0, 1300, 0, 4, 1, 1);
        int light = house.look(look, 1);                 // 1080
        Check.due("light", light, 1080);
        house.bias(0, 5);                                // told anew, for all that watcher 0 has told and will tell
        int lightNow = house.look(look, 1);              // 1075
        Check.due("lightNow", lightNow, 1075);
        int time = house.look(look, 2);                  // 1298: the light came 2 minutes early
        Check.due("time", time, 1298);
        int period = house.period(star, 300, 400, 5);    // 300: the best trial by the shortest string
        Check.due("period", period, 300);
        int aliases = house.aliases(star, 300, 400, 5, 10); // 20
        Check.due("aliases", aliases, 20);
        house.claim(star, period);
        int plate = house.plate(2000, 1200, 10);         // minute, zero, slope
        int other = house.star(120);
        house.density(other, plate, 150);                // light 1050, by the plate
        Check.due("light by the plate", house.look(look + 1, 1), 1050);
        int entry = house.merge(star, other);            // 0: the lowest star of the entry
        Check.due("entry", entry, 0);
        int amplitude = house.feature(other, LightcurveHouse.AMPLITUDE); // 60
        Check.due("amplitude", amplitude, 60);
        house.rule(3, LightcurveHouse.AMPLITUDE, 40, 80, 2); // 2 votes for class 3
        int kind = house.kind(star);                     // 3
        Check.due("kind", kind, 3);
        house.minimum(star, 1000);
        house.minimum(other, 2000);
        int cycle = house.cycle(star, period, 1, false); // 3
        Check.due("cycle", cycle, 3);
        int offset = house.cycle(star, period, 1, true); // 100
        Check.due("offset", offset, 100);
        int modulus = house.modulus(star);               // 1643
        Check.due("modulus", modulus, 1643);
        int nearest = house.nearest(0);                  // 0: the number of the entry
        Check.due("nearest", nearest, 0);
        int others = house.split(other);                 // 0: its look and its minimum go with it
        Check.due("others", others, 0);
    }

    private static void exampleIsThisOne() {
        List<String> here = stripped(lines(TESTS.resolve("ReadmeTest.java")));
        List<String> example = example(lines(README));
        Check.due("the example has lines", example.size() > 20, true);
        for (String line : example) {
            if (!here.contains(line)) {
                Check.wrong("not tested: " + line);
            }
        }
    }

    private static List<String> example(List<String> readme) {
        int from = readme.indexOf("```java") + 1;
        int to = readme.indexOf("```");
        return from > 0 && to > from ? stripped(readme.subList(from, to)) : List.of();
    }

    private static void namesCalls() {
        String text = String.join("\n", lines(README));
        for (Method method : LightcurveHouse.class.getDeclaredMethods()) {
            if (Modifier.isPublic(method.getModifiers())) {
                Check.due("README names " + method.getName(), text.contains("`" + method.getName() + "`"), true);
            }
        }
    }

    private static void namesTests() {
        TreeSet<String> there = new TreeSet<>();
        String[] files = TESTS.toFile().list();
        for (String file : files == null ? new String[0] : files) {
            there.add(file.replace(".java", ""));
        }
        String text = String.join("\n", lines(README));
        for (String test : there) {
            if (test.endsWith("Test")) {
                Check.due("README names " + test, text.contains("`" + test + "`"), true);
                Check.due("AllTests runs " + test, lines(TESTS.resolve("AllTests.java")).contains("        " + test + ".run();"), true);
            }
        }
        for (String name : text.split("[^A-Za-z]+")) {
            Check.due("there is " + name, name.matches("[A-Z][A-Za-z]+Tests?") && !there.contains(name), false);
        }
    }

    private static void saysHowTestsAreRun() {
        Check.due("README tells the command", lines(README).contains("    .ci/run"), true);
        Check.due("the command can be run", Files.isExecutable(Path.of(".ci", "run")), true);
    }

    private static List<String> stripped(List<String> lines) {
        List<String> stripped = new ArrayList<>();
        for (String line : lines) {
            stripped.add(line.strip());
        }
        return stripped;
    }

    private static List<String> lines(Path path) {
        try {
            return Files.readAllLines(path);
        } catch (IOException e) {
            Check.wrong("cannot read " + path);
            return List.of();
        }
    }
}
