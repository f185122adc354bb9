import java.io.IOException;
import java.nio.file.Files;
import java.nio.file.Path;
import java.util.ArrayList;
import java.util.Arrays;
import java.util.List;
import java.util.regex.Matcher;
import java.util.regex.Pattern;
import java.util.stream.Collectors;
import java.util.stream.Stream;

/** README.md tells what is so: its example, its texts, its calls, the classes and the tests that it names. */
public final class ReadmeTest {
    private static final Check C = new Check();
    private static String readme = "";

    public static void main(String[] args) throws IOException {
        readme = Files.readString(Path.of("README.md"));
        example();
        exampleIsThis();
        texts();
        calls();
        classes();
        tests();
        C.end();
    }

    private static void example() {
        BreedingHouse house = new BreedingHouse();
        house.type(0x202a282078202b28L);
        house.type(0x2929792032L);
        int b = house.read(0);
        house.put(4);
        house.add(3, 4, 0, 11, 1, false);
        int fault = house.run(b, 0);
        int value = house.value();
        long score = house.score(b, false, 0);
        C.is("birth", b, 0);
        C.is("its text", Check.print(house, b), "(+ x (* 2 y))");
        C.is("fault", fault, 0);
        C.is("value", value, 11);
        C.is("score", score, 0);
        C.is("through", house.score(b, false, 1), 1);
        house.populate(0, 0, 16, 5, 42L);
        int best = house.breed(0, 10);
        C.is("the best birth", best, house.best(0));
        int length = house.printed(best);
        int first = house.letter(best, 0);
        C.is("its text", Check.print(house, best).length(), length);
        C.is("its first byte", Check.print(house, best).charAt(0), first);
    }

    /** Each line of the example stands in this file, so that what is told there is what is tried here. */
    private static void exampleIsThis() throws IOException {
        String here = Files.readString(Path.of("src", "test", "java", "ReadmeTest.java"));
        Matcher block = Pattern.compile("(?s)```java\n(.*?)```").matcher(readme);
        C.is("there is an example", block.find(), true);
        for (String line : block.group(1).split("\n")) {
            String code = line.replaceAll("//.*", "").strip();
            C.is("tried here: " + code, here.contains(code), true);
        }
    }

    private static void texts() {
        Matcher row = Pattern.compile("(?m)^\\| (\\d), [\\w ]+ \\| `([^`]+)` \\|.*$").matcher(readme);
        int kinds = 0;
        while (row.find()) {
            BreedingHouse h = new BreedingHouse();
            int kind = Integer.parseInt(row.group(1));
            C.is("kinds in order", kind, kinds);
            C.is(row.group(2), Check.read(h, kind, row.group(2)), 0);
            C.is("its kind", h.birth(0, 0), kind);
            C.is("is printed", Check.print(h, 0), row.group(2));
            kinds++;
        }
        C.is("four kinds", kinds, 4);
    }

    /** The calls stand in the table by the document's headings, in its order. */
    private static void calls() throws IOException {
        String document = Files.readString(Path.of("..", "shared", "DOC.md"));
        Matcher group = Pattern.compile("Ahead of the calls (.*) the interface says: ---- (.*)\\.").matcher(document);
        int groups = 0;
        while (group.find()) {
            groups++;
            String row = "| " + group.group(2) + " | " + group.group(1) + " |";
            C.is("the calls of " + group.group(2), readme.contains(row), true);
        }
        C.is("groups of calls", groups, 8);
    }

    private static void classes() {
        List<String> told = new ArrayList<>();
        Matcher row = Pattern.compile("(?m)^\\| `(\\w+)` \\|").matcher(readme);
        while (row.find()) {
            told.add(row.group(1));
        }
        List<String> there = Arrays.stream(BreedingHouse.class.getDeclaredClasses()).map(Class::getSimpleName).toList();
        C.is("the classes inside", sorted(told), sorted(there));
    }

    private static void tests() throws IOException {
        List<String> there;
        try (Stream<Path> files = Files.list(Path.of("src", "test", "java"))) {
            there = files.map(f -> f.getFileName().toString().replace(".java", "")).collect(Collectors.toList());
        }
        for (String one : there) {
            C.is(one + " is told", readme.contains("`" + one + "`"), true);
        }
        Matcher named = Pattern.compile("`(\\w+Test)`").matcher(readme);
        while (named.find()) {
            C.is(named.group(1) + " is there", there.contains(named.group(1)), true);
        }
        Matcher file = Pattern.compile("`(runs[\\w-]*\\.txt)`").matcher(readme);
        while (file.find()) {
            C.is(file.group(1), Files.exists(Path.of("src", "test", "resources", file.group(1))), true);
        }
    }

    private static String sorted(List<String> names) {
        return names.stream().sorted().collect(Collectors.joining(" "));
    }
}
