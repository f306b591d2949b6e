import java.io.IOException;
import java.nio.file.Files;
import java.nio.file.Path;
import java.util.ArrayList;
import java.util.List;

/** The example of README.md: its calls answer what it shows, and it shows these calls and no others. */
public final class ExampleTest {
    private static final List<String> CALLS = new ArrayList<>();

    public static void main(String[] args) throws IOException {
        ChainLoader x = new ChainLoader();
        poke("x.poke(6, 0x05010C80, 4)", x.poke(6, 0x05010C80, 4));
        poke("x.poke(30, 0xAA55, 2)", x.poke(30, 0xAA55, 2));
        poke("x.poke(32, 0x0201010101EBL, 6)", x.poke(32, 0x0201010101EBL, 6));
        poke("x.poke(62, 0xAA55, 2)", x.poke(62, 0xAA55, 2));
        poke("x.poke(68, 0x0FFF0FFF0FFFL, 6)", x.poke(68, 0x0FFF0FFF0FFFL, 6));
        poke("x.poke(96, 0x00080300544F4F42L, 8)", x.poke(96, 0x00080300544F4F42L, 8));
        poke("x.poke(104, 0x001804002020204BL, 8)", x.poke(104, 0x001804002020204BL, 8));
        poke("x.poke(128, 0x69683D410A4B3D4BL, 8)", x.poke(128, 0x69683D410A4B3D4BL, 8));
        poke("x.poke(160, 0x000000001BADB002L, 8)", x.poke(160, 0x000000001BADB002L, 8));
        poke("x.poke(168, 0x00000040E4524FFEL, 8)", x.poke(168, 0x00000040E4524FFEL, 8));
        poke("x.poke(176, 0x6B6F000000000054L, 8)", x.poke(176, 0x6B6F000000000054L, 8));
        ask("x.volume()", x.volume(), 3);
        ask("x.survey()", x.survey(), 2);
        ask("x.list(0)", x.list(0), 1414483778);
        ask("x.list(2)", x.list(2), ChainLoader.BAD);
        Due.due("x.type('K')", x.type('K'), true);
        CALLS.add("x.type('K'); // true:");
        ask("x.size()", x.size(), 24);
        ask("x.read(0)", x.read(0), 2);
        ask("x.scrap()", x.scrap(), 1);
        ask("x.peek(128)", x.peek(128), 75);
        ask("x.entry()", x.entry(), ChainLoader.BAD);
        ask("x.boot()", x.boot(), 0);
        ask("x.entry()", x.entry(), 84);
        ask("x.memory(87)", x.memory(87), 107);
        ask("x.memory(12)", x.memory(12), 64);
        ask("x.memory(32)", x.memory(32), 104);
        compareWithReadme();
        Due.end();
    }

    private static void poke(String call, boolean got) {
        Due.due(call, got, true);
        CALLS.add(call + "; //");
    }

    private static void ask(String call, long got, long want) {
        Due.due(call, got, want);
        CALLS.add(call + "; // " + want + ":");
    }

    private static void compareWithReadme() throws IOException {
        List<String> shown = new ArrayList<>();
        for (String line : Files.readAllLines(Path.of("README.md"))) {
            if (line.startsWith("x.")) {
                shown.add(line.replaceAll(" +//", " //"));
            }
        }
        Due.due("calls in README.md", shown.size(), CALLS.size());
        for (int k = 0; k < CALLS.size() && k < shown.size(); k++) {
            Due.due("README.md shows " + CALLS.get(k), shown.get(k).startsWith(CALLS.get(k)), true);
        }
    }
}
