import java.io.IOException;
import java.nio.file.Files;
import java.nio.file.Path;
import java.util.ArrayList;
import java.util.Arrays;
import java.util.List;
import java.util.regex.Matcher;
import java.util.regex.Pattern;
import java.util.stream.Collectors;
import java.util.stream.Stream;

/** What no call shows: 'Terms' on what stands ahead of the calls, the one file and its one import. */
public final class SourceTest {
    private static final Check check = new Check("SourceTest");

    private static final Path MAIN = Path.of("src", "main");
    private static final Path PROGRAM = MAIN.resolve(Path.of("java", "CloudPaths.java"));
    private static final Pattern HEADING_OR_CALL =
            Pattern.compile("    (?:// (---- .*)|public (?:int|boolean) (\\w+)\\(.*)");

    public static void main(String[] args) throws IOException {
        List<String> lines = Files.readAllLines(PROGRAM);
        aheadOfTheCalls(lines);
        oneFile();
        oneImport(lines);
        check.end();
    }

    /** "Ahead of the calls .. the interface says: ----": the four of them, each ahead of its calls and of no other. */
    private static void aheadOfTheCalls(List<String> lines) {
        List<String> due = Arrays.asList(
                "---- networks, subnets, hosts, peerings", "addNetwork", "addSubnet", "addHost", "addPeering",
                "---- groups", "addGroup", "allow", "clearGroup", "setGroup",
                "---- lists and routes", "putRule", "removeRule", "setRoute", "routeFor",
                "---- connections", "ports", "blockedBy", "blocks", "pairs", "reachedFrom", "idleRules");
        List<String> got = new ArrayList<>();
        int calls = 0;
        for (String line : lines) {
            Matcher matcher = HEADING_OR_CALL.matcher(line);
            if (matcher.matches()) {
                boolean isCall = matcher.group(1) == null;
                got.add(matcher.group(isCall ? 2 : 1));
                calls = isCall ? got.size() : calls;
            }
        }
        check.same("headings and calls", got.subList(0, calls), due);
    }

    /** The program is one file. */
    private static void oneFile() throws IOException {
        try (Stream<Path> files = Files.walk(MAIN)) {
            List<String> got = files.filter(Files::isRegularFile).map(Path::toString).collect(Collectors.toList());
            check.same("the files of the program", got, List.of(PROGRAM.toString()));
        }
    }

    /** No package line, and no library beyond ArrayList (LANGUAGE.md, rule 4). */
    private static void oneImport(List<String> lines) {
        List<String> got = new ArrayList<>();
        for (String line : lines) {
            if (line.startsWith("package ") || line.startsWith("import ")) {
                got.add(line);
            }
        }
        check.same("package and import lines", got, List.of("import java.util.ArrayList;"));
    }
}
