import java.io.IOException;
import java.lang.reflect.Method;
import java.lang.reflect.Modifier;
import java.nio.file.Files;
import java.nio.file.Path;
import java.util.List;

/** What README.md says of the use of the class. */
public final class ReadmeTest {
    private static final Due DUE = new Due("ReadmeTest");

    public static void main(String[] args) throws IOException {
        List<String> readme = Files.readAllLines(Path.of("README.md"));
        List<String> source = Files.readAllLines(Path.of("src/test/java/ReadmeTest.java"));
        theExample();
        DUE.is("README.md has the example as it is run here",
            between(readme, "```java", "```").equals(between(source, "// the example", "// its end")), true);
        theCalls(readme);
        DUE.end();
    }

    private static void theExample() {
        // the example
        MirrorNet net = new MirrorNet();
        int file = net.file(100);                     // a file of 100 bytes
        net.put(3, file);                             // state 1: package 3 names it
        int near = net.mirror(MirrorNet.NONE, 40, 1); // copies 40 bytes a tick from the shelf, keeps one old index
        net.cost(0, near, 5);                         // asker 0 reaches it for 5 ticks an asking
        net.pass(3);                                  // the mirror is whole after three ticks
        int answer = net.ask(0, 1 << 3);              // 0: asker 0 has the file of package 3
        int spent = net.asked(1);                     // 10: one asking for the index, one for the file
        int giver = net.got(0, 2);                    // the file came from mirror 0
        // its end
        DUE.is("state 1 names it", net.names(1, 3), file);
        DUE.is("the mirror is whole", net.about(near, 0), 1);
        DUE.is("answer", answer, 0);
        DUE.is("spent", spent, 10);
        DUE.is("giver", giver, 0);
    }

    private static List<String> between(List<String> lines, String first, String last) {
        List<String> stripped = lines.stream().map(String::strip).toList();
        int from = stripped.indexOf(first) + 1;
        List<String> rest = stripped.subList(from, stripped.size());
        return rest.subList(0, Math.max(0, rest.indexOf(last)));
    }

    private static void theCalls(List<String> readme) {
        for (Method call : MirrorNet.class.getDeclaredMethods()) {
            if (Modifier.isPublic(call.getModifiers())) {
                String row = "\\| `" + call.getName() + "\\(\\w+" + ", \\w+".repeat(call.getParameterCount() - 1) + "\\)` \\|.*";
                DUE.is("rows for " + call.getName(), readme.stream().filter(line -> line.matches(row)).count(), 1);
            }
        }
    }
}
