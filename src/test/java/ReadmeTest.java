import java.io.IOException;
import java.nio.file.Files;
import java.nio.file.Path;
import java.util.ArrayList;
import java.util.List;

/** The example of README.md is the one here, and its answers are those that it tells. */
public final class ReadmeTest {
    private static final Path README = Path.of("README.md");
    private static final Path HERE = Path.of("src/test/java/ReadmeTest.java");
    private static final Due DUE = new Due();

    public static void main(String[] args) throws IOException {
        example();
        List<String> told = between(README, "```java", "```");
        DUE.holds("README.md tells " + told, !told.isEmpty() && told.equals(between(HERE, "// example", "// end")));
        everyCallIsTold(Files.readString(README));
        DUE.end();
    }

    private static void example() {
        // example
        GuardedInodes store = new GuardedInodes();
        int file = store.create(1, 0, 1, 0640);                         // 1: user 1 makes a FILE in the ROOT
        int size = store.write(1, file, 60, 8, 0x0102030405060708L);    // 68: bytes 60 .. 67, in two BLOCKS
        long bytes = store.read(1, file, 60, 8);                        // 0x0102030405060708L
        long denied = store.read(2, file, 60, 8);                       // DENIED: others have no bits
        int entries = store.acl(1, file, false, 0, 2, 4);               // 1: an ENTRY lets user 2 read
        long allowed = store.read(2, file, 60, 8);                      // 0x0102030405060708L
        int limited = store.limit(0, 1, 0, GuardedInodes.NONE, 2);      // 0: user 1 has at most 2 BLOCKS
        int refused = store.write(1, file, 200, 1, 9);                  // NO_QUOTA: that would be a third
        int fed = store.feed(77);                                       // 1: THE VALUE has one byte
        int length = store.put(1, file, 5);                             // 1: ATTRIBUTE 5 becomes THE VALUE
        int b = store.attribute(2, file, 5, 0);                         // 77
        // end
        DUE.is("file", file, 1);
        DUE.is("size", size, 68);
        DUE.is("bytes", bytes, 0x0102030405060708L);
        DUE.is("denied", denied, GuardedInodes.DENIED);
        DUE.is("entries", entries, 1);
        DUE.is("allowed", allowed, 0x0102030405060708L);
        DUE.is("limited", limited, 0);
        DUE.is("refused", refused, GuardedInodes.NO_QUOTA);
        DUE.is("fed", fed, 1);
        DUE.is("length", length, 1);
        DUE.is("b", b, 77);
        DUE.is("blocks", store.charged(0, 1, 0), 2);
    }

    private static List<String> between(Path path, String from, String to) throws IOException {
        List<String> lines = new ArrayList<>();
        boolean inside = false;
        for (String line : Files.readAllLines(path)) {
            String stripped = line.strip();
            if (inside && stripped.equals(to)) {
                return lines;
            }
            if (inside) {
                lines.add(stripped);
            }
            inside = inside || stripped.equals(from);
        }
        return List.of();
    }

    private static void everyCallIsTold(String readme) {
        for (var method : GuardedInodes.class.getMethods()) {
            if (method.getDeclaringClass() == GuardedInodes.class) {
                DUE.holds("README.md tells " + method.getName(), readme.contains("`" + method.getName() + "("));
            }
        }
    }
}
