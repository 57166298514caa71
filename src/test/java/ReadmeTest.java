import java.io.IOException;
import java.nio.file.Files;
import java.nio.file.Path;
import java.util.ArrayList;
import java.util.List;
import java.util.regex.Matcher;
import java.util.regex.Pattern;
import java.util.stream.Collectors;
import java.util.stream.Stream;

/** README.md: each line of Java that it shows stands here and works as it says; its tables name all tests. */
public final class ReadmeTest {
    private static final Path README = Path.of("README.md");
    private static final Path TESTS = Path.of("src/test/java");

    public static void main(String[] args) throws IOException {
        bytesOfAFile();
        aMenuWithADisplay();
        longRows();
        whatIsShownIsTested();
        allTestsAreNamed();
        Check.finish();
    }

    private static void bytesOfAFile() {
        ChipCard card = new ChipCard();
        card.file(0, 1, 0x6F01, 10, 1);              // a FILE of ten bytes in the root: its number, 1
        Check.same("count 0", card.count(0), 2);
        card.feed(0x00A4000C, 0x026F0100, 0, 0, 0);  // SELECT 6F01: seven bytes, and zeros behind them
        card.end(7);                                 // the zeros go
        Check.same("count 4", card.count(4), 7);
        int status = card.command();                 // 0x9000
        Check.same("SELECT", status, 0x9000);
        card.feed(0x00B00000, 0x04000000, 0, 0, 0);  // READ BYTES, four from 0 on
        card.end(5);
        status = card.command();                     // 0x9000
        Check.same("READ BYTES", status, 0x9000);
        int many = card.count(3);                    // 4
        Check.same("count 3", many, 4);
        int first = card.out(0);                     // 0xFF
        Check.same("out", first, 0xFF);
    }

    /** THE TAPE is these bytes alone, 300 at most. */
    static void tape(ChipCard card, String hex) {
        card.end(0);
        for (int i = 0; i < hex.length(); i += 40) {
            String row = (hex.substring(i) + "0".repeat(40)).substring(0, 40);
            int[] five = new int[5];
            for (int k = 0; k < 5; k++) {
                five[k] = Integer.parseUnsignedInt(row.substring(8 * k, 8 * k + 8), 16);
            }
            card.feed(five[0], five[1], five[2], five[3], five[4]);
        }
        card.end(hex.length() / 2);
    }

    static int send(ChipCard card, String hex) {
        tape(card, hex);
        return card.command();
    }

    private static void aMenuWithADisplay() {
        ChipCard card = new ChipCard();
        tape(card, "4849");                            // "HI"
        int display = card.node(0, 0);                 // a DISPLAY of it: NODE 0
        Check.same("node", display, 0);
        tape(card, "476F");                            // "Go"
        card.item(ChipCard.NONE, 1);                   // an ITEM of the MENU, with the identifier 1
        card.pick(ChipCard.NONE, 1, display);          // whoever picks it gets the DISPLAY
        Check.same("count 2", card.count(2), 1);

        int status = send(card, "8010000005FFFFFFFFFF");     // TERMINAL PROFILE: 0x9112, the MENU is PENDING
        Check.same("TERMINAL PROFILE", status, 0x9112);
        Check.same("PENDING", card.count(11), 1);
        status = send(card, "8012000012");                   // FETCH of 12 (hex) bytes: 0x9000, they are THE OUT
        Check.same("FETCH", status, 0x9000);
        Check.same("the MENU", out(card), "D010" + "8103012500" + "82028182" + "8500" + "8F0301476F");
        status = send(card, "8014000008" + "8103012500" + "830100");  // TERMINAL RESPONSE, OK: 0x9000
        Check.same("TERMINAL RESPONSE", status, 0x9000);
        status = send(card, "80C2000005" + "D303900101");    // ENVELOPE, ITEM 1 of the MENU: 0x9110, the DISPLAY
        Check.same("ENVELOPE", status, 0x9110);
        Check.same("the DISPLAY", card.count(12), display);
        status = send(card, "8012000010");                   // FETCH: 0x9000
        Check.same("FETCH of the DISPLAY", status, 0x9000);
        Check.same("its bytes", out(card), "D00E" + "8103022100" + "82028102" + "8D03044849");
        status = send(card, "8014000008" + "8103022100" + "830100");  // NUMBER 2, TYPE 21, QUALIFIER 0: 0x9000
        Check.same("its RESPONSE", status, 0x9000);
        int state = card.count(11);                          // 0: nothing is PENDING or FETCHED
        Check.same("count 11", state, 0);
    }

    private static String out(ChipCard card) {
        StringBuilder all = new StringBuilder();
        for (int i = 0; i < card.count(3); i++) {
            all.append(Check.hex(card.out(i)));
        }
        return all.toString();
    }

    private static void longRows() {
        for (int n : new int[] {0, 1, 19, 20, 21, 40, 299, 300}) {
            ChipCard card = new ChipCard();
            card.file(0, 1, 1, 300, 1);
            tape(card, "AB".repeat(5));
            tape(card, Check.many("5A", n));
            Check.same("a tape of " + n, card.fill(1, 0), n);
            Check.same("its last byte", card.byteOf(1, n - 1), n == 0 ? ChipCard.NONE : 0x5A);
            Check.same("the byte behind it", card.byteOf(1, n), n == 300 ? ChipCard.NONE : 0xFF);
        }
    }

    private static void whatIsShownIsTested() throws IOException {
        List<String> here = trimmed(Files.readAllLines(TESTS.resolve("ReadmeTest.java")));
        int from = 0;
        for (String line : shown()) {
            int found = here.subList(from, here.size()).indexOf(line);
            Check.same("README.md's line stands here, behind the one before it: " + line, found >= 0, true);
            from += found + 1;
        }
    }

    /** The lines of README.md's blocks of Java. */
    private static List<String> shown() throws IOException {
        List<String> lines = new ArrayList<>();
        boolean isJava = false;
        for (String line : trimmed(Files.readAllLines(README))) {
            if (line.startsWith("```")) {
                isJava = line.equals("```java");
            } else if (isJava && !line.isEmpty()) {
                lines.add(line);
            }
        }
        Check.same("README.md shows Java", lines.size() > 30, true);
        return lines;
    }

    private static List<String> trimmed(List<String> lines) {
        return lines.stream().map(String::trim).collect(Collectors.toList());
    }

    private static void allTestsAreNamed() throws IOException {
        List<String> named = new ArrayList<>();
        Matcher names = Pattern.compile("\\b\\w+Test\\b").matcher(Files.readString(README));
        while (names.find()) {
            named.add(names.group());
            boolean isThere = Files.exists(TESTS.resolve(names.group() + ".java"));
            Check.same("README.md's test is there: " + names.group(), isThere, true);
        }
        try (Stream<Path> files = Files.list(TESTS)) {
            for (Path file : files.collect(Collectors.toList())) {
                String name = file.getFileName().toString().replace(".java", "");
                boolean isNamed = name.equals("Check") || named.contains(name);
                Check.same("README.md names " + name, isNamed, true);
            }
        }
    }
}
