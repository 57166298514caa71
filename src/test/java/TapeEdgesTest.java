import java.util.NoSuchElementException;

/** The boundary cases of term 1 and of promises 2 and 3: THE TAPE and THE OUT. */
public final class TapeEdgesTest {
    public static void main(String[] args) {
        feedAtEveryLength();
        refusedFeedBringsNone();
        feedPutsTheHighestFirst();
        endAtEveryLength();
        refusedEndLeavesAll();
        cutBytesDoNotComeBack();
        fillEmptiesTheTape();
        nodeEmptiesTheTape();
        itemEmptiesTheTape();
        titleEmptiesTheTape();
        commandEmptiesTheTape();
        anEmptyTapeIsRead();
        aFullTapeIsRead();
        othersLeaveTheTape();
        outIsOfTheLatestCommand();
        Check.finish();
    }

    /** A card whose TAPE has n bytes, which count up from 0. */
    private static Check taped(int n) {
        Check c = new Check();
        StringBuilder all = new StringBuilder();
        for (int i = 0; i < n; i++) {
            all.append(Check.hex(i & 0xFF));
        }
        c.tape(all.toString());
        Check.same("THE TAPE at first", c.card.count(4), n);
        return c;
    }

    private static String tapeBytes(Check c, int n) {
        int file = c.card.file(0, 1, 0x6F01, 400, 1);
        Check.same("how many", c.card.fill(file, 0), n);
        return c.fileBytes(file).substring(0, 2 * n);
    }

    /** "how many it has; NONE, and none come, if there would be more than 300" */
    private static void feedAtEveryLength() {
        for (int n = 0; n <= 300; n++) {
            Check c = taped(n);
            Check.same("feed on " + n, c.card.feed(1, 2, 3, 4, 5), n <= 280 ? n + 20 : ChipCard.NONE);
            Check.same("THE TAPE behind feed on " + n, c.card.count(4), n <= 280 ? n + 20 : n);
        }
    }

    private static void refusedFeedBringsNone() {
        for (int n = 281; n <= 300; n += 19) {
            Check c = taped(n);
            String due = tapeBytes(taped(n), n);
            Check.same("feed", c.card.feed(-1, -1, -1, -1, -1), ChipCard.NONE);
            Check.same("the same bytes as before", tapeBytes(c, n), due);
        }
        Check c = taped(300);
        Check.same("once", c.card.feed(0, 0, 0, 0, 0), ChipCard.NONE);
        Check.same("and again", c.card.feed(0, 0, 0, 0, 0), ChipCard.NONE);
        Check.same("still 300", c.card.count(4), 300);
    }

    /** "Twenty bytes come behind THE TAPE, of each number the highest first" */
    private static void feedPutsTheHighestFirst() {
        Check c = taped(3);
        Check.same("feed", c.card.feed(Integer.MAX_VALUE, Integer.MIN_VALUE, -1, 0, 0x00FF7F80), 23);
        Check.same("its bytes", tapeBytes(c, 23), "000102" + "7FFFFFFF" + "80000000" + "FFFFFFFF" + "00000000" + "00FF7F80");
    }

    /** "true; false if it has not so many, or n is below 0" */
    private static void endAtEveryLength() {
        int[] lengths = {0, 1, 19, 20, 21, 299, 300};
        for (int has : lengths) {
            int[] ends = {Integer.MIN_VALUE, -300, -1, 0, 1, has - 1, has, has + 1, 300, 301, Integer.MAX_VALUE};
            for (int n : ends) {
                Check c = taped(has);
                boolean can = n >= 0 && n <= has;
                Check.same("end(" + n + ") of " + has, c.card.end(n), can);
                Check.same("THE TAPE behind end(" + n + ") of " + has, c.card.count(4), can ? n : has);
            }
        }
    }

    private static void refusedEndLeavesAll() {
        Check c = taped(30);
        c.card.end(31);
        c.card.end(-1);
        Check.same("all of it", tapeBytes(c, 30), tapeBytes(taped(30), 30));
    }

    /** "THE TAPE has its first n bytes alone" */
    private static void cutBytesDoNotComeBack() {
        Check c = taped(20);
        Check.same("end", c.card.end(2), true);
        Check.same("not more again", c.card.end(3), false);
        Check.same("feed", c.card.feed(0x0A0A0A0A, 0x0B0B0B0B, 0x0C0C0C0C, 0x0D0D0D0D, 0x0E0E0E0E), 22);
        Check.same("the first ones, then the new ones", tapeBytes(c, 22), "0001" + "0A0A0A0A0B0B0B0B0C0C0C0C0D0D0D0D0E0E0E0E");
    }

    // "a call that reads it empties it, whatever it answers or throws": each of the calls, each way it can end

    private static void emptied(Check c, String call) {
        Check.same("THE TAPE behind " + call, c.card.count(4), 0);
    }

    private static void fillEmptiesTheTape() {
        Check c = new Check();
        c.card.file(0, 1, 1, 4, 1);
        c.reads("fill of no FILE", IndexOutOfBoundsException.class, "01", () -> c.card.fill(2, 0));
        c.reads("fill of the root", IndexOutOfBoundsException.class, "01", () -> c.card.fill(0, 0));
        c.reads("fill below 0", IllegalArgumentException.class, "01", () -> c.card.fill(1, -1));
        c.reads("fill beyond", IllegalArgumentException.class, "01", () -> c.card.fill(1, 4));
        c.tape("01");
        Check.same("fill", c.card.fill(1, 3), 1);
        emptied(c, "fill");
    }

    private static void nodeEmptiesTheTape() {
        Check c = new Check();
        c.reads("node of no SORT", IllegalArgumentException.class, "01", () -> c.card.node(8, 0));
        c.reads("node of no QUALIFIER", IllegalArgumentException.class, "01", () -> c.card.node(0, 256));
        c.reads("node of 101 bytes", IllegalArgumentException.class, Check.many("41", 101), () -> c.card.node(0, 0));
        for (int i = 0; i < 40; i++) {
            c.node(0, 0, "41");
            emptied(c, "node");
        }
        c.reads("node 41", UnsupportedOperationException.class, "01", () -> c.card.node(0, 0));
    }

    private static void itemEmptiesTheTape() {
        Check c = new Check();
        c.node(2, 0, "");
        c.node(0, 0, "");
        c.reads("item of no NODE", IndexOutOfBoundsException.class, "01", () -> c.card.item(2, 1));
        c.reads("item of no CHOICE", IllegalArgumentException.class, "01", () -> c.card.item(1, 1));
        c.reads("item 0", IllegalArgumentException.class, "01", () -> c.card.item(0, 0));
        c.reads("item of 21 bytes", IllegalArgumentException.class, Check.many("41", 21), () -> c.card.item(0, 1));
        for (int i = 1; i <= 5; i++) {
            c.item(0, i, "41");
            emptied(c, "item");
        }
        c.reads("item that there is", IllegalArgumentException.class, "01", () -> c.card.item(0, 1));
        c.reads("item 6", UnsupportedOperationException.class, "01", () -> c.card.item(0, 6));
    }

    private static void titleEmptiesTheTape() {
        Check c = new Check();
        c.reads("title of 21 bytes", IllegalArgumentException.class, Check.many("41", 21), () -> c.card.title());
        c.tape("41");
        c.card.title();
        emptied(c, "title");
    }

    private static void commandEmptiesTheTape() {
        Check c = new Check();
        c.card.file(0, 1, 1, 4, 1);
        String[] commands = {"00", "00A400", "00A40000020001FF", "01A40000", "00000000", "00A40100", "00A4000C020009",
            "00A4000C020001", "00B0000004", "00B0000005", "00200001", "0020000108FFFFFFFFFFFFFFFF", "801000000100",
            "8012000000", "801400000100", "80C200000100", Check.many("00", 300)};
        for (String hex : commands) {
            c.command(hex);
            emptied(c, hex);
        }
    }

    private static void anEmptyTapeIsRead() {
        Check c = new Check();
        c.card.file(0, 1, 1, 4, 1);
        Check.same("fill", c.card.fill(1, 0), 0);
        Check.same("nothing is written", c.fileBytes(1), "FFFFFFFF");
        Check.same("node", c.card.node(2, 0), 0);
        Check.same("item", c.card.item(0, 1), 1);
        Check.same("title", c.card.title(), 0);
        Check.same("command", c.card.command(), 0x6700);
    }

    private static void aFullTapeIsRead() {
        Check c = taped(300);
        c.card.file(0, 1, 1, 300, 1);
        Check.same("fill of 300", c.card.fill(1, 0), 300);
        Check.same("the last one", c.card.byteOf(1, 299), 299 & 0xFF);
        emptied(c, "fill of 300");
        Check.same("and 300 more", tapedAgain(c), 300);
    }

    private static int tapedAgain(Check c) {
        int n = 0;
        for (int i = 0; i < 15; i++) {
            n = c.card.feed(0, 0, 0, 0, 0);
        }
        return n;
    }

    private static void othersLeaveTheTape() {
        Check c = new Check();
        c.node(0, 0, "");
        c.tape("0102030405");
        Check.throwing("file", IndexOutOfBoundsException.class, () -> c.card.file(9, 1, 1, 1, 1));
        Check.throwing("file", IllegalArgumentException.class, () -> c.card.file(0, 9, 1, 1, 1));
        Check.throwing("out", NoSuchElementException.class, () -> c.card.out(0));
        c.card.file(0, 1, 2, 1, 1);
        c.card.rights(1, 0, 0);
        c.card.rights(1, 9, 0);
        c.card.with(0, 0, 0, -1);
        c.card.with(0, 0, 0, 9);
        c.card.goes(0, 0, 0);
        c.card.goes(0, 4, 0);
        c.card.pick(0, 1, 0);
        c.card.by(0, 0, 0);
        c.card.by(2, 0, 0);
        c.card.reset();
        c.card.end(-1);
        c.card.end(6);
        for (int what = -1; what <= 16; what++) {
            c.card.count(what);
        }
        c.card.timer(1);
        c.card.byteOf(1, 0);
        Check.same("THE TAPE", c.card.count(4), 5);
        Check.same("its bytes", tapeBytes(c, 5), "0102030405");
    }

    /** "THE OUT is what the latest command() answered, without its STATUS" */
    private static void outIsOfTheLatestCommand() {
        Check c = new Check();
        Check.same("nothing at first", c.card.count(3), 0);
        c.answers("00A40004023F00", "620B 820100 83023F00 8A020000");
        c.tape("41");
        c.card.node(0, 0);
        c.card.file(0, 1, 1, 2, 1);
        c.tape("4142");
        c.card.fill(1, 0);
        c.card.reset();
        c.card.feed(1, 2, 3, 4, 5);
        Check.same("no other call changes it", c.out(), "620B82010083023F008A020000");
        c.answers("00A4000C020001", "");
        c.answers("00B0000002", "4142");
        c.answers("00B0000001", "41");
        c.refused("00B0000003", 0x6C02);
        c.answers("00B0000002", "4142");
        c.refused("", 0x6700);
        c.answers("00B0000002", "4142");
        c.refused("01B0000002", 0x6E00);
    }
}
