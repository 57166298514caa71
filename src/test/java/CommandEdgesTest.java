/** The boundary cases of term 3: the form of a COMMAND, what its STATUS is, and SELECT. */
public final class CommandEdgesTest {
    public static void main(String[] args) {
        tooFewBytes();
        lengthsOfData();
        aLengthOfZero();
        classes();
        instructions();
        whatIsAskedFirst();
        parametersThatAreNotAsked();
        selectParameters();
        selectLengths();
        selectWithoutData();
        selectById();
        selectNearerOnesFirst();
        selectByPath();
        selectByTheLongestPath();
        selectTakesInHand();
        aRefusedSelectLeavesWhatIsAtHand();
        selectTells();
        Check.finish();
    }

    /** "6700: not so many bytes" */
    private static void tooFewBytes() {
        Check c = new Check();
        String[] headers = {"00A4000C", "80100000", "00200001", "FF000000", "00FF0000"};
        for (String header : headers) {
            for (int n = 0; n <= 3; n++) {
                c.unchanged(header.substring(0, 2 * n), 0x6700);
            }
        }
        c.unchanged("00200001", 0x63C3);
    }

    /** "or L and L bytes DATA (L from 1 on)", "6700: not so many bytes, or others behind" */
    private static void lengthsOfData() {
        int[] lengths = {1, 2, 3, 16, 127, 128, 254, 255};
        for (int length : lengths) {
            int[] given = {1, length - 1, length, length + 1, length + 2, 295};
            for (int n : given) {
                Check c = new Check();
                String hex = "80100000" + Check.hex(length) + Check.many("00", n);
                if (n == length) {
                    c.answers(hex, "");
                } else if (n > 0) {
                    c.unchanged(hex, 0x6700);
                }
            }
        }
    }

    private static void aLengthOfZero() {
        Check c = new Check();
        for (int n = 1; n <= 295; n++) {
            c.unchanged("8010000000" + Check.many("00", n), 0x6700);
        }
        c.unchanged("8012000000", 0x6985);
    }

    /** "6E00: CLA is not 00 or 80" */
    private static void classes() {
        Check c = new Check();
        for (int cla = 0; cla <= 255; cla++) {
            if (cla != 0x00 && cla != 0x80) {
                c.unchanged(Check.hex(cla) + "A4000C023F00", 0x6E00);
                c.unchanged(Check.hex(cla) + "100000", 0x6E00);
                c.unchanged(Check.hex(cla) + "FF0000", 0x6E00);
            }
        }
    }

    /** "6D00: INS is none of CLA's" */
    private static void instructions() {
        Check c = new Check();
        String ofFiles = "A4|B0|D6|B2|DC|A2|20|24|2C";
        String ofToolkit = "10|12|14|C2";
        for (int ins = 0; ins <= 255; ins++) {
            String hex = Check.hex(ins);
            if (!hex.matches(ofFiles)) {
                c.unchanged("00" + hex + "0000", 0x6D00);
                c.unchanged("00" + hex + "000001", 0x6D00);
                c.unchanged("00" + hex + "00000100", 0x6D00);
            } else {
                Check.same("00 " + hex, c.command("00" + hex + "0000") != 0x6D00, true);
            }
            if (!hex.matches(ofToolkit)) {
                c.unchanged("80" + hex + "0000", 0x6D00);
                c.unchanged("80" + hex + "000001", 0x6D00);
                c.unchanged("80" + hex + "00000100", 0x6D00);
            } else {
                Check.same("80 " + hex, c.command("80" + hex + "0000") != 0x6D00, true);
            }
        }
    }

    /** "STATUS, the first that is so: 6700 ... 6E00 ... 6D00 ... Then as told" */
    private static void whatIsAskedFirst() {
        Check c = new Check();
        c.unchanged("01FF00000200", 0x6700);
        c.unchanged("00FF00000200", 0x6700);
        c.unchanged("01FF0000", 0x6E00);
        c.unchanged("00FF0000", 0x6D00);
        c.unchanged("00A4FFFF0200", 0x6700);
        c.unchanged("00A4FFFF", 0x6A86);
    }

    /** P1 and P2 of most commands are told nowhere. */
    private static void parametersThatAreNotAsked() {
        Check c = new Check();
        c.node(5, 0, "");
        c.card.by(0, 0, 0);
        c.answers("8010FFFF0102", "");
        c.status("80C2010205D603990100", 0x910B);
        c.answers("8012FF010B", "D009 8103010100 82028182");
        c.answers("8014FE7F088103010100830100", "");
    }

    /** "6A86: P1 is not 00 or 08, or P2 not 04 or 0C" */
    private static void selectParameters() {
        Check c = new Check();
        c.card.file(0, 1, 1, 1, 1);
        for (int p = 0; p <= 255; p++) {
            if (p != 0x00 && p != 0x08) {
                c.unchanged("00A4" + Check.hex(p) + "04020001", 0x6A86);
                c.unchanged("00A4" + Check.hex(p) + "0C", 0x6A86);
            }
            if (p != 0x04 && p != 0x0C) {
                c.unchanged("00A400" + Check.hex(p) + "020001", 0x6A86);
                c.unchanged("00A408" + Check.hex(p) + "01", 0x6A86);
            }
        }
        c.answers("00A4000C020001", "");
        c.answers("00A4080C020001", "");
        c.answers("00A40004020001", "620F 820101 83020001 80020001 8A020000");
        c.answers("00A40804020001", "620F 820101 83020001 80020001 8A020000");
    }

    /** "of P1 00 not 2 bytes; of 08 not 2, 4 .. 16" */
    private static void selectLengths() {
        Check c = new Check();
        for (int n = 1; n <= 255; n++) {
            c.unchanged(Check.whole("00A4000C", Check.many("3F", n)), n == 2 ? 0x6A82 : 0x6700);
            boolean isPath = n % 2 == 0 && n <= 16;
            c.unchanged(Check.whole("00A4080C", Check.many("3F", n)), isPath ? 0x6A82 : 0x6700);
        }
    }

    /** "6700: no DATA" */
    private static void selectWithoutData() {
        Check c = new Check();
        String[] parameters = {"0004", "000C", "0804", "080C"};
        for (String p : parameters) {
            c.unchanged("00A4" + p, 0x6700);
            c.unchanged("00A4" + p + "00", 0x6700);
            c.unchanged("00A4" + p + "02", 0x6700);
        }
    }

    /** 1 (id 10) and 2 (id 20) in the root; in 1: 3 (30), 4 (40, BYTES); in 3: 5 (50), 6 (10, BYTES), 7 (20, BYTES). */
    private static Check tree() {
        Check c = new Check();
        c.card.file(0, 0, 0x10, 0, 0);
        c.card.file(0, 0, 0x20, 0, 0);
        c.card.file(1, 0, 0x30, 0, 0);
        c.card.file(1, 1, 0x40, 1, 1);
        c.card.file(3, 0, 0x50, 0, 0);
        c.card.file(3, 1, 0x10, 1, 1);
        c.card.file(3, 2, 0x20, 1, 2);
        return c;
    }

    private static void atHand(String when, Check c, int directory, int file) {
        Check.same(when + " the DIRECTORY at hand", c.card.count(8), directory);
        Check.same(when + " the FILE at hand", c.card.count(7), file);
        Check.same(when + " the RECORD at hand", c.card.count(9), 0);
    }

    private static void go(Check c, String path) {
        if (path.isEmpty()) {
            c.answers("00A4000C023F00", "");
        } else {
            c.answers(Check.whole("00A4080C", path), "");
        }
    }

    /** Which ids are found from each DIRECTORY: NONE where 6A82 is due. */
    private static void selectById() {
        String[] from = {"", "0010", "0020", "00100030", "001000300050"};
        int[] ids = {0x3F00, 0x10, 0x20, 0x30, 0x40, 0x50, 0x60};
        int[][] due = {
            {0, 1, 2, -1, -1, -1, -1},
            {0, 1, 2, 3, 4, -1, -1},
            {0, 1, 2, -1, -1, -1, -1},
            {0, 6, 7, 3, 4, 5, -1},
            {0, 6, 7, 3, -1, 5, -1},
        };
        for (int i = 0; i < from.length; i++) {
            for (int k = 0; k < ids.length; k++) {
                Check c = tree();
                go(c, from[i]);
                int before = c.card.count(8);
                int status = c.send("00A4000C", String.format("%04X", ids[k]));
                Check.same("status", status, due[i][k] < 0 ? 0x6A82 : 0x9000);
                boolean isFile = due[i][k] == 4 || due[i][k] >= 6;
                int file = isFile ? due[i][k] : -1;
                int above = due[i][k] == 4 ? 1 : 3;
                int directory = due[i][k] < 0 ? before : isFile ? above : due[i][k];
                atHand("id " + ids[k] + " from " + from[i], c, directory, file);
            }
        }
    }

    /** "the root's; else of one in the DIRECTORY at hand; else of the one above that; else of one in that one above" */
    private static void selectNearerOnesFirst() {
        Check c = tree();
        go(c, "00100030");
        c.answers("00A4000C020010", "");
        atHand("one in the DIRECTORY, not the one above", c, 3, 6);
        Check above = new Check();
        above.card.file(0, 0, 0x10, 0, 0);
        above.card.file(1, 0, 0x20, 0, 0);
        above.card.file(1, 1, 0x40, 1, 1);
        above.card.file(2, 1, 0x40, 1, 1);
        go(above, "00100020");
        above.answers("00A4000C020040", "");
        atHand("one in the DIRECTORY, not one in the one above", above, 2, 4);
        above.answers("00A4000C020010", "");
        atHand("the one above", above, 1, -1);
        above.answers("00A4000C020040", "");
        atHand("one in it", above, 1, 3);
        above.answers("00A4000C020010", "");
        atHand("the DIRECTORY of the FILE is one in the root", above, 1, -1);
        Check root = new Check();
        root.card.file(0, 1, 0x3F01, 1, 1);
        root.unchanged("00A4000C020000", 0x6A82);
        atHand("nothing is above the root", root, 0, -1);
    }

    /** "ids from the root on, each in the one before" */
    private static void selectByPath() {
        Check c = tree();
        go(c, "00100030");
        String[] none = {"3F00", "3F000010", "0030", "0040", "0050", "00100010", "00100020", "00200030", "00100060",
            "001000300060", "00100030001000FF", "001000400040", "0010004000400040", "0010003000503F00"};
        for (String path : none) {
            c.unchanged(Check.whole("00A4080C", path), 0x6A82);
        }
        String[] paths = {"0010", "0020", "00100030", "00100040", "001000300050", "001000300010", "001000300020"};
        int[] directories = {1, 2, 3, 1, 5, 3, 3};
        int[] files = {-1, -1, -1, 4, -1, 6, 7};
        for (int i = 0; i < paths.length; i++) {
            for (String from : paths) {
                go(c, from);
                c.answers(Check.whole("00A4080C", paths[i]), "");
                atHand(paths[i] + " from " + from, c, directories[i], files[i]);
            }
        }
    }

    private static void selectByTheLongestPath() {
        Check c = new Check();
        StringBuilder path = new StringBuilder();
        for (int i = 1; i <= 9; i++) {
            c.card.file(i - 1, 0, i, 0, 0);
            path.append(String.format("%04X", i));
            if (i <= 8) {
                c.answers(Check.whole("00A4080C", path.toString()), "");
                atHand("a path of " + i, c, i, -1);
            } else {
                c.unchanged(Check.whole("00A4080C", path.toString()), 0x6700);
            }
        }
        c.answers("00A4000C020009", "");
        atHand("the ninth one by its id", c, 9, -1);
    }

    /** "A DIRECTORY is at hand then, and no FILE; or a FILE, its DIRECTORY with it; the RECORD is 0" */
    private static void selectTakesInHand() {
        Check c = tree();
        go(c, "001000300020");
        c.answers("00B2000201", "FF");
        Check.same("a RECORD", c.card.count(9), 1);
        c.answers("00A4000C020020", "");
        atHand("the same FILE again", c, 3, 7);
        c.answers("00B2000201", "FF");
        c.answers("00A4000C020010", "");
        atHand("another FILE", c, 3, 6);
        go(c, "001000300020");
        c.answers("00B2000201", "FF");
        c.answers("00A4000C020030", "");
        atHand("its DIRECTORY", c, 3, -1);
        go(c, "001000300020");
        c.answers("00B2000201", "FF");
        c.answers("00A4000C023F00", "");
        atHand("the root", c, 0, -1);
    }

    private static void aRefusedSelectLeavesWhatIsAtHand() {
        Check c = tree();
        go(c, "001000300020");
        c.answers("00B2000201", "FF");
        String[] refused = {"00A4010C020020", "00A40005020020", "00A4000C", "00A4000C0100", "00A4000C03000000", "00A4000C0200FF",
            "00A4080C0200FF", "00A4080C03001000", "00A4080C04001000FF"};
        int[] due = {0x6A86, 0x6A86, 0x6700, 0x6700, 0x6700, 0x6A82, 0x6A82, 0x6700, 0x6A82};
        for (int i = 0; i < refused.length; i++) {
            c.unchanged(refused[i], due[i]);
            Check.same("FILE", c.card.count(7), 7);
            Check.same("RECORD", c.card.count(9), 1);
        }
    }

    /** "P2 04 answers 62 L and: ..." with the least and the highest numbers */
    private static void selectTells() {
        Check c = new Check();
        c.card.file(0, 0, 0, 0, 0);
        c.card.file(0, 1, 0xFFFF, 1, 1);
        c.card.file(0, 1, 0x00FF, 255, 1);
        c.card.file(0, 1, 0x0100, 256, 1);
        c.card.file(0, 1, 0xFF00, 1000, 1);
        c.card.file(0, 2, 0x0001, 1, 255);
        c.card.file(0, 3, 0x8000, 255, 1);
        c.card.rights(7, 2, 2);
        c.answers("00A40004023F00", "620B 820100 83023F00 8A020000");
        c.answers("00A4000402FFFF", "620F 820101 8302FFFF 80020001 8A020000");
        c.answers("00A400040200FF", "620F 820101 830200FF 800200FF 8A020000");
        c.answers("00A40004020100", "620F 820101 83020100 80020100 8A020000");
        c.answers("00A4000402FF00", "620F 820101 8302FF00 800203E8 8A020000");
        c.answers("00A40004020001", "620D 82030201FF 83020001 8A020000");
        c.answers("00A40004028000", "620D 820303FF01 83028000 8A020202");
        c.answers("00A40804020000", "620B 820100 83020000 8A020000");
        c.answers("00A4080C028000", "");
    }
}
