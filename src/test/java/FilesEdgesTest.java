/** The boundary cases of term 2 and of promises 4, 5, 6 and 19: FILES are made, have rights, are filled. */
public final class FilesEdgesTest {
    public static void main(String[] args) {
        theRootIsThere();
        aboveMustBeThere();
        aboveMustBeADirectory();
        kinds();
        ids();
        takenIds();
        sizes();
        whichExceptionComesFirst();
        fortyFiles();
        eightThousandBytes();
        aRefusedFileTakesNothing();
        allBytesAreFF();
        rightsAtTheirEdges();
        refusedRightsLeaveBoth();
        rightsAtFirst();
        fillAtItsEdges();
        fillOfNoBytes();
        fillOfNoFile();
        byteOfAtItsEdges();
        whatIsAtHandStays();
        Check.finish();
    }

    private static void refuses(Check c, Class<? extends RuntimeException> due, int... a) {
        String call = "file(" + a[0] + ", " + a[1] + ", " + a[2] + ", " + a[3] + ", " + a[4] + ")";
        String before = c.state();
        Check.throwing(call, due, () -> c.card.file(a[0], a[1], a[2], a[3], a[4]));
        Check.same("the state behind " + call, c.state(), before);
    }

    private static void refusesArgument(Check c, int... a) {
        refuses(c, IllegalArgumentException.class, a);
    }

    /** "0 is the root, a DIRECTORY, of id 3F00" */
    private static void theRootIsThere() {
        Check c = new Check();
        c.answers("00A40004023F00", "620B 820100 83023F00 8A020000");
        Check.same("the first one that is made", c.card.file(0, 0, 1, 0, 0), 1);
        Check.same("the next one", c.card.file(1, 0, 1 + 1, 0, 0), 2);
    }

    /** "IndexOutOfBoundsException: above is no FILE that there is" */
    private static void aboveMustBeThere() {
        Check c = new Check();
        c.card.file(0, 0, 0x7F10, 0, 0);
        int[] none = {Check.LOWEST, -2, -1, 2, 3, 39, 40, Check.HIGHEST};
        for (int above : none) {
            refuses(c, IndexOutOfBoundsException.class, above, 1, 1, 1, 1);
        }
        Check.same("the last one that there is", c.card.file(1, 1, 1, 1, 1), 2);
        Check.same("the first one", c.card.file(0, 1, 1, 1, 1), 3);
    }

    /** "IllegalArgumentException: it is no DIRECTORY" */
    private static void aboveMustBeADirectory() {
        Check c = new Check();
        for (int kind = 1; kind <= 3; kind++) {
            c.card.file(0, kind, kind, 1, 1);
            refusesArgument(c, kind, 1, 9, 1, 1);
            refusesArgument(c, kind, 0, 9, 0, 0);
        }
    }

    /** "another KIND" */
    private static void kinds() {
        Check c = new Check();
        int[] others = {Check.LOWEST, -1, 4, 5, Check.HIGHEST};
        for (int kind : others) {
            refusesArgument(c, 0, kind, 1, 1, 1);
            refusesArgument(c, 0, kind, 1, 0, 0);
        }
        Check.same("KIND 0", c.card.file(0, 0, 1, 0, 0), 1);
        Check.same("KIND 3", c.card.file(0, 3, 2, 1, 1), 2);
    }

    /** "an id not 0 .. 65535" */
    private static void ids() {
        Check c = new Check();
        int[] others = {Check.LOWEST, -65536, -1, 65536, 65537, 65536 + 0x3F00, Check.HIGHEST};
        for (int id : others) {
            refusesArgument(c, 0, 1, id, 1, 1);
        }
        int[] good = {0, 1, 0x3EFF, 0x3F01, 65534, 65535};
        for (int i = 0; i < good.length; i++) {
            Check.same("id " + good[i], c.card.file(0, 1, good[i], 1, 1), i + 1);
        }
        c.answers("00A40004020000", "620F 820101 83020000 80020001 8A020000");
        c.answers("00A4000402FFFF", "620F 820101 8302FFFF 80020001 8A020000");
    }

    /** "or that of the root, of above or of one in it" */
    private static void takenIds() {
        Check c = new Check();
        c.card.file(0, 0, 10, 0, 0);
        c.card.file(1, 0, 20, 0, 0);
        c.card.file(2, 0, 30, 0, 0);
        for (int above = 0; above <= 3; above++) {
            refusesArgument(c, above, 1, 0x3F00, 1, 1);
        }
        refusesArgument(c, 1, 1, 10, 1, 1);
        refusesArgument(c, 2, 1, 20, 1, 1);
        refusesArgument(c, 0, 1, 10, 1, 1);
        refusesArgument(c, 1, 0, 20, 0, 0);
        refusesArgument(c, 2, 2, 30, 1, 1);
        Check.same("that of one two above", c.card.file(2, 1, 10, 1, 1), 4);
        Check.same("that of one two below", c.card.file(0, 1, 20, 1, 1), 5);
        Check.same("that of one beside above", c.card.file(3, 1, 10, 1, 1), 6);
        refusesArgument(c, 3, 1, 10, 1, 1);
    }

    /** "SIZE or MANY not 1 .. 255 (of KIND 1 SIZE 1 .. 1000 and MANY 1, of KIND 0 both 0)" */
    private static void sizes() {
        Check c = new Check();
        int[] wrong = {Check.LOWEST, -1, 0, 256, 257, 1000, Check.HIGHEST};
        for (int kind = 2; kind <= 3; kind++) {
            for (int n : wrong) {
                refusesArgument(c, 0, kind, 1, n, 1);
                refusesArgument(c, 0, kind, 1, 1, n);
                refusesArgument(c, 0, kind, 1, n, n);
            }
        }
        int[] wrongSizes = {Check.LOWEST, -1, 0, 1001, Check.HIGHEST};
        int[] wrongMany = {Check.LOWEST, -1, 0, 2, 255, Check.HIGHEST};
        for (int n : wrongSizes) {
            refusesArgument(c, 0, 1, 1, n, 1);
        }
        for (int n : wrongMany) {
            refusesArgument(c, 0, 1, 1, 1, n);
        }
        int[] notZero = {Check.LOWEST, -1, 1, Check.HIGHEST};
        for (int n : notZero) {
            refusesArgument(c, 0, 0, 1, n, 0);
            refusesArgument(c, 0, 0, 1, 0, n);
        }
        int[][] good = {{1, 1, 1}, {1, 256, 1}, {1, 999, 1}, {1, 1000, 1}, {2, 1, 1}, {2, 255, 1}, {2, 1, 255}, {3, 1, 1},
            {3, 255, 1}, {3, 1, 255}, {2, 254, 2}, {3, 2, 254}, {0, 0, 0}};
        int bytes = 0;
        for (int i = 0; i < good.length; i++) {
            Check.same("good " + i, c.card.file(0, good[i][0], i, good[i][1], good[i][2]), i + 1);
            bytes += good[i][1] * good[i][2];
            Check.same("bytes of all", c.card.count(15), bytes);
        }
    }

    private static void whichExceptionComesFirst() {
        Check c = new Check();
        refuses(c, IndexOutOfBoundsException.class, 1, 9, -1, 0, 0);
        for (int i = 1; i <= 8; i++) {
            c.card.file(0, 1, i, 1000, 1);
        }
        refuses(c, UnsupportedOperationException.class, 0, 1, 100, 1, 1);
        refusesArgument(c, 0, 1, 100, 1001, 1);
        refusesArgument(c, 0, 1, 8, 1, 1);
        refusesArgument(c, 1, 1, 100, 1, 1);
        refuses(c, IndexOutOfBoundsException.class, 9, 1, 100, 1, 1);
    }

    /** "UnsupportedOperationException: there are 40" */
    private static void fortyFiles() {
        Check c = new Check();
        for (int i = 1; i < 40; i++) {
            Check.same("file " + i, c.card.file(0, 0, i, 0, 0), i);
        }
        Check.same("with the root 40", c.card.count(0), 40);
        for (int kind = 0; kind <= 3; kind++) {
            int n = kind == 0 ? 0 : 1;
            refuses(c, UnsupportedOperationException.class, 0, kind, 100, n, n);
            refuses(c, UnsupportedOperationException.class, 39, kind, 100, n, n);
            refusesArgument(c, 0, kind, 39, n, n);
            refuses(c, IndexOutOfBoundsException.class, 40, kind, 100, n, n);
        }
        c.answers("00A4000C020027", "");
        Check.same("the last one", c.card.count(8), 39);
    }

    /** "or 8000 bytes together would be passed" */
    private static void eightThousandBytes() {
        Check c = new Check();
        for (int i = 1; i <= 7; i++) {
            c.card.file(0, 1, i, 1000, 1);
        }
        refuses(c, UnsupportedOperationException.class, 0, 2, 50, 13, 77);
        refuses(c, UnsupportedOperationException.class, 0, 3, 50, 255, 255);
        Check.same("to 7999", c.card.file(0, 1, 50, 999, 1), 8);
        refuses(c, UnsupportedOperationException.class, 0, 1, 51, 2, 1);
        refuses(c, UnsupportedOperationException.class, 0, 2, 51, 1, 2);
        refuses(c, UnsupportedOperationException.class, 0, 3, 51, 2, 1);
        Check.same("to 8000", c.card.file(0, 2, 51, 1, 1), 9);
        Check.same("bytes of all", c.card.count(15), 8000);
        for (int kind = 1; kind <= 3; kind++) {
            refuses(c, UnsupportedOperationException.class, 0, kind, 52, 1, 1);
        }
        Check.same("a DIRECTORY needs none", c.card.file(0, 0, 52, 0, 0), 10);
        Check.same("in one step", new ChipCard().file(0, 2, 1, 40, 200), 1);
        refuses(new Check(), UnsupportedOperationException.class, 0, 2, 1, 127, 63);
        Check.same("just passed over", new ChipCard().file(0, 3, 1, 129, 62), 1);
    }

    private static void aRefusedFileTakesNothing() {
        Check c = new Check();
        refuses(c, UnsupportedOperationException.class, 0, 2, 1, 255, 255);
        refusesArgument(c, 0, 1, 2, 1001, 1);
        Check.same("the number is the next one", c.card.file(0, 1, 1, 1000, 1), 1);
        Check.same("the id is free", c.card.file(0, 1, 2, 1000, 1), 2);
        c.refused("00A4000C020003", 0x6A82);
    }

    /** "All bytes are FF at first" */
    private static void allBytesAreFF() {
        Check c = new Check();
        c.card.file(0, 1, 1, 1000, 1);
        c.card.file(0, 2, 2, 255, 3);
        c.card.file(0, 3, 3, 3, 255);
        Check.same("BYTES", c.fileBytes(1), Check.many("FF", 1000));
        Check.same("RECORDS", c.fileBytes(2), Check.many("FF", 765));
        Check.same("a RING", c.fileBytes(3), Check.many("FF", 765));
    }

    /** "true; false if there is none such, or one is not 0 .. 2" */
    private static void rightsAtTheirEdges() {
        Check c = new Check();
        c.card.file(0, 1, 1, 1, 1);
        for (int read = 0; read <= 2; read++) {
            for (int write = 0; write <= 2; write++) {
                Check.same("rights", c.card.rights(1, read, write), true);
                c.answers("00A40004020001", "620F 820101 83020001 80020001 8A02" + Check.hex(read) + Check.hex(write));
            }
        }
        int[] none = {Check.LOWEST, -1, 2, 39, 40, Check.HIGHEST};
        for (int file : none) {
            Check.same("rights of FILE " + file, c.card.rights(file, 0, 0), false);
        }
        Check.same("of the root", c.card.rights(0, 1, 2), true);
        c.answers("00A40004023F00", "620B 820100 83023F00 8A020102");
    }

    private static void refusedRightsLeaveBoth() {
        Check c = new Check();
        c.card.file(0, 1, 1, 1, 1);
        c.card.rights(1, 1, 2);
        int[] wrong = {Check.LOWEST, -1, 3, 4, Check.HIGHEST};
        for (int right : wrong) {
            Check.same("read " + right, c.card.rights(1, right, 0), false);
            Check.same("write " + right, c.card.rights(1, 0, right), false);
            Check.same("both " + right, c.card.rights(1, right, right), false);
            c.answers("00A40004020001", "620F 820101 83020001 80020001 8A020102");
        }
    }

    private static void rightsAtFirst() {
        Check c = new Check();
        for (int kind = 1; kind <= 3; kind++) {
            c.card.file(0, kind, kind, 1, 1);
        }
        c.answers("00A40004020001", "620F 820101 83020001 80020001 8A020000");
        c.answers("00A40004020002", "620D 8203020101 83020002 8A020000");
        c.answers("00A40004020003", "620D 8203030101 83020003 8A020000");
    }

    private static void refusesFill(Check c, Class<? extends RuntimeException> due, int file, int at, String bytes) {
        c.reads("fill(" + file + ", " + at + ") " + bytes, due, bytes, () -> c.card.fill(file, at));
    }

    /** "IllegalArgumentException: at is below 0, or they go beyond" */
    private static void fillAtItsEdges() {
        int[][] shapes = {{1, 6, 1}, {2, 2, 3}, {3, 3, 2}};
        for (int[] shape : shapes) {
            for (int n = 1; n <= 7; n++) {
                Check c = new Check();
                c.card.file(0, shape[0], 1, shape[1], shape[2]);
                c.card.file(0, 1, 2, 20, 1);
                String bytes = Check.many("5A", n);
                int[] beyond = {Check.LOWEST, -6, -1, 6 - n + 1, 6, 7, Check.HIGHEST - 5, Check.HIGHEST};
                for (int at : beyond) {
                    refusesFill(c, IllegalArgumentException.class, 1, at, bytes);
                }
                Check.same("nothing is written", c.fileBytes(1), Check.many("FF", 6));
                for (int at = 0; at + n <= 6; at++) {
                    c.tape(bytes);
                    Check.same("fill at " + at, c.card.fill(1, at), n);
                    Check.same("up to there", c.fileBytes(1), Check.many("5A", at + n) + Check.many("FF", 6 - at - n));
                }
                Check.same("not the next FILE", c.fileBytes(2), Check.many("FF", 20));
            }
        }
    }

    private static void fillOfNoBytes() {
        Check c = new Check();
        c.card.file(0, 1, 1, 4, 1);
        for (int at = 0; at <= 4; at++) {
            Check.same("no bytes at " + at, c.card.fill(1, at), 0);
        }
        refusesFill(c, IllegalArgumentException.class, 1, -1, "");
        refusesFill(c, IllegalArgumentException.class, 1, 5, "");
        Check.same("nothing is written", c.fileBytes(1), "FFFFFFFF");
    }

    /** "IndexOutOfBoundsException: there is no such FILE, or it is a DIRECTORY" */
    private static void fillOfNoFile() {
        Check c = new Check();
        c.card.file(0, 0, 1, 0, 0);
        c.card.file(0, 1, 2, 2, 1);
        int[] none = {Check.LOWEST, -1, 0, 1, 3, 39, 40, Check.HIGHEST};
        for (int file : none) {
            refusesFill(c, IndexOutOfBoundsException.class, file, 0, "41");
            refusesFill(c, IndexOutOfBoundsException.class, file, 0, "");
            refusesFill(c, IndexOutOfBoundsException.class, file, -1, Check.many("41", 300));
        }
        c.tape("41");
        Check.same("the last one", c.card.fill(2, 0), 1);
    }

    /** "Byte i of a FILE ...; NONE if there is none such" */
    private static void byteOfAtItsEdges() {
        int[][] shapes = {{1, 1000, 1}, {1, 1, 1}, {2, 255, 2}, {3, 2, 255}};
        Check c = new Check();
        for (int i = 0; i < shapes.length; i++) {
            int file = c.card.file(0, shapes[i][0], i, shapes[i][1], shapes[i][2]);
            int total = shapes[i][1] * shapes[i][2];
            int[] none = {Check.LOWEST, -total, -1, total, total + 1, Check.HIGHEST};
            for (int place : none) {
                Check.same("byteOf(" + file + ", " + place + ")", c.card.byteOf(file, place), ChipCard.NONE);
            }
            c.tape("00");
            c.card.fill(file, total - 1);
            Check.same("the last one", c.card.byteOf(file, total - 1), 0);
            Check.same("the first one", c.card.byteOf(file, 0), total == 1 ? 0 : 255);
        }
        c.card.file(0, 0, 9, 0, 0);
        int[] noFile = {Check.LOWEST, -1, 0, 5, 6, 39, 40, Check.HIGHEST};
        for (int file : noFile) {
            Check.same("byteOf(" + file + ", 0)", c.card.byteOf(file, 0), ChipCard.NONE);
        }
    }

    /** "the card is made (at any time; what is at hand, PENDING stays)" */
    private static void whatIsAtHandStays() {
        Check c = new Check();
        c.card.file(0, 0, 0x7F10, 0, 0);
        c.card.file(1, 2, 0x6F01, 1, 3);
        c.node(0, 0, "");
        c.card.by(0, 0, 0);
        c.answers("00A4080C047F106F01", "");
        c.answers("00B2000201", "FF");
        c.answers("00B2000201", "FF");
        c.answers("002000010831323334FFFFFFFF", "");
        c.profile(Check.FULL_PROFILE, 0x9000);
        c.event(0, 0x910E);
        String before = c.counts();
        c.card.rights(2, 2, 2);
        c.tape("41");
        c.card.fill(2, 0);
        c.card.with(0, 1, 2, 2);
        c.card.goes(0, 0, 0);
        c.card.by(0, 0, -1);
        c.card.by(1, 1, 0);
        c.tape("41");
        c.card.title();
        Check.same("at hand, VERIFIED, PENDING", c.counts(), before);
        c.card.file(1, 1, 0x6F02, 1, 1);
        c.node(2, 0, "");
        c.item(-1, 1, "");
        Check.same("FILE", c.card.count(7), 2);
        Check.same("DIRECTORY", c.card.count(8), 1);
        Check.same("RECORD", c.card.count(9), 2);
        Check.same("PENDING", c.card.count(11), 1);
        Check.same("NODE", c.card.count(12), 0);
        Check.same("NUMBER", c.card.count(13), 1);
    }
}
