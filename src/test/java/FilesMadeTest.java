/** Promises 4, 5, 6 and 19: FILES are made, have rights, are filled and looked at. */
public final class FilesMadeTest {
    public static void main(String[] args) {
        filesAreNumbered();
        wrongFiles();
        idsMayStandElsewhere();
        fortyFiles();
        eightThousandBytes();
        rightsAreSet();
        fillWrites();
        byteOfLooks();
        Check.finish();
    }

    private static void filesAreNumbered() {
        ChipCard x = new ChipCard();
        Check.same("directory", x.file(0, 0, 0x7F10, 0, 0), 1);
        Check.same("bytes", x.file(1, 1, 0, 1000, 1), 2);
        Check.same("records", x.file(1, 2, 65535, 255, 1), 3);
        Check.same("ring", x.file(0, 3, 1, 1, 255), 4);
        Check.same("count 0", x.count(0), 5);
        Check.same("count 15", x.count(15), 1000 + 255 + 255);
    }

    private static void wrongFiles() {
        ChipCard x = new ChipCard();
        x.file(0, 0, 0x7F10, 0, 0);
        x.file(0, 1, 5, 10, 1);
        wrong(x, IndexOutOfBoundsException.class, 3, 1, 6, 1, 1);
        wrong(x, IndexOutOfBoundsException.class, -1, 1, 6, 1, 1);
        wrong(x, IndexOutOfBoundsException.class, -1, 9, -6, 0, 0);
        int[][] rows = {
            {2, 1, 6, 1, 1}, {0, 4, 6, 1, 1}, {0, -1, 6, 1, 1}, {0, 1, -1, 1, 1}, {0, 1, 65536, 1, 1},
            {0, 1, 0x3F00, 1, 1}, {1, 1, 0x3F00, 1, 1}, {1, 1, 0x7F10, 1, 1}, {0, 1, 5, 1, 1}, {0, 0, 0x7F10, 0, 0},
            {0, 1, 6, 0, 1}, {0, 1, 6, 1001, 1}, {0, 1, 6, 1, 0}, {0, 1, 6, 1, 2}, {0, 0, 6, 1, 0}, {0, 0, 6, 0, 1},
            {0, 2, 6, 0, 1}, {0, 2, 6, 256, 1}, {0, 2, 6, 1, 0}, {0, 2, 6, 1, 256}, {0, 3, 6, 0, 1}, {0, 3, 6, 256, 1},
            {0, 3, 6, 1, 0}, {0, 3, 6, 1, 256}, {0, 3, 6, Integer.MAX_VALUE, Integer.MAX_VALUE}, {0, 2, 6, -1, -1},
        };
        for (int[] row : rows) {
            wrong(x, IllegalArgumentException.class, row[0], row[1], row[2], row[3], row[4]);
        }
        Check.same("nothing was made", x.count(0), 3);
        Check.same("no bytes came", x.count(15), 10);
    }

    private static void wrong(ChipCard x, Class<? extends RuntimeException> due, int above, int kind, int id, int size, int many) {
        String call = "file(" + above + ", " + kind + ", " + id + ", " + size + ", " + many + ")";
        Check.throwing(call, due, () -> x.file(above, kind, id, size, many));
    }

    private static void idsMayStandElsewhere() {
        ChipCard x = new ChipCard();
        x.file(0, 0, 10, 0, 0);
        x.file(1, 0, 20, 0, 0);
        Check.same("the id of one two above", x.file(2, 1, 10, 1, 1), 3);
        Check.same("an id of another directory", x.file(0, 1, 20, 1, 1), 4);
    }

    private static void fortyFiles() {
        ChipCard x = new ChipCard();
        for (int i = 1; i < 40; i++) {
            Check.same("file " + i, x.file(0, i % 2 == 0 ? 0 : 1, i, i % 2, i % 2), i);
        }
        wrong(x, UnsupportedOperationException.class, 0, 0, 100, 0, 0);
        wrong(x, IllegalArgumentException.class, 0, 0, 1, 0, 0);
        wrong(x, IndexOutOfBoundsException.class, 40, 0, 1, 0, 0);
        Check.same("count 0", x.count(0), 40);
    }

    private static void eightThousandBytes() {
        ChipCard x = new ChipCard();
        for (int i = 0; i < 7; i++) {
            x.file(0, 1, i, 1000, 1);
        }
        wrong(x, UnsupportedOperationException.class, 0, 2, 50, 143, 7);
        Check.same("up to 8000", x.file(0, 1, 50, 1000, 1), 8);
        Check.same("count 15", x.count(15), 8000);
        wrong(x, UnsupportedOperationException.class, 0, 1, 51, 1, 1);
        Check.same("a directory has none", x.file(0, 0, 51, 0, 0), 9);
    }

    private static void rightsAreSet() {
        Check c = new Check();
        c.card.file(0, 1, 0x6F01, 2, 1);
        Check.same("rights", c.card.rights(1, 1, 2), true);
        Check.same("of the root", c.card.rights(0, 2, 1), true);
        Check.same("no file", c.card.rights(2, 0, 0), false);
        Check.same("no file -1", c.card.rights(-1, 0, 0), false);
        Check.same("read 3", c.card.rights(1, 3, 0), false);
        Check.same("read -1", c.card.rights(1, -1, 0), false);
        Check.same("write 3", c.card.rights(1, 0, 3), false);
        Check.same("write -1", c.card.rights(1, 0, -1), false);
        c.answers("00A40004026F01", "620F 820101 83026F01 80020002 8A020102");
        c.answers("00A40004023F00", "620B 820100 83023F00 8A020201");
    }

    private static void fillWrites() {
        Check c = new Check();
        c.card.file(0, 1, 1, 4, 1);
        c.card.file(0, 2, 2, 2, 3);
        c.card.file(0, 3, 3, 2, 2);
        fill(c, 1, 1, "0102", 2);
        Check.same("bytes", c.fileBytes(1), "FF0102FF");
        fill(c, 1, 2, "0304", 2);
        Check.same("up to the end", c.fileBytes(1), "FF010304");
        fill(c, 2, 1, "AABBCC", 3);
        Check.same("over records", c.fileBytes(2), "FFAABBCCFFFF");
        fill(c, 3, 0, "11112222", 4);
        Check.same("ring", c.fileBytes(3), "11112222");
        fill(c, 1, 4, "", 0);
        c.card.rights(1, 2, 2);
        fill(c, 1, 0, "77", 1);
        Check.same("rights are not asked", c.card.byteOf(1, 0), 0x77);
        wrongFill(c, IndexOutOfBoundsException.class, 0, 0);
        wrongFill(c, IndexOutOfBoundsException.class, 4, 0);
        wrongFill(c, IndexOutOfBoundsException.class, -1, -1);
        wrongFill(c, IllegalArgumentException.class, 1, -1);
        wrongFill(c, IllegalArgumentException.class, 1, 3);
        wrongFill(c, IllegalArgumentException.class, 1, Integer.MAX_VALUE);
        wrongFill(c, IllegalArgumentException.class, 1, Integer.MIN_VALUE);
        wrongFill(c, IllegalArgumentException.class, 2, 5);
        Check.same("nothing was written", c.fileBytes(1) + c.fileBytes(2), "77010304" + "FFAABBCCFFFF");
    }

    private static void fill(Check c, int file, int at, String bytes, int due) {
        c.tape(bytes);
        Check.same("fill(" + file + ", " + at + ") " + bytes, c.card.fill(file, at), due);
    }

    private static void wrongFill(Check c, Class<? extends RuntimeException> due, int file, int at) {
        c.tape("EEEE");
        Check.throwing("fill(" + file + ", " + at + ")", due, () -> c.card.fill(file, at));
    }

    private static void byteOfLooks() {
        Check c = new Check();
        c.card.file(0, 2, 1, 2, 2);
        c.card.file(0, 3, 2, 2, 2);
        fill(c, 1, 0, "01020304", 4);
        Check.same("FF at first", c.fileBytes(2), "FFFFFFFF");
        Check.same("first", c.card.byteOf(1, 0), 1);
        Check.same("last", c.card.byteOf(1, 3), 4);
        Check.same("behind", c.card.byteOf(1, 4), ChipCard.NONE);
        Check.same("ahead", c.card.byteOf(1, -1), ChipCard.NONE);
        Check.same("of the root", c.card.byteOf(0, 0), ChipCard.NONE);
        Check.same("no file", c.card.byteOf(3, 0), ChipCard.NONE);
        Check.same("file -1", c.card.byteOf(-1, 0), ChipCard.NONE);
        c.status("00A4000C020002", 0x9000);
        c.status("00DC0003020A0B", 0x9000);
        c.status("00DC0003020C0D", 0x9000);
        Check.same("record 1 of a ring first", c.fileBytes(2), "0C0D0A0B");
    }
}
