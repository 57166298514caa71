/** The boundary cases of READ BYTES and WRITE BYTES (term 3), and of rights at them. */
public final class BytesEdgesTest {
    private static final String PIN = "002000010831323334FFFFFFFF";

    public static void main(String[] args) {
        readNeedsE();
        writeNeedsData();
        noFileAtHand();
        otherKinds();
        placesOfRead();
        wantedOfRead();
        allThatIsLeft();
        placesOfWrite();
        lengthsOfWrite();
        aPlaceHasTwoBytes();
        rights();
        whatIsAskedFirst();
        Check.finish();
    }

    /** A FILE of so many bytes at hand, which count up from 0. */
    private static Check atHand(int size) {
        Check c = new Check();
        c.card.file(0, 1, 1, size, 1);
        for (int at = 0; at < size; at += 20) {
            c.tape(upFrom(at, Math.min(20, size - at)));
            c.card.fill(1, at);
        }
        c.answers("00A4000C020001", "");
        return c;
    }

    private static String upFrom(int first, int n) {
        StringBuilder all = new StringBuilder();
        for (int i = 0; i < n; i++) {
            all.append(Check.hex(first + i & 0xFF));
        }
        return all.toString();
    }

    private static String read(int place, int e) {
        return "00B0" + String.format("%04X", place) + Check.hex(e);
    }

    private static String write(int place, String data) {
        return Check.whole("00D6" + String.format("%04X", place), data);
    }

    /** "READ BYTES, E. 6700: no E." */
    private static void readNeedsE() {
        Check c = atHand(4);
        c.unchanged("00B00000", 0x6700);
        c.unchanged("00B000000101", 0x6700);
        c.unchanged("00B0000004" + "01020304", 0x6700);
        c.answers(read(0, 1), "00");
    }

    /** "WRITE BYTES, DATA. 6700: none." */
    private static void writeNeedsData() {
        Check c = atHand(4);
        c.unchanged("00D60000", 0x6700);
        c.unchanged("00D6000000", 0x6700);
        c.unchanged("00D6000001", 0x6700);
        Check.same("nothing is written", c.fileBytes(1), "00010203");
        c.answers(write(0, "AA"), "");
        Check.same("the first one", c.fileBytes(1), "AA010203");
    }

    /** "6986: no FILE" */
    private static void noFileAtHand() {
        Check c = atHand(4);
        c.answers("00A4000C023F00", "");
        c.unchanged(read(0, 1), 0x6986);
        c.unchanged(read(9, 0), 0x6986);
        c.unchanged(write(0, "AA"), 0x6986);
        c.unchanged("00B00000", 0x6700);
        c.unchanged("00D60000", 0x6700);
        c.answers("00A4000C020001", "");
        c.card.reset();
        c.unchanged(read(0, 1), 0x6986);
        c.unchanged(write(0, "AA"), 0x6986);
        Check.same("nothing is written", c.fileBytes(1), "00010203");
    }

    /** "6981: not of KIND 1" */
    private static void otherKinds() {
        for (int kind = 2; kind <= 3; kind++) {
            Check c = new Check();
            c.card.file(0, kind, 1, 4, 1);
            c.card.rights(1, 2, 2);
            c.answers("00A4000C020001", "");
            c.unchanged(read(0, 1), 0x6981);
            c.unchanged(read(9, 0), 0x6981);
            c.unchanged(write(0, "AA"), 0x6981);
            c.unchanged(write(9, "AA"), 0x6981);
            c.unchanged("00B00000", 0x6700);
            c.unchanged("00D60000", 0x6700);
            Check.same("nothing is written", c.fileBytes(1), "FFFFFFFF");
        }
    }

    /** "6B00: P1 P2, a number, is not below SIZE" */
    private static void placesOfRead() {
        int[] sizes = {1, 2, 255, 256, 257, 1000};
        for (int size : sizes) {
            Check c = atHand(size);
            c.answers(read(size - 1, 1), Check.hex(size - 1 & 0xFF));
            c.answers(read(size - 1, 0), Check.hex(size - 1 & 0xFF));
            int[] beyond = {size, size + 1, 0x7FFF, 0x8000, 0xFFFF};
            for (int place : beyond) {
                c.unchanged(read(place, 1), 0x6B00);
                c.unchanged(read(place, 0), 0x6B00);
                c.unchanged(read(place, 255), 0x6B00);
            }
            c.answers(read(0, 1), "00");
        }
    }

    /** "6CXX: E is above what is left (XX that" */
    private static void wantedOfRead() {
        int[] sizes = {1, 2, 254, 255, 256, 1000};
        for (int size : sizes) {
            Check c = atHand(size);
            int[] places = {0, size / 2, size - 1};
            for (int place : places) {
                int left = size - place;
                int[] wanted = {1, left - 1, left, left + 1, 127, 128, 254, 255};
                for (int e : wanted) {
                    if (e >= 1 && e <= left && e <= 255) {
                        c.answers(read(place, e), upFrom(place, e));
                    } else if (e > left && e <= 255) {
                        c.unchanged(read(place, e), 0x6C00 + left);
                    }
                }
            }
        }
    }

    /** "of E 00 all that is left up to 256 comes, and this is never told" */
    private static void allThatIsLeft() {
        int[] sizes = {1, 2, 255, 256, 257, 258, 511, 512, 513, 1000};
        for (int size : sizes) {
            Check c = atHand(size);
            c.answers(read(0, 0), upFrom(0, Math.min(256, size)));
            c.answers(read(size - 1, 0), upFrom(size - 1, 1));
            for (int left = 255; left <= 257 && left <= size; left++) {
                c.answers(read(size - left, 0), upFrom(size - left, Math.min(256, left)));
            }
        }
    }

    /** "6986, 6981, 6982, 6B00 as above" */
    private static void placesOfWrite() {
        int[] sizes = {1, 2, 255, 256, 257, 1000};
        for (int size : sizes) {
            Check c = atHand(size);
            int[] beyond = {size, size + 1, 0x7FFF, 0x8000, 0xFFFF};
            for (int place : beyond) {
                c.unchanged(write(place, "AA"), 0x6B00);
                c.unchanged(write(place, Check.many("AA", 255)), 0x6B00);
            }
            Check.same("nothing is written", c.fileBytes(1), upFrom(0, size));
            c.answers(write(size - 1, "AA"), "");
            Check.same("the last one", c.fileBytes(1), upFrom(0, size - 1) + "AA");
        }
    }

    /** "6700: DATA goes beyond SIZE" */
    private static void lengthsOfWrite() {
        int[] sizes = {1, 2, 10, 254, 255, 256};
        for (int size : sizes) {
            int[] places = {0, size / 2, size - 1};
            for (int place : places) {
                Check c = atHand(size);
                int left = size - place;
                int[] lengths = {left + 2, left + 1, 255};
                for (int n : lengths) {
                    if (n > left && n <= 255) {
                        c.unchanged(write(place, Check.many("AA", n)), 0x6700);
                    }
                }
                Check.same("nothing is written", c.fileBytes(1), upFrom(0, size));
                int most = Math.min(left, 255);
                c.answers(write(place, Check.many("BB", most)), "");
                Check.same("up to the end", c.fileBytes(1),
                    upFrom(0, place) + Check.many("BB", most) + upFrom(place + most, left - most));
            }
        }
    }

    /** "Numbers of two bytes have the highest first" */
    private static void aPlaceHasTwoBytes() {
        Check c = atHand(600);
        c.answers("00B0010201", "02");
        c.answers("00D6010201EE", "");
        Check.same("place 0102", c.card.byteOf(1, 0x0102), 0xEE);
        Check.same("not place 0201", c.card.byteOf(1, 0x0201), 0x01);
        c.unchanged("00B0030001", 0x6B00);
        c.answers("00B0020001", "00");
    }

    /** "Rights to READ and WRITE: 0 always, 1 behind the PIN, 2 never", "6982: no right" */
    private static void rights() {
        for (int right = 0; right <= 2; right++) {
            Check c = atHand(2);
            c.card.rights(1, right, 0);
            c.may(read(0, 1), right == 0);
            c.answers(PIN, "");
            c.may(read(0, 1), right <= 1);
            c.refused("0020000108FFFFFFFFFFFFFFFF", 0x63C2);
            c.may(read(0, 1), right == 0);
            c.answers(PIN, "");
            c.card.reset();
            c.answers("00A4000C020001", "");
            c.may(read(0, 1), right == 0);
            c.card.rights(1, 0, right);
            c.may(write(0, "AA"), right == 0);
            c.answers(PIN, "");
            c.may(write(0, "AA"), right <= 1);
            c.may(read(0, 1), true);
        }
    }

    /** "what is told first is asked first" */
    private static void whatIsAskedFirst() {
        Check c = atHand(2);
        c.card.rights(1, 2, 2);
        c.unchanged("00B0FFFF", 0x6700);
        c.unchanged("00D6FFFF", 0x6700);
        c.unchanged(read(2, 3), 0x6982);
        c.unchanged(write(2, "AAAAAA"), 0x6982);
        c.card.rights(1, 0, 0);
        c.unchanged(read(2, 3), 0x6B00);
        c.unchanged(write(2, "AAAAAA"), 0x6B00);
        c.unchanged(read(1, 3), 0x6C01);
        c.unchanged(write(1, "AAAAAA"), 0x6700);
    }
}
