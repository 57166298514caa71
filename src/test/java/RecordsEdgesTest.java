/** The boundary cases of READ RECORD, WRITE RECORD and SEARCH (term 3), and of a RING (term 2). */
public final class RecordsEdgesTest {
    private static final int RECORDS = 2;
    private static final int RING = 3;
    private static final String PIN = "002000010831323334FFFFFFFF";
    /** READ RECORD without E, WRITE RECORD and SEARCH without DATA: asked ahead of all else. */
    private static final String[] WITHOUT = {"00B20104", "00B2010401AA", "00DC0104", "00DC010402", "00A20004", "00A2000401"};

    public static void main(String[] args) {
        readNeedsE();
        dataIsNeeded();
        noFileAtHand();
        otherKinds();
        rights();
        parametersOfRead();
        parametersOfWrite();
        parametersOfWriteOnARing();
        parametersOfSearch();
        numbersOfRead();
        numbersOfWrite();
        nextOfRecords();
        aheadOfRecords();
        nextOfARing();
        aheadOfARing();
        writeNextAndAhead();
        theRecordAtHandByNumber();
        wantedOfRead();
        lengthsOfWrite();
        lengthsOfWriteOnARing();
        aRingTurns();
        aRingOfOne();
        searchFrom();
        searchForLengths();
        searchStaysInARecord();
        searchOfNone();
        theLargestFiles();
        Check.finish();
    }

    /** A FILE of a KIND at hand with records 01 A1, 02 A2 and so on. */
    private static Check atHand(int kind, int many) {
        Check c = new Check();
        c.card.file(0, kind, 1, 2, many);
        for (int i = 1; i <= many; i++) {
            c.tape(record(i));
            c.card.fill(1, 2 * i - 2);
        }
        c.answers("00A4000C020001", "");
        return c;
    }

    private static String record(int i) {
        return Check.hex(i) + Check.hex(0xA0 + i & 0xFF);
    }

    private static String all(int many) {
        StringBuilder all = new StringBuilder();
        for (int i = 1; i <= many; i++) {
            all.append(record(i));
        }
        return all.toString();
    }

    private static void recordIs(String when, Check c, int due) {
        Check.same(when + " the RECORD at hand", c.card.count(9), due);
    }

    private static String read(int p1, int p2) {
        return "00B2" + Check.hex(p1) + Check.hex(p2) + "00";
    }

    private static String write(int p1, int p2) {
        return "00DC" + Check.hex(p1) + Check.hex(p2) + "02EEEE";
    }

    private static String search(int p1, String data) {
        return Check.whole("00A2" + Check.hex(p1) + "04", data);
    }

    /** "READ RECORD, E. 6700: no E." */
    private static void readNeedsE() {
        Check c = atHand(RECORDS, 3);
        c.unchanged("00B20104", 0x6700);
        c.unchanged("00B201040200A1", 0x6700);
        c.unchanged("00B2FFFF", 0x6700);
        c.answers("00B2010402", record(1));
    }

    /** "WRITE RECORD, DATA. 6700: none.", "SEARCH, DATA. 6700: none." */
    private static void dataIsNeeded() {
        for (int kind = RECORDS; kind <= RING; kind++) {
            Check c = atHand(kind, 3);
            c.unchanged("00DC0104", 0x6700);
            c.unchanged("00DC010402", 0x6700);
            c.unchanged("00DC000300", 0x6700);
            c.unchanged("00DCFFFF", 0x6700);
            c.unchanged("00A20004", 0x6700);
            c.unchanged("00A2000401", 0x6700);
            c.unchanged("00A2FFFF00", 0x6700);
            Check.same("nothing is written", c.fileBytes(1), all(3));
        }
    }

    /** "6986" */
    private static void noFileAtHand() {
        Check c = atHand(RECORDS, 3);
        c.answers("00A4000C023F00", "");
        String[] commands = {read(1, 4), read(9, 9), write(1, 4), write(9, 9), search(0, "01"), "00A2090901AA"};
        for (String hex : commands) {
            c.unchanged(hex, 0x6986);
        }
        for (String hex : WITHOUT) {
            c.unchanged(hex, 0x6700);
        }
        Check.same("nothing is written", c.fileBytes(1), all(3));
    }

    /** "6981: not of KIND 2, 3" */
    private static void otherKinds() {
        Check c = new Check();
        c.card.file(0, 1, 1, 2, 1);
        c.card.rights(1, 2, 2);
        c.answers("00A4000C020001", "");
        String[] commands = {read(1, 4), read(9, 9), write(1, 4), write(9, 9), write(0, 3), search(0, "FF"), "00A2090901FF"};
        for (String hex : commands) {
            c.unchanged(hex, 0x6981);
        }
        for (String hex : WITHOUT) {
            c.unchanged(hex, 0x6700);
        }
        Check.same("nothing is written", c.fileBytes(1), "FFFF");
    }

    /** "6982", of SEARCH "6982 (READ)" */
    private static void rights() {
        for (int kind = RECORDS; kind <= RING; kind++) {
            String write = kind == RING ? write(0, 3) : write(1, 4);
            for (int right = 0; right <= 2; right++) {
                Check c = atHand(kind, 3);
                for (int verified = 0; verified <= 1; verified++) {
                    boolean can = right == 0 || right == 1 && verified == 1;
                    c.card.rights(1, right, 0);
                    c.may(write, true);
                    c.may(read(1, 4), can);
                    c.may(search(0, "EE"), can);
                    c.card.rights(1, 0, right);
                    c.may(write, can);
                    c.may(read(1, 4), true);
                    c.may(search(0, "EE"), true);
                    c.answers(PIN, "");
                }
            }
            Check c = atHand(kind, 3);
            c.card.rights(1, 2, 2);
            c.unchanged(read(9, 9), 0x6982);
            c.unchanged(write(9, 9), 0x6982);
            c.unchanged("00A2090901FF", 0x6982);
        }
    }

    /** "6A86: P2 is not 02, 03, 04; or P1 is not 00 of 02 and 03" */
    private static void parametersOfRead() {
        for (int kind = RECORDS; kind <= RING; kind++) {
            Check c = atHand(kind, 3);
            for (int p2 = 0; p2 <= 255; p2++) {
                if (p2 < 2 || p2 > 4) {
                    c.unchanged(read(0, p2), 0x6A86);
                    c.unchanged(read(1, p2), 0x6A86);
                    c.unchanged("00B209" + Check.hex(p2) + "09", 0x6A86);
                }
            }
            for (int p1 = 1; p1 <= 255; p1++) {
                c.unchanged(read(p1, 2), 0x6A86);
                c.unchanged(read(p1, 3), 0x6A86);
            }
        }
    }

    /** "6A86: of KIND 2 as above" */
    private static void parametersOfWrite() {
        Check c = atHand(RECORDS, 3);
        for (int p2 = 0; p2 <= 255; p2++) {
            if (p2 < 2 || p2 > 4) {
                c.unchanged(write(0, p2), 0x6A86);
                c.unchanged(write(1, p2), 0x6A86);
                c.unchanged("00DC09" + Check.hex(p2) + "01EE", 0x6A86);
            }
        }
        for (int p1 = 1; p1 <= 255; p1++) {
            c.unchanged(write(p1, 2), 0x6A86);
            c.unchanged(write(p1, 3), 0x6A86);
        }
        Check.same("nothing is written", c.fileBytes(1), all(3));
    }

    /** "of a RING P2 is not 03 or P1 not 00" */
    private static void parametersOfWriteOnARing() {
        Check c = atHand(RING, 3);
        for (int p = 0; p <= 255; p++) {
            if (p != 3) {
                c.unchanged(write(0, p), 0x6A86);
                c.unchanged(write(1, p), 0x6A86);
                c.unchanged("00DC00" + Check.hex(p) + "01EE", 0x6A86);
            }
            if (p != 0) {
                c.unchanged(write(p, 3), 0x6A86);
            }
        }
        Check.same("nothing is written", c.fileBytes(1), all(3));
    }

    /** "6A86: P2 is not 04" */
    private static void parametersOfSearch() {
        Check c = atHand(RECORDS, 3);
        for (int p2 = 0; p2 <= 255; p2++) {
            if (p2 != 4) {
                c.unchanged("00A200" + Check.hex(p2) + "0102", 0x6A86);
                c.unchanged("00A204" + Check.hex(p2) + "0102", 0x6A86);
            }
        }
        c.answers("00A200040102", "02");
    }

    /** "04: P1, or of P1 00 the RECORD", "6A83: there is none" */
    private static void numbersOfRead() {
        int[] manys = {1, 2, 3, 254, 255};
        for (int kind = RECORDS; kind <= RING; kind++) {
            for (int many : manys) {
                Check c = atHand(kind, many);
                c.unchanged(read(0, 4), 0x6A83);
                c.answers(read(1, 4), record(1));
                c.answers(read(many, 4), record(many));
                recordIs("04 leaves", c, 0);
                for (int p1 = many + 1; p1 <= 255; p1++) {
                    c.unchanged(read(p1, 4), 0x6A83);
                }
            }
        }
    }

    private static void numbersOfWrite() {
        int[] manys = {1, 2, 3, 254, 255};
        for (int many : manys) {
            Check c = atHand(RECORDS, many);
            c.unchanged(write(0, 4), 0x6A83);
            for (int p1 = many + 1; p1 <= 255; p1++) {
                c.unchanged(write(p1, 4), 0x6A83);
            }
            Check.same("nothing is written", c.fileBytes(1), all(many));
            c.answers(write(many, 4), "");
            recordIs("04 leaves", c, 0);
            Check.same("the last one", c.fileBytes(1), all(many - 1) + "EEEE");
        }
    }

    /** "02: the next one (of RECORD 0 the first ..." */
    private static void nextOfRecords() {
        for (int many = 1; many <= 4; many++) {
            Check c = atHand(RECORDS, many);
            for (int i = 1; i <= many; i++) {
                c.answers(read(0, 2), record(i));
                recordIs("02", c, i);
            }
            c.unchanged(read(0, 2), 0x6A83);
            c.unchanged("00B2000209", 0x6A83);
            recordIs("behind the last one", c, many);
            c.answers(read(0, 4), record(many));
        }
    }

    /** "03: the one ahead (of RECORD 0 the last ..." */
    private static void aheadOfRecords() {
        for (int many = 1; many <= 4; many++) {
            Check c = atHand(RECORDS, many);
            for (int i = many; i >= 1; i--) {
                c.answers(read(0, 3), record(i));
                recordIs("03", c, i);
            }
            c.unchanged(read(0, 3), 0x6A83);
            c.unchanged("00B2000309", 0x6A83);
            recordIs("ahead of the first one", c, 1);
            c.answers(read(0, 4), record(1));
        }
    }

    /** "of the last one of a RING the first" */
    private static void nextOfARing() {
        for (int many = 1; many <= 4; many++) {
            Check c = atHand(RING, many);
            for (int i = 0; i < 2 * many + 1; i++) {
                c.answers(read(0, 2), record(i % many + 1));
                recordIs("02", c, i % many + 1);
            }
        }
    }

    /** "of the first one of a RING the last" */
    private static void aheadOfARing() {
        for (int many = 1; many <= 4; many++) {
            Check c = atHand(RING, many);
            for (int i = 0; i < 2 * many + 1; i++) {
                int due = many - i % many;
                c.answers(read(0, 3), record(due));
                recordIs("03", c, due);
            }
        }
    }

    /** "Which one: as above", "behind 02 and 03 it is the RECORD at hand" */
    private static void writeNextAndAhead() {
        Check c = atHand(RECORDS, 2);
        c.answers(write(0, 2), "");
        recordIs("02", c, 1);
        Check.same("the first one", c.fileBytes(1), "EEEE" + record(2));
        c.unchanged(write(0, 3), 0x6A83);
        c.answers(write(0, 2), "");
        recordIs("02", c, 2);
        c.unchanged(write(0, 2), 0x6A83);
        c.unchanged("00DC000201EE", 0x6A83);
        Check.same("both", c.fileBytes(1), "EEEEEEEE");
        c = atHand(RECORDS, 2);
        c.answers(write(0, 3), "");
        recordIs("03", c, 2);
        Check.same("the last one", c.fileBytes(1), record(1) + "EEEE");
        c.unchanged(write(0, 2), 0x6A83);
        c.answers(write(0, 3), "");
        recordIs("03", c, 1);
        c.unchanged(write(0, 3), 0x6A83);
        Check.same("both", c.fileBytes(1), "EEEEEEEE");
    }

    private static void theRecordAtHandByNumber() {
        Check c = atHand(RECORDS, 3);
        c.answers(read(0, 3), record(3));
        c.answers(read(1, 4), record(1));
        recordIs("04 leaves", c, 3);
        c.answers(write(0, 4), "");
        recordIs("04 leaves", c, 3);
        Check.same("record 3", c.fileBytes(1), record(1) + record(2) + "EEEE");
        c.answers(write(2, 4), "");
        recordIs("04 leaves", c, 3);
        c.answers(read(0, 4), "EEEE");
    }

    /** "6CXX: E is neither 00 nor SIZE (XX SIZE)" */
    private static void wantedOfRead() {
        int[] sizes = {1, 2, 127, 128, 254, 255};
        for (int kind = RECORDS; kind <= RING; kind++) {
            for (int size : sizes) {
                Check c = new Check();
                c.card.file(0, kind, 1, size, 2);
                c.answers("00A4000C020001", "");
                for (int e = 1; e <= 255; e++) {
                    if (e != size) {
                        c.unchanged("00B20104" + Check.hex(e), 0x6C00 + size);
                    }
                }
                int other = size == 1 ? 2 : size - 1;
                c.unchanged("00B20002" + Check.hex(other), 0x6C00 + size);
                c.unchanged("00B20003" + Check.hex(other), 0x6C00 + size);
                c.unchanged("00B20304" + Check.hex(other), 0x6A83);
                c.answers("00B2010400", Check.many("FF", size));
                c.answers("00B20204" + Check.hex(size), Check.many("FF", size));
                c.answers("00B20002" + Check.hex(size), Check.many("FF", size));
                recordIs("behind 02", c, 1);
            }
        }
    }

    /** "6700: DATA is not SIZE bytes" */
    private static void lengthsOfWrite() {
        int[] sizes = {1, 2, 254, 255};
        for (int size : sizes) {
            Check c = new Check();
            c.card.file(0, RECORDS, 1, size, 2);
            c.answers("00A4000C020001", "");
            for (int n = 1; n <= 255; n++) {
                if (n != size) {
                    c.unchanged(Check.whole("00DC0104", Check.many("EE", n)), 0x6700);
                    c.unchanged(Check.whole("00DC0002", Check.many("EE", n)), 0x6700);
                    c.unchanged(Check.whole("00DC0003", Check.many("EE", n)), 0x6700);
                    c.unchanged(Check.whole("00DC0304", Check.many("EE", n)), 0x6A83);
                }
            }
            Check.same("nothing is written", c.fileBytes(1), Check.many("FF", 2 * size));
            c.answers(Check.whole("00DC0104", Check.many("EE", size)), "");
            Check.same("record 1", c.fileBytes(1), Check.many("EE", size) + Check.many("FF", size));
        }
    }

    private static void lengthsOfWriteOnARing() {
        int[] sizes = {1, 2, 254, 255};
        for (int size : sizes) {
            Check c = new Check();
            c.card.file(0, RING, 1, size, 2);
            c.answers("00A4000C020001", "");
            for (int n = 1; n <= 255; n++) {
                if (n != size) {
                    c.unchanged(Check.whole("00DC0003", Check.many("EE", n)), 0x6700);
                    c.unchanged(Check.whole("00DC0103", Check.many("EE", n)), 0x6A86);
                }
            }
            Check.same("nothing is written", c.fileBytes(1), Check.many("FF", 2 * size));
            c.answers(Check.whole("00DC0003", Check.many("EE", size)), "");
            recordIs("behind 03", c, 1);
            Check.same("record 1", c.fileBytes(1), Check.many("EE", size) + Check.many("FF", size));
        }
    }

    /** "A RING's record 1 is the one that was written latest, MANY the oldest", "of a RING the oldest ... the RECORD is 1" */
    private static void aRingTurns() {
        for (int many = 2; many <= 4; many++) {
            Check c = atHand(RING, many);
            for (int n = 1; n <= 2 * many + 1; n++) {
                c.answers("00DC000302" + Check.hex(n) + "BB", "");
                recordIs("behind writing", c, 1);
                StringBuilder due = new StringBuilder();
                for (int i = 0; i < many; i++) {
                    due.append(n > i ? Check.hex(n - i) + "BB" : record(i - n + 1));
                }
                Check.same("the latest first", c.fileBytes(1), due.toString());
                c.answers(read(1, 4), Check.hex(n) + "BB");
                c.answers(read(many, 4), due.substring(4 * many - 4));
                c.answers(read(0, 3), due.substring(4 * many - 4));
                recordIs("the oldest", c, many);
            }
        }
    }

    private static void aRingOfOne() {
        Check c = atHand(RING, 1);
        c.answers("00DC000302AAAA", "");
        c.answers("00DC000302BBBB", "");
        Check.same("the one", c.fileBytes(1), "BBBB");
        c.answers(read(0, 2), "BBBB");
        c.answers(read(0, 3), "BBBB");
        recordIs("the one", c, 1);
        c.unchanged(read(2, 4), 0x6A83);
    }

    /** "6A83: P1 is above MANY. From record P1 on (00: the first)" */
    private static void searchFrom() {
        int[] manys = {1, 2, 3, 254, 255};
        for (int kind = RECORDS; kind <= RING; kind++) {
            for (int many : manys) {
                Check c = new Check();
                c.card.file(0, kind, 1, 1, many);
                c.answers("00A4000C020001", "");
                StringBuilder numbers = new StringBuilder();
                for (int i = 1; i <= many; i++) {
                    numbers.append(Check.hex(i));
                }
                c.answers(search(0, "FF"), numbers.toString());
                c.answers(search(1, "FF"), numbers.toString());
                c.answers(search(many, "FF"), Check.hex(many));
                recordIs("the first of them", c, many);
                for (int p1 = many + 1; p1 <= 255; p1++) {
                    c.unchanged(search(p1, "FF"), 0x6A83);
                }
            }
        }
        Check c = atHand(RECORDS, 3);
        c.tape("02");
        c.card.fill(1, 4);
        c.answers(search(0, "02"), "0203");
        recordIs("the first of them", c, 2);
        c.answers(search(3, "02"), "03");
        recordIs("the first of them", c, 3);
        c.answers(search(2, "02"), "0203");
        recordIs("the first of them", c, 2);
    }

    private static void searchForLengths() {
        Check c = new Check();
        c.card.file(0, RECORDS, 1, 4, 2);
        c.tape("0102030405060708");
        c.card.fill(1, 0);
        c.answers("00A4000C020001", "");
        String record = "05060708";
        for (int first = 0; first < 4; first++) {
            for (int last = first + 1; last <= 4; last++) {
                c.answers(search(0, record.substring(2 * first, 2 * last)), "02");
            }
        }
        c.unchanged(search(0, "0506070809"), 0x6A83);
        c.unchanged(search(0, Check.many("05", 255)), 0x6A83);
        c.unchanged(search(0, "05060709"), 0x6A83);
        c.unchanged(search(0, "04060708"), 0x6A83);
    }

    private static void searchStaysInARecord() {
        Check c = atHand(RECORDS, 3);
        c.unchanged(search(0, "A102"), 0x6A83);
        c.unchanged(search(0, "01A102"), 0x6A83);
        c.unchanged(search(0, "A101"), 0x6A83);
        c.unchanged(search(0, "A3FF"), 0x6A83);
        c.answers(search(0, "A2"), "02");
        c.answers(search(0, "02A2"), "02");
    }

    /** "6A83: none" */
    private static void searchOfNone() {
        Check c = atHand(RECORDS, 3);
        c.answers(read(0, 2), record(1));
        c.unchanged(search(0, "EE"), 0x6A83);
        c.unchanged(search(2, "01"), 0x6A83);
        c.unchanged(search(4, "01"), 0x6A83);
        recordIs("it stays", c, 1);
        c.answers(search(1, "01"), "01");
        c.answers(read(0, 2), record(2));
    }

    private static void theLargestFiles() {
        Check c = new Check();
        c.card.file(0, RING, 1, 255, 31);
        c.answers("00A4000C020001", "");
        c.answers(Check.whole("00DC0003", Check.many("01", 255)), "");
        c.answers(Check.whole("00DC0003", Check.many("02", 255)), "");
        Check.same("the bytes", c.fileBytes(1), Check.many("02", 255) + Check.many("01", 255) + Check.many("FF", 29 * 255));
        c.answers(search(0, Check.many("01", 255)), "02");
        c.answers("00B21F04FF", Check.many("FF", 255));
    }
}
