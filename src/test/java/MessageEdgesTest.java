/** The boundary cases of ENVELOPE D1 (term 4): a message and its ORDERS. */
public final class MessageEdgesTest {
    private static final String EIGHT = "0102030405060708";
    private static final String HEAD = "00 00 91 7F" + EIGHT;

    public static void main(String[] args) {
        messageIsNeeded();
        otherKnownTags();
        cutAnywhere();
        digits();
        theMark();
        howManyFollow();
        theHeadBit();
        lengthsOfTheHead();
        ordersThatAreNone();
        cutOrders();
        lengthsOfWriteOrders();
        filesOfWriteOrders();
        theFirstFileOfTheId();
        placesOfWriteOrders();
        noBytesToWrite();
        longestWriteOrder();
        rightsAreNotAsked();
        lengthsOfStartOrders();
        nodesOfStartOrders();
        theLastStartOrder();
        startedBehindAll();
        theFirstWrongOrderTells();
        nothingIsWrittenAhead();
        laterOrdersWriteOver();
        manyOrders();
        Check.finish();
    }

    /** FILE 1 (6F01) has 4 BYTES; NODE 0 a REFRESH, NODE 1 a DISPLAY; the PROFILE has all TYPES. */
    private static Check ready() {
        Check c = new Check();
        c.card.file(0, 1, 0x6F01, 4, 1);
        c.node(5, 0, "");
        c.node(0, 0, "");
        c.profile(Check.FULL_PROFILE, 0x9000);
        return c;
    }

    private static String tlv(String tag, String bytes) {
        int n = Check.bytes(bytes).length;
        return tag + (n < 0x80 ? "" : "81") + Check.hex(n) + bytes;
    }

    private static String envelope(String list) {
        return Check.whole("80C20000", tlv("D1", list));
    }

    private static String message(String bytes) {
        return envelope(tlv("8B", bytes));
    }

    private static String orders(String orders) {
        return message(HEAD + Check.hex(Check.bytes(orders).length) + orders);
    }

    private static void done(Check c, String hex, String bytes) {
        c.answers(hex, "");
        Check.same("FILE 1 behind " + hex, c.fileBytes(1), bytes);
        Check.same("nothing is STARTED by " + hex, c.card.count(11), 0);
    }

    private static void messageIsNeeded() {
        Check c = ready();
        c.unchanged(envelope(""), 0x6A88);
        c.unchanged(envelope("8200"), 0x6A88);
        c.unchanged(envelope("8600"), 0x6A88);
        c.unchanged(envelope("0D00"), 0x6A88);
        c.unchanged(envelope("8B00"), 0x6A80);
        done(c, message(HEAD + "00"), "FFFFFFFF");
    }

    /** "0B; 06 known, too" */
    private static void otherKnownTags() {
        Check c = ready();
        done(c, envelope("8600 8200" + tlv("0B", HEAD + "00") + "0600 8B00"), "FFFFFFFF");
        c.unchanged(envelope("8600" + tlv("8B", HEAD + "00") + "8700"), 0x6A81);
        c.unchanged(envelope("8500" + tlv("8B", HEAD + "00")), 0x6A81);
        c.unchanged(envelope("8500 8B00"), 0x6A81);
        c.unchanged(envelope("0B00" + tlv("8B", HEAD + "00")), 0x6A80);
    }

    /** "Its bytes (6A80 where it is not just so)" */
    private static void cutAnywhere() {
        Check c = ready();
        String whole = ("40 03 91 2143 7F" + EIGHT + "0B 02 7071 C0 06 6F01 0001 1112").replace(" ", "");
        for (int n = 0; n < whole.length() / 2; n++) {
            String part = whole.substring(0, 2 * n);
            c.unchanged(message(part), 0x6A80);
            c.unchanged(envelope(tlv("8B", part) + "0201C0"), 0x6A80);
        }
        c.unchanged(message(whole + "00"), 0x6A80);
        c.unchanged(message(whole + "C10100"), 0x6A80);
        done(c, message(whole), "FF1112FF");
    }

    /** "how many digits n; any byte; (n + 1) / 2 bytes; 7F" */
    private static void digits() {
        Check c = ready();
        for (int n = 0; n <= 255; n++) {
            int bytes = (n + 1) / 2;
            String start = "00" + Check.hex(n) + "91";
            done(c, message(start + Check.many("00", bytes) + "7F" + EIGHT + "00"), "FFFFFFFF");
            c.unchanged(message(start + Check.many("00", bytes + 1) + "7F" + EIGHT + "00"), 0x6A80);
            if (bytes > 0) {
                c.unchanged(message(start + Check.many("00", bytes - 1) + "7F" + EIGHT + "00"), 0x6A80);
            }
        }
        for (int any = 0; any <= 255; any += 17) {
            done(c, message("00 02" + Check.hex(any) + Check.hex(255 - any) + "7F" + EIGHT + "00"), "FFFFFFFF");
        }
    }

    private static void theMark() {
        Check c = ready();
        for (int b = 0; b <= 255; b++) {
            if (b != 0x7F) {
                c.unchanged(message("00 00 91" + Check.hex(b) + EIGHT + "00"), 0x6A80);
            }
        }
        c.unchanged(message("00 00 91 7F" + EIGHT + "0900"), 0x6A80);
        c.unchanged(message("00 00 91 7F" + EIGHT.substring(2) + "00"), 0x6A80);
        done(c, message("00 00 91 7F" + Check.many("7F", 8) + "00"), "FFFFFFFF");
    }

    /** "eight bytes; how many follow, which are just there" */
    private static void howManyFollow() {
        Check c = ready();
        String order = "C0 06 6F01 0000 0102";
        for (int n = 0; n <= 255; n++) {
            if (n != 8) {
                c.unchanged(message(HEAD + Check.hex(n) + order), 0x6A80);
            }
        }
        c.unchanged(message(HEAD), 0x6A80);
        c.unchanged(message(HEAD + "01"), 0x6A80);
        c.unchanged(message(HEAD + "0000"), 0x6A80);
        done(c, message(HEAD + "00"), "FFFFFFFF");
        done(c, message(HEAD + "08" + order), "0102FFFF");
    }

    /** "any byte f", "if f has bit 40, a byte h and h bytes first" */
    private static void theHeadBit() {
        for (int f = 0; f <= 255; f++) {
            Check c = ready();
            String rest = "00 91 7F" + EIGHT;
            boolean has = (f & 0x40) != 0;
            String withHead = message(Check.hex(f) + rest + "09" + "00" + "C006 6F01 0000 0102");
            String without = message(Check.hex(f) + rest + "08" + "C006 6F01 0000 0102");
            c.unchanged(has ? without : withHead, 0x6A80);
            done(c, has ? withHead : without, "0102FFFF");
        }
    }

    private static void lengthsOfTheHead() {
        String start = "40 00 91 7F" + EIGHT;
        Check c = ready();
        c.unchanged(message(start + "00"), 0x6A80);
        done(c, message(start + "0100"), "FFFFFFFF");
        c.unchanged(message(start + "0101"), 0x6A80);
        done(c, message(start + "020100"), "FFFFFFFF");
        c.unchanged(message(start + "020200"), 0x6A80);
        c.unchanged(message(start + "020000"), 0x6A80);
        c.unchanged(message(start + "01FF"), 0x6A80);
        c.unchanged(envelope(tlv("8B", start + "0101") + "0200"), 0x6A80);
        for (int h = 0; h <= 200; h += 50) {
            String follows = Check.hex(h) + Check.many("C5", h) + "C005 6F01 0003" + Check.hex(h);
            done(c, message(start + Check.hex(Check.bytes(follows).length) + follows), "FFFFFF" + Check.hex(h));
        }
    }

    /** "others 6A80" */
    private static void ordersThatAreNone() {
        Check c = ready();
        for (int b = 0; b <= 255; b++) {
            if (b != 0xC0 && b != 0xC1) {
                c.unchanged(orders(Check.hex(b) + "00"), 0x6A80);
                c.unchanged(orders(Check.hex(b) + "0100"), 0x6A80);
                c.unchanged(orders(Check.hex(b) + "066F0100000102"), 0x6A80);
            }
        }
        c.unchanged(orders("00"), 0x6A80);
    }

    /** "ORDERS, each a byte, a length 00 .. FF, so many bytes" */
    private static void cutOrders() {
        Check c = ready();
        String[] cut = {"C0", "C1", "C005", "C0056F", "C0056F010000", "C101", "C10100C1", "C10100C101", "C0056F01000001C0",
            "C0FF6F01000001", "C1FF00", "C0046F010000C0046F01"};
        for (String o : cut) {
            c.unchanged(orders(o), 0x6A80);
            c.unchanged(envelope(tlv("8B", HEAD + Check.hex(o.length() / 2) + o) + "0202C100"), 0x6A80);
        }
    }

    /** "C0: an id and a number (two bytes each) and bytes" */
    private static void lengthsOfWriteOrders() {
        Check c = ready();
        String bytes = "6F01000001020304";
        for (int n = 0; n <= 8; n++) {
            String order = orders("C0" + Check.hex(n) + bytes.substring(0, 2 * n));
            if (n < 4) {
                c.unchanged(order, 0x6A80);
            } else {
                done(c, order, bytes.substring(8, 2 * n) + Check.many("FF", 8 - n));
            }
        }
        c.unchanged(orders("C009" + bytes + "05"), 0x6B00);
    }

    /** "the first FILE of the id, of KIND 1 ... (6A82: there is none" */
    private static void filesOfWriteOrders() {
        Check c = ready();
        c.card.file(0, 0, 0x7F10, 0, 0);
        c.card.file(0, 2, 0x6F03, 4, 1);
        c.card.file(0, 3, 0x6F04, 4, 1);
        c.card.file(2, 1, 0xFFFF, 4, 1);
        c.card.file(2, 1, 0x0000, 4, 1);
        String[] none = {"3F00", "7F10", "6F03", "6F04", "6F00", "6F02", "016F", "FFFE", "0001"};
        for (String id : none) {
            c.unchanged(orders("C005" + id + "000011"), 0x6A82);
            c.unchanged(orders("C004" + id + "0000"), 0x6A82);
            c.unchanged(orders("C005" + id + "FFFF11"), 0x6A82);
        }
        c.answers(orders("C005FFFF000311"), "");
        c.answers(orders("C0050000000222"), "");
        Check.same("FFFF", c.fileBytes(5), "FFFFFF11");
        Check.same("0000", c.fileBytes(6), "FFFF22FF");
        Check.same("the others", c.fileBytes(1) + c.fileBytes(3) + c.fileBytes(4), Check.many("FF", 12));
    }

    private static void theFirstFileOfTheId() {
        Check c = ready();
        c.card.file(0, 0, 0x7F10, 0, 0);
        c.card.file(2, 1, 0x6F01, 8, 1);
        c.card.file(0, 0, 0x7F20, 0, 0);
        c.card.file(4, 1, 0x6F05, 2, 1);
        c.card.file(2, 1, 0x6F05, 8, 1);
        c.status("00A4080C047F106F01", 0x9000);
        done(c, orders("C0056F01000011"), "11FFFFFF");
        Check.same("not the one at hand", c.fileBytes(3), Check.many("FF", 8));
        c.unchanged(orders("C0056F01000411"), 0x6B00);
        c.answers(orders("C0056F05000122"), "");
        Check.same("the first one made", c.fileBytes(5), "FF22");
        c.unchanged(orders("C0056F05000222"), 0x6B00);
        Check.same("not the later one", c.fileBytes(6), Check.many("FF", 8));
    }

    /** "from that number on (... 6B00: they go beyond it)" */
    private static void placesOfWriteOrders() {
        int[] sizes = {1, 4, 255, 256, 257, 1000};
        for (int size : sizes) {
            Check c = new Check();
            c.card.file(0, 1, 1, size, 1);
            c.profile("00", 0x9000);
            int[] beyond = {size, size + 1, 0x7FFF, 0x8000, 0xFFFF};
            for (int place : beyond) {
                c.unchanged(orders("C0050001" + String.format("%04X", place) + "11"), 0x6B00);
            }
            c.unchanged(orders("C0060001" + String.format("%04X", size - 1) + "1112"), 0x6B00);
            done(c, orders("C0050001" + String.format("%04X", size - 1) + "11"), Check.many("FF", size - 1) + "11");
            done(c, orders("C00500010000" + "22"), size == 1 ? "22" : "22" + Check.many("FF", size - 2) + "11");
        }
    }

    private static void noBytesToWrite() {
        Check c = ready();
        for (int place = 0; place <= 4; place++) {
            done(c, orders("C0046F01000" + place), "FFFFFFFF");
        }
        c.unchanged(orders("C0046F010005"), 0x6B00);
        c.unchanged(orders("C0046F01FFFF"), 0x6B00);
    }

    /** As many bytes as a COMMAND has room for. */
    private static void longestWriteOrder() {
        for (int size = 229; size <= 231; size++) {
            Check c = new Check();
            c.card.file(0, 1, 1, size, 1);
            c.profile("00", 0x9000);
            String hex = orders("C0EA00010000" + Check.many("44", 230));
            Check.same("all of a COMMAND", Check.bytes(hex).length, 260);
            if (size < 230) {
                c.unchanged(hex, 0x6B00);
            } else {
                done(c, hex, Check.many("44", 230) + Check.many("FF", size - 230));
            }
        }
    }

    /** "(Rights are not asked.)" */
    private static void rightsAreNotAsked() {
        for (int right = 0; right <= 2; right++) {
            Check c = ready();
            c.card.rights(1, right, right);
            done(c, orders("C0056F01000011"), "11FFFFFF");
        }
    }

    /** "C1: a byte" */
    private static void lengthsOfStartOrders() {
        Check c = ready();
        c.unchanged(orders("C100"), 0x6A80);
        c.unchanged(orders("C1020000"), 0x6A80);
        c.unchanged(orders("C103000000"), 0x6A80);
        c.unchanged(orders("C1020900"), 0x6A80);
        c.status(orders("C10100"), 0x910B);
        Check.same("NODE 0", c.card.count(12), 0);
    }

    /** "a NODE (6A82: none)" */
    private static void nodesOfStartOrders() {
        Check c = new Check();
        c.card.file(0, 1, 0x6F01, 4, 1);
        c.profile("02", 0x9000);
        for (int nodes = 0; nodes <= 40; nodes++) {
            c.unchanged(orders("C101" + Check.hex(nodes)), 0x6A82);
            c.unchanged(orders("C101FF"), 0x6A82);
            if (nodes > 0) {
                c.status(orders("C101" + Check.hex(nodes - 1)), 0x910B);
                Check.same("the last one", c.card.count(12), nodes - 1);
                c.profile("02", 0x9000);
            }
            if (nodes < 40) {
                c.node(5, 0, "");
            }
        }
    }

    /** "it is STARTED behind all ORDERS (the last one of several)" */
    private static void theLastStartOrder() {
        Check c = ready();
        c.status(orders("C10100 C10101"), 0x910E);
        Check.same("the last one", c.card.count(12), 1);
        Check.same("only that one", c.card.count(13), 1);
        c.profile(Check.FULL_PROFILE, 0x9000);
        c.status(orders("C10101 C10100 C0056F01000011"), 0x910B);
        Check.same("the last one", c.card.count(12), 0);
        Check.same("written, too", c.fileBytes(1), "11FFFFFF");
        c.profile("02", 0x9000);
        c.status(orders("C10100 C10101"), 0x9000);
        Check.same("the last one FAILED at once", c.card.count(11), 0);
    }

    private static void startedBehindAll() {
        Check c = ready();
        c.status(orders("C10100 C0056F01000011 C0056F01000322"), 0x910B);
        Check.same("what stands behind it is written", c.fileBytes(1), "11FFFF22");
        c.unchanged(orders("C0056F01000033"), 0x9300);
    }

    /** "All is asked ahead, ORDER by ORDER" */
    private static void theFirstWrongOrderTells() {
        Check c = ready();
        String[] wrong = {"C0056F02000011", "C0056F01000411", "C10102", "C500", "C0036F0100"};
        int[] due = {0x6A82, 0x6B00, 0x6A82, 0x6A80, 0x6A80};
        for (int i = 0; i < wrong.length; i++) {
            for (int k = 0; k < wrong.length; k++) {
                c.unchanged(orders(wrong[i] + wrong[k]), due[i]);
                c.unchanged(orders("C0056F01000011" + wrong[i] + wrong[k]), due[i]);
            }
        }
        c.unchanged(orders("C0056F99000411"), 0x6A82);
    }

    /** "before anything is written" */
    private static void nothingIsWrittenAhead() {
        Check c = ready();
        String[] wrong = {"C0056F02000011", "C0056F01000411", "C10102", "C500", "C0036F0100", "C1", "C0", "C005"};
        for (String order : wrong) {
            c.tape("5A5A5A5A");
            c.card.fill(1, 0);
            Check.same("refused", c.command(orders("C0086F010000 01020304 C10100" + order)) < 0x9000, true);
            Check.same("nothing is written behind " + order, c.fileBytes(1), "5A5A5A5A");
            Check.same("nothing is STARTED behind " + order, c.card.count(11), 0);
        }
    }

    private static void laterOrdersWriteOver() {
        Check c = ready();
        done(c, orders("C0066F010000 1111 C0066F010001 2222 C0056F010001 33"), "113322FF");
    }

    /** As many ORDERS as a COMMAND has room for. */
    private static void manyOrders() {
        Check c = ready();
        c.status(orders(Check.many("C10101", 77) + "C10100"), 0x910B);
        Check.same("the last one of 78", c.card.count(12), 0);
        c.profile(Check.FULL_PROFILE, 0x9000);
        done(c, orders(Check.many("C0046F010000", 38) + "C0056F01000377"), "FFFFFF77");
        c.unchanged(orders(Check.many("C0046F010000", 38) + "C10102"), 0x6A82);
    }
}
