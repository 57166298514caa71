/** Promise 15: ENVELOPE. */
public final class EnvelopeTest {
    public static void main(String[] args) {
        forms();
        order();
        menuSelection();
        events();
        timers();
        messageForms();
        writeOrders();
        startOrders();
        allIsAskedAhead();
        Check.finish();
    }

    /** NODE 0 a DISPLAY, 1 a REFRESH; FILES 1 (6F01, 4 bytes), 2 a DIRECTORY with 3 (6F01, records) and 4 (6F02). */
    private static Check ready() {
        Check c = new Check();
        c.card.file(0, 1, 0x6F01, 4, 1);
        c.card.file(0, 0, 0x7F10, 0, 0);
        c.card.file(2, 2, 0x6F02, 2, 2);
        c.card.file(0, 1, 0x6F02, 300, 1);
        c.node(0, 0, "");
        c.node(5, 0, "");
        c.profile(Check.FULL_PROFILE, 0x9000);
        return c;
    }

    private static void forms() {
        Check c = ready();
        c.refused("80C20000", 0x6700);
        c.refused("80C2000005", 0x6700);
        String[] broken = {"D6", "D601", "D60399", "D6039901", "D60299", "D6 04 990105", "D6 02 990105", "D68103990105",
            "D60399010500", "D2 03 990105", "00 03 990105", "D5 00", "D6 80 990105", "D6 82 0003 990105",
            "D6 81 80" + Check.many("00", 127), "D6 03 990205", "D6 05 990105 99", "D6 05 990105 9901", "D6 01 99", "D6 02 0000",
            "D6 02 8000", "D6 05 990105 8000", "FF 03 990105"};
        for (String data : broken) {
            c.envelope(data, 0x6A80);
        }
        c.envelope("D6 8180 990105 027B" + Check.many("00", 123), 0x9000);
        c.envelope("D6 7F 990105 027A" + Check.many("00", 122), 0x9000);
        c.envelope("D6 81FB 990105 0281F5" + Check.many("00", 245), 0x9000);
        c.envelope("D6 00", 0x6A88);
    }

    private static void order() {
        Check c = ready();
        c.card.by(0, 5, 0);
        c.event(5, 0x910E);
        c.envelope("D6 03 990105", 0x9300);
        c.envelope("D6 05 990105 EE00", 0x9300);
        c.envelope("D6 04 990105", 0x6A80);
        c.fetch();
        c.envelope("D6 00", 0x9300);
        c.card.reset();
        c.envelope("D6 00", 0x6985);
        c.envelope("D6 01 99", 0x6A80);
        c.envelope("D2 00", 0x6A80);
    }

    private static void unknownTags(String kind, String content, String known) {
        for (int tag = 1; tag <= 0x7E; tag++) {
            if (Check.hex(tag).matches(known)) {
                continue;
            }
            Check c = ready();
            String must = Check.hex(tag | 0x80) + "0100" + content;
            c.envelope(kind + Check.hex(must.length() / 2) + must, 0x6A81);
            c.envelope(kind + "02" + Check.hex(tag | 0x80) + "00", 0x6A81);
            c.envelope(kind + "02" + Check.hex(tag) + "00", 0x6A88);
        }
    }

    private static void menuSelection() {
        Check c = ready();
        c.item(-1, 7, "");
        c.item(-1, 255, "");
        c.card.pick(-1, 255, 1);
        c.envelope("D3 00", 0x6A88);
        c.envelope("D3 02 8200", 0x6A88);
        c.envelope("D3 02 9500", 0x6A88);
        c.envelope("D3 02 9000", 0x6A80);
        c.envelope("D3 04 9002FFFF", 0x6A80);
        c.envelope("D3 03 900106", 0x6A80);
        c.envelope("D3 03 900107", 0x9000);
        Check.same("nowhere", c.card.count(11), 0);
        c.envelope("D3 0B 82020181 1001FF 9500 1500", 0x910B);
        Check.same("its NODE", c.card.count(12), 1);
        c.profile(Check.FULL_PROFILE, 0x9113);
        c.profile("02", 0x9000);
        c.envelope("D3 06 9001FF 900107", 0x910B);
        Check.same("the first one counts", c.card.count(12), 1);
        unknownTags("D3", "900107", "02|10|15");
    }

    private static void events() {
        Check c = ready();
        c.card.by(0, 31, 0);
        c.card.by(0, 4, 1);
        c.envelope("D6 02 9900", 0x6A80);
        c.envelope("D6 02 8200", 0x6A88);
        c.event(30, 0x9000);
        c.event(32, 0x9000);
        c.event(255, 0x9000);
        Check.same("nothing", c.card.count(11), 0);
        c.envelope("D6 05 9903 1F0405", 0x910E);
        Check.same("the first byte", c.card.count(12), 0);
        c.profile(Check.FULL_PROFILE, 0x9000);
        c.envelope("D6 06 190104 19011F", 0x910B);
        Check.same("the first tag", c.card.count(12), 1);
        unknownTags("D6", "990104", "02|19");
    }

    private static void timers() {
        Check c = ready();
        c.node(4, 0, "");
        c.card.with(2, 5, 1, -1);
        c.card.by(0, 0, 2);
        run(c);
        c.envelope("D7 03 A40105", 0x9000);
        Check.same("no NODE at first", c.card.count(11), 0);
        c.card.by(1, 5, 1);
        run(c);
        c.envelope("D7 00", 0x6A88);
        c.envelope("D7 02 A500", 0x6A88);
        c.envelope("D7 02 A400", 0x6A80);
        c.envelope("D7 04 A4020505", 0x6A80);
        c.envelope("D7 03 A40104", 0x6A80);
        c.envelope("D7 03 A40100", 0x6A80);
        c.envelope("D7 03 A40109", 0x6A80);
        c.envelope("D7 03 A401FF", 0x6A80);
        Check.same("runs on", c.card.timer(5), 1);
        c.envelope("D7 07 A50100 240105 A5", 0x6A80);
        c.envelope("D7 06 A50100 240105", 0x910B);
        Check.same("runs no more", c.card.timer(5), 0);
        Check.same("its NODE", c.card.count(12), 1);
        c.profile(Check.FULL_PROFILE, 0x9000);
        c.card.by(1, 5, -1);
        run(c);
        c.envelope("D7 03 A40105", 0x9000);
        Check.same("without a NODE, too", c.card.timer(5), 0);
        c.envelope("D7 03 A40105", 0x6A80);
        run(c);
        c.card.reset();
        Check.same("not behind reset", c.card.timer(5), 0);
        unknownTags("D7", "A40105", "02|24|25");
    }

    private static void run(Check c) {
        c.send("80C20000", "D603990100");
        c.fetch();
        c.respond(0x27, 0, "00", "", 0x9000);
        Check.same("runs", c.card.timer(5), 1);
    }

    /** An ENVELOPE D1 whose 0B has these bytes. */
    private static String sms(String bytes) {
        int[] all = Check.bytes(bytes);
        String tlv = "8B" + (all.length < 128 ? "" : "81") + Check.hex(all.length) + bytes;
        int length = Check.bytes(tlv).length;
        return "D1" + (length < 128 ? "" : "81") + Check.hex(length) + tlv;
    }

    private static String orders(String orders) {
        return sms("00 03 91 2143 7F 0102030405060708" + Check.hex(Check.bytes(orders).length) + orders);
    }

    private static void messageForms() {
        Check c = ready();
        c.envelope("D100", 0x6A88);
        c.envelope("D1028200", 0x6A88);
        c.envelope("D1028600", 0x6A88);
        c.envelope("D1028B00", 0x6A80);
        String eight = "FFFFFFFFFFFFFFFF";
        c.envelope(sms("00 00 91 7F" + eight + "00"), 0x9000);
        c.envelope(sms("BF 00 00 7F" + eight + "00"), 0x9000);
        c.envelope(sms("00 01 91 21 7F" + eight + "00"), 0x9000);
        c.envelope(sms("00 02 91 21 7F" + eight + "00"), 0x9000);
        c.envelope(sms("00 03 91 2143 7F" + eight + "00"), 0x9000);
        c.envelope(sms("00 BE 91" + Check.many("11", 95) + "7F" + eight + "00"), 0x9000);
        c.envelope(sms("00 FF 91" + Check.many("11", 128) + "7F" + eight + "00"), 0x9000);
        c.envelope(sms("00 03 91 21 7F" + eight + "00"), 0x6A80);
        c.envelope(sms("00 00 91 7E" + eight + "00"), 0x6A80);
        c.envelope(sms("00 00 91 7F" + eight), 0x6A80);
        c.envelope(sms("00 00 91 7F" + eight + "01"), 0x6A80);
        c.envelope(sms("00 00 91 7F" + eight + "0000"), 0x6A80);
        c.envelope(sms("00 00 91"), 0x6A80);
        c.envelope(sms("00 00"), 0x6A80);
        c.envelope(sms("00"), 0x6A80);
        c.envelope(sms("00 FF 91 7F" + eight + "00"), 0x6A80);
        c.envelope(sms("40 00 91 7F" + eight + "00"), 0x6A80);
        c.envelope(sms("40 00 91 7F" + eight + "0100"), 0x9000);
        c.envelope(sms("40 00 91 7F" + eight + "0101"), 0x6A80);
        c.envelope(sms("44 00 91 7F" + eight + "03 02 7000"), 0x9000);
        c.envelope(sms("44 00 91 7F" + eight + "03 03 7000"), 0x6A80);
        c.envelope(sms("04 00 91 7F" + eight + "03 02 7000"), 0x6A80);
        c.envelope(sms("40 00 91 7F" + eight + "06 02 7000 C10101"), 0x910B);
        Check.same("behind its head", c.card.count(12), 1);
        c.profile("02", 0x9000);
        c.envelope("D1 14 0600 8200 0B0C 000091 7F" + eight + "8B00", 0x6A80);
        c.envelope("D1 15 0600 8200 0B0D 000091 7F" + eight + "00 8B00", 0x9000);
        unknownTags("D1", "8B0D0000917F" + eight + "00", "02|06|0B");
    }

    private static void writeOrders() {
        Check c = ready();
        c.card.rights(1, 2, 2);
        c.envelope(orders("C0 06 6F01 0001 0A0B"), 0x9000);
        Check.same("written", c.fileBytes(1), "FF0A0BFF");
        c.envelope(orders("C0 05 6F01 0003 0C"), 0x9000);
        c.envelope(orders("C0 08 6F01 0000 01020304"), 0x9000);
        Check.same("all", c.fileBytes(1), "01020304");
        c.envelope(orders("C0 04 6F01 0000"), 0x9000);
        c.envelope(orders("C0 04 6F01 0004"), 0x9000);
        c.envelope(orders("C0 05 6F01 0004 EE"), 0x6B00);
        c.envelope(orders("C0 06 6F01 0003 EEEE"), 0x6B00);
        c.envelope(orders("C0 05 6F01 FFFF EE"), 0x6B00);
        c.envelope(orders("C0 05 6F03 0000 EE"), 0x6A82);
        c.envelope(orders("C0 05 7F10 0000 EE"), 0x6A82);
        c.envelope(orders("C0 05 3F00 0000 EE"), 0x6A82);
        c.envelope(orders("C0 03 6F01 00"), 0x6A80);
        c.envelope(orders("C0 00"), 0x6A80);
        c.envelope(orders("C0"), 0x6A80);
        c.envelope(orders("C0 05 6F01 0000"), 0x6A80);
        c.envelope(orders("C2 01 00"), 0x6A80);
        Check.same("nothing was written", c.fileBytes(1), "01020304");
        c.envelope(orders("C0 05 6F02 0100 EE"), 0x9000);
        Check.same("the first one of KIND 1", c.card.byteOf(4, 256), 0xEE);
        Check.same("not the records", c.fileBytes(3), "FFFFFFFF");
        c.card.file(2, 1, 0x6F01, 4, 1);
        c.envelope(orders("C0 05 6F01 0000 77 C0 06 6F01 0000 7879"), 0x9000);
        Check.same("the first FILE, the later ORDER", c.fileBytes(1) + c.fileBytes(5), "78790304" + "FFFFFFFF");
        String big = Check.many("5A", 0xC8);
        c.envelope(orders("C0 CC 6F02 0000" + big), 0x9000);
        Check.same("a long ORDER", c.fileBytes(4).substring(0, 402), big + "FF");
        Check.same("nothing is STARTED", c.card.count(11), 0);
    }

    private static void startOrders() {
        Check c = ready();
        c.envelope(orders("C1 00"), 0x6A80);
        c.envelope(orders("C1 02 0000"), 0x6A80);
        c.envelope(orders("C1 01"), 0x6A80);
        c.envelope(orders("C1 01 02"), 0x6A82);
        c.envelope(orders("C1 01 FF"), 0x6A82);
        c.envelope(orders("C1 01 00"), 0x910E);
        Check.same("NODE 0", c.card.count(12), 0);
        c.profile("02", 0x9000);
        c.envelope(orders("C1 01 00 C0 05 6F01 0000 55 C1 01 01"), 0x910B);
        Check.same("the last one", c.card.count(12), 1);
        Check.same("and written", c.card.byteOf(1, 0), 0x55);
        c.profile("02", 0x9000);
        c.envelope(orders("C1 01 01 C1 01 00"), 0x9000);
        Check.same("only the last one, which FAILED", c.card.count(11), 0);
    }

    private static void allIsAskedAhead() {
        Check c = ready();
        c.envelope(orders("C0 05 6F01 0000 EE C1 01 09"), 0x6A82);
        c.envelope(orders("C0 05 6F01 0000 EE C0 05 6F01 0004 EE"), 0x6B00);
        c.envelope(orders("C0 05 6F01 0000 EE C5 00"), 0x6A80);
        c.envelope(orders("C0 05 6F01 0000 EE C1"), 0x6A80);
        c.envelope(orders("C0 05 6F01 0009 EE C5 00"), 0x6B00);
        c.envelope(orders("C1 01 09 C1"), 0x6A82);
        c.envelope(orders("C1 01 01 C1 01 09"), 0x6A82);
        Check.same("nothing was written", c.fileBytes(1), "FFFFFFFF");
        Check.same("nothing is STARTED", c.card.count(11), 0);
    }
}
