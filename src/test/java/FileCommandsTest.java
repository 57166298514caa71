/** Promise 15: a COMMAND's form, SELECT, READ, WRITE and SEARCH. */
public final class FileCommandsTest {
    public static void main(String[] args) {
        form();
        selectById();
        selectByPath();
        selectRefuses();
        selectTells();
        readBytes();
        writeBytes();
        readRecords();
        readRing();
        writeRecords();
        writeRing();
        search();
        rights();
        Check.finish();
    }

    private static void form() {
        Check c = new Check();
        c.refused("", 0x6700);
        c.refused("00", 0x6700);
        c.refused("00A400", 0x6700);
        c.refused("FFFFFF", 0x6700);
        c.refused("01A40000", 0x6E00);
        c.refused("01A40000 02 3F", 0x6700);
        c.refused("01A40000 00 00", 0x6700);
        c.refused("00A4000C 01 3F00", 0x6700);
        c.refused("00A4000C 03 3F00", 0x6700);
        c.refused("FF990000", 0x6E00);
        c.refused("81120000", 0x6E00);
        c.refused("00120000", 0x6D00);
        c.refused("00FF0000", 0x6D00);
        c.refused("80A40000", 0x6D00);
        c.refused("80200000", 0x6D00);
        c.refused("00B00000" + "FF" + Check.many("00", 255), 0x6700);
        c.refused("00A4000C 02 3F00" + Check.many("00", 293), 0x6700);
        Check.same("none was done", c.card.count(14), 0);
    }

    /** 1 7F10 with 2 7F20 (3 6F01, 4 in 2: 5F01 with 5 6F05), 6 6F01 and 7 7F10/7F30. */
    private static Check tree() {
        Check c = new Check();
        c.card.file(0, 0, 0x7F10, 0, 0);
        c.card.file(1, 0, 0x7F20, 0, 0);
        c.card.file(2, 1, 0x6F01, 1, 1);
        c.card.file(2, 0, 0x5F01, 0, 0);
        c.card.file(4, 1, 0x6F05, 1, 1);
        c.card.file(0, 1, 0x6F01, 1, 1);
        c.card.file(1, 0, 0x7F30, 0, 0);
        return c;
    }

    private static void atHand(Check c, int directory, int file) {
        Check.same("DIRECTORY at hand", c.card.count(8), directory);
        Check.same("FILE at hand", c.card.count(7), file);
        Check.same("RECORD at hand", c.card.count(9), 0);
    }

    private static void selectById() {
        Check c = tree();
        atHand(c, 0, ChipCard.NONE);
        c.answers("00A4000C027F10", "");
        atHand(c, 1, ChipCard.NONE);
        c.answers("00A4000C027F20", "");
        atHand(c, 2, ChipCard.NONE);
        c.answers("00A4000C026F01", "");
        atHand(c, 2, 3);
        c.answers("00A4000C027F20", "");
        atHand(c, 2, ChipCard.NONE);
        c.answers("00A4000C027F30", "");
        atHand(c, 7, ChipCard.NONE);
        c.answers("00A4000C027F20", "");
        c.answers("00A4000C025F01", "");
        atHand(c, 4, ChipCard.NONE);
        c.answers("00A4000C026F01", "");
        atHand(c, 2, 3);
        c.answers("00A4000C025F01", "");
        c.refused("00A4000C027F10", 0x6A82);
        atHand(c, 4, ChipCard.NONE);
        c.answers("00A4000C026F05", "");
        atHand(c, 4, 5);
        c.refused("00A4000C027F30", 0x6A82);
        atHand(c, 4, 5);
        c.answers("00A4000C023F00", "");
        atHand(c, 0, ChipCard.NONE);
        c.answers("00A4000C026F01", "");
        atHand(c, 0, 6);
        c.refused("00A4000C027F20", 0x6A82);
        c.answers("00A4000C027F10", "");
        c.answers("00A4000C026F01", "");
        atHand(c, 0, 6);
    }

    private static void selectByPath() {
        Check c = tree();
        c.answers("00A4080C027F10", "");
        atHand(c, 1, ChipCard.NONE);
        c.answers("00A4080C087F107F205F016F05", "");
        atHand(c, 4, 5);
        c.answers("00A4080C026F01", "");
        atHand(c, 0, 6);
        c.refused("00A4080C027F20", 0x6A82);
        c.refused("00A4080C023F00", 0x6A82);
        c.refused("00A4080C043F007F10", 0x6A82);
        c.refused("00A4080C046F016F01", 0x6A82);
        c.refused("00A4080C10" + Check.many("7F10", 8), 0x6A82);
        c.refused("00A4080C12" + Check.many("7F10", 9), 0x6700);
        c.refused("00A4080C11" + Check.many("7F", 17), 0x6700);
        c.refused("00A4080C057F107F2000", 0x6700);
        c.refused("00A4080C017F", 0x6700);
        atHand(c, 0, 6);
    }

    private static void selectRefuses() {
        Check c = new Check();
        c.refused("00A40104", 0x6A86);
        c.refused("00A40000", 0x6A86);
        c.refused("00A40804", 0x6700);
        c.refused("00A4000C02", 0x6700);
        c.refused("00A4000C043F003F00", 0x6700);
        c.refused("00A4090C033F0000", 0x6A86);
        c.refused("00A4000D023F00", 0x6A86);
        c.refused("00A4000C023F01", 0x6A82);
    }

    private static void selectTells() {
        Check c = new Check();
        c.card.file(0, 1, 0xABCD, 1000, 1);
        c.card.file(0, 2, 0x0102, 255, 2);
        c.card.file(0, 3, 0x0103, 1, 255);
        c.card.rights(2, 2, 1);
        c.answers("00A4000402ABCD", "620F 820101 8302ABCD 800203E8 8A020000");
        c.answers("00A40804020102", "620D 820302FF02 83020102 8A020201");
        c.answers("00A40004020103", "620D 82030301FF 83020103 8A020000");
        c.answers("00A4000C020102", "");
    }

    private static void readBytes() {
        Check c = new Check();
        c.card.file(0, 1, 1, 300, 1);
        c.card.file(0, 2, 2, 1, 1);
        c.tape("0102030405");
        c.card.fill(1, 0);
        c.refused("00B00000", 0x6700);
        c.refused("00B0000001AA", 0x6700);
        c.refused("00B0000001", 0x6986);
        c.status("00A4000C020002", 0x9000);
        c.refused("00B0000001", 0x6981);
        c.status("00A4000C020001", 0x9000);
        c.answers("00B0000103", "020304");
        c.answers("00B0000000", "0102030405" + Check.many("FF", 251));
        c.answers("00B0012A00", "FFFF");
        c.answers("00B0012A02", "FFFF");
        c.refused("00B0012A03", 0x6C02);
        c.refused("00B0012BFF", 0x6C01);
        c.refused("00B0012C01", 0x6B00);
        c.refused("00B0012C00", 0x6B00);
        c.refused("00B0FFFF01", 0x6B00);
        c.answers("00B00000FF", "0102030405" + Check.many("FF", 250));
        c.answers("00B0002C00", Check.many("FF", 256));
        c.answers("00B0002D00", Check.many("FF", 255));
    }

    private static void writeBytes() {
        Check c = new Check();
        c.card.file(0, 1, 1, 4, 1);
        c.card.file(0, 3, 2, 1, 1);
        c.refused("00D60000", 0x6700);
        c.refused("00D6000001", 0x6700);
        c.refused("00D60000010A", 0x6986);
        c.status("00A4000C020002", 0x9000);
        c.refused("00D60000010A", 0x6981);
        c.status("00A4000C020001", 0x9000);
        c.answers("00D60001020A0B", "");
        Check.same("written", c.fileBytes(1), "FF0A0BFF");
        c.refused("00D6000302AABB", 0x6700);
        c.refused("00D6000401AA", 0x6B00);
        c.refused("00D6010001AA", 0x6B00);
        Check.same("not written", c.fileBytes(1), "FF0A0BFF");
        c.answers("00D600000411121314", "");
        Check.same("all of it", c.fileBytes(1), "11121314");
    }

    private static Check threeRecords(int kind) {
        Check c = new Check();
        c.card.file(0, kind, 1, 2, 3);
        c.card.file(0, 1, 2, 2, 1);
        c.tape("111222233334");
        c.card.fill(1, 0);
        c.refused("00B2010402", 0x6986);
        c.refused("00DC0104020000", 0x6986);
        c.refused("00A200040100", 0x6986);
        c.status("00A4000C020002", 0x9000);
        c.refused("00B2010402", 0x6981);
        c.refused("00DC0104020000", 0x6981);
        c.refused("00A200040100", 0x6981);
        c.status("00A4000C020001", 0x9000);
        return c;
    }

    private static void record(Check c, int due) {
        Check.same("RECORD at hand", c.card.count(9), due);
    }

    private static void readRecords() {
        Check c = threeRecords(2);
        c.refused("00B20104", 0x6700);
        c.refused("00B201040100", 0x6700);
        c.refused("00B2000502", 0x6A86);
        c.refused("00B2000102", 0x6A86);
        c.refused("00B2010202", 0x6A86);
        c.refused("00B2010302", 0x6A86);
        c.refused("00B2000402", 0x6A83);
        c.answers("00B2020402", "2223");
        record(c, 0);
        c.refused("00B2040402", 0x6A83);
        c.refused("00B2040401", 0x6A83);
        c.refused("00B2010401", 0x6C02);
        c.refused("00B20104FF", 0x6C02);
        c.answers("00B2030400", "3334");
        c.refused("00B2000203", 0x6C02);
        record(c, 0);
        c.answers("00B2000202", "1112");
        record(c, 1);
        c.answers("00B2000402", "1112");
        c.refused("00B2000302", 0x6A83);
        record(c, 1);
        c.answers("00B2000200", "2223");
        c.answers("00B2010402", "1112");
        record(c, 2);
        c.answers("00B2000202", "3334");
        c.refused("00B2000202", 0x6A83);
        record(c, 3);
        c.answers("00B2000302", "2223");
        c.answers("00B2000302", "1112");
        c.status("00A4000C020001", 0x9000);
        record(c, 0);
        c.answers("00B2000302", "3334");
        record(c, 3);
    }

    private static void readRing() {
        Check c = threeRecords(3);
        c.answers("00B2000302", "3334");
        c.answers("00B2000202", "1112");
        c.answers("00B2000302", "3334");
        record(c, 3);
        c.answers("00B2000302", "2223");
        c.answers("00B2000302", "1112");
        c.answers("00B2000402", "1112");
        c.answers("00B2030402", "3334");
        record(c, 1);
        c.refused("00B2040402", 0x6A83);
        c.status("00A4000C020001", 0x9000);
        c.answers("00B2000202", "1112");
    }

    private static void writeRecords() {
        Check c = threeRecords(2);
        c.refused("00DC0104", 0x6700);
        c.refused("00DC010402", 0x6700);
        c.refused("00DC0105020000", 0x6A86);
        c.refused("00DC0102020000", 0x6A86);
        c.refused("00DC0103020000", 0x6A86);
        c.refused("00DC0004020000", 0x6A83);
        c.refused("00DC0404020000", 0x6A83);
        c.refused("00DC04040100", 0x6A83);
        c.refused("00DC01040100", 0x6700);
        c.refused("00DC000203000000", 0x6700);
        record(c, 0);
        c.answers("00DC0204024142", "");
        record(c, 0);
        Check.same("record 2", c.fileBytes(1), "111241423334");
        c.answers("00DC0002024344", "");
        record(c, 1);
        c.answers("00DC0004024546", "");
        Check.same("record 1", c.fileBytes(1), "454641423334");
        c.refused("00DC0003020000", 0x6A83);
        c.status("00A4000C020001", 0x9000);
        c.answers("00DC0003024748", "");
        record(c, 3);
        c.refused("00DC0002020000", 0x6A83);
        c.answers("00DC0003024142", "");
        record(c, 2);
        Check.same("records", c.fileBytes(1), "454641424748");
    }

    private static void writeRing() {
        Check c = threeRecords(3);
        c.refused("00DC0104020000", 0x6A86);
        c.refused("00DC0002020000", 0x6A86);
        c.refused("00DC0103020000", 0x6A86);
        c.refused("00DC00030100", 0x6700);
        c.refused("00DC000303000000", 0x6700);
        record(c, 0);
        c.answers("00DC0003024142", "");
        record(c, 1);
        Check.same("ring", c.fileBytes(1), "414211122223");
        c.answers("00B2000302", "2223");
        c.answers("00DC0003024344", "");
        record(c, 1);
        Check.same("ring again", c.fileBytes(1), "434441421112");
        c.card.file(0, 3, 9, 1, 1);
        c.status("00A4000C020009", 0x9000);
        c.answers("00DC00030177", "");
        c.answers("00DC00030178", "");
        Check.same("ring of one", c.fileBytes(3), "78");
        c.answers("00B2000301", "78");
        c.answers("00B2000301", "78");
    }

    private static void search() {
        Check c = threeRecords(2);
        c.refused("00A20004", 0x6700);
        c.refused("00A2000401", 0x6700);
        c.refused("00A200050122", 0x6A86);
        c.refused("00A204050122", 0x6A86);
        c.refused("00A204040122", 0x6A83);
        c.refused("00A20004022333", 0x6A83);
        c.refused("00A2000403222333", 0x6A83);
        record(c, 0);
        c.answers("00A200040112", "01");
        record(c, 1);
        c.answers("00A20004022223", "02");
        record(c, 2);
        c.tape("12");
        c.card.fill(1, 5);
        c.answers("00A200040112", "0103");
        record(c, 1);
        c.answers("00A202040112", "03");
        record(c, 3);
        c.answers("00A203040112", "03");
        c.answers("00A201040112", "0103");
        c.refused("00A202040111", 0x6A83);
        record(c, 1);
        c.card.file(0, 3, 7, 1, 255);
        c.status("00A4000C020007", 0x9000);
        StringBuilder all = new StringBuilder();
        for (int i = 1; i <= 255; i++) {
            all.append(Check.hex(i));
        }
        c.answers("00A2000401FF", all.toString());
        c.answers("00A2FF0401FF", "FF");
        record(c, 255);
    }

    private static void rights() {
        Check c = new Check();
        c.card.file(0, 1, 1, 2, 1);
        c.card.file(0, 2, 2, 2, 1);
        c.card.rights(1, 1, 2);
        c.card.rights(2, 2, 1);
        c.status("00A4000C020001", 0x9000);
        c.refused("00B0FFFF01", 0x6982);
        c.refused("00D6FFFF0100", 0x6982);
        c.status("00200001083132 3334FFFFFFFF", 0x9000);
        c.answers("00B0000002", "FFFF");
        c.refused("00D600000100", 0x6982);
        c.status("00A4000C020002", 0x9000);
        c.refused("00B2090902", 0x6982);
        c.refused("00A2090901FF", 0x6982);
        c.answers("00DC0104020102", "");
        c.card.reset();
        c.status("00A4000C020002", 0x9000);
        c.refused("00DC0909020102", 0x6982);
        Check.same("written once", c.fileBytes(2), "0102");
        c.card.rights(2, 0, 0);
        c.answers("00B2010402", "0102");
    }
}
