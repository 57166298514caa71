/** Promises 2 and 3, and which calls empty THE TAPE. */
public final class TapeTest {
    public static void main(String[] args) {
        feedPutsTwentyBytes();
        tapeHasAtMost300();
        endCuts();
        readersEmptyTheTape();
        Check.finish();
    }

    private static void feedPutsTwentyBytes() {
        Check c = new Check();
        c.card.file(0, 1, 1, 40, 1);
        Check.same("feed", c.card.feed(0x01020304, 0x80FF00FE, -1, 0, Integer.MIN_VALUE), 20);
        Check.same("feed again", c.card.feed(0x11121314, 0x15161718, 0x191A1B1C, 0x1D1E1F20, 0x21222324), 40);
        Check.same("count 4", c.card.count(4), 40);
        Check.same("fill", c.card.fill(1, 0), 40);
        Check.same("the bytes", c.fileBytes(1),
            "0102030480FF00FEFFFFFFFF0000000080000000" + "1112131415161718191A1B1C1D1E1F2021222324");
    }

    private static void tapeHasAtMost300() {
        ChipCard x = new ChipCard();
        for (int i = 1; i <= 15; i++) {
            Check.same("feed " + i, x.feed(1, 2, 3, 4, 5), 20 * i);
        }
        Check.same("feed 16", x.feed(1, 2, 3, 4, 5), ChipCard.NONE);
        Check.same("none come", x.count(4), 300);
        Check.same("end 281", x.end(281), true);
        Check.same("feed on 281", x.feed(1, 2, 3, 4, 5), ChipCard.NONE);
        Check.same("end 280", x.end(280), true);
        Check.same("feed on 280", x.feed(1, 2, 3, 4, 5), 300);
    }

    private static void endCuts() {
        ChipCard x = new ChipCard();
        Check.same("end 0 of nothing", x.end(0), true);
        Check.same("end 1 of nothing", x.end(1), false);
        x.feed(1, 2, 3, 4, 5);
        Check.same("end -1", x.end(-1), false);
        Check.same("end 21", x.end(21), false);
        Check.same("end lowest", x.end(Integer.MIN_VALUE), false);
        Check.same("end highest", x.end(Integer.MAX_VALUE), false);
        Check.same("still 20", x.count(4), 20);
        Check.same("end 20", x.end(20), true);
        Check.same("end 7", x.end(7), true);
        Check.same("7 left", x.count(4), 7);
        Check.same("end 8", x.end(8), false);
    }

    private static void readersEmptyTheTape() {
        Check c = new Check();
        c.card.file(0, 1, 1, 4, 1);
        c.tape("01");
        c.card.fill(1, 0);
        empty(c, "fill");
        c.tape("01");
        Check.throwing("fill of nothing", IndexOutOfBoundsException.class, () -> c.card.fill(9, 0));
        empty(c, "fill that throws");
        c.tape("01");
        Check.throwing("fill beyond", IllegalArgumentException.class, () -> c.card.fill(1, 4));
        empty(c, "fill beyond");
        c.node(2, 0, "41");
        empty(c, "node");
        c.tape("01");
        Check.throwing("node", IllegalArgumentException.class, () -> c.card.node(8, 0));
        empty(c, "node that throws");
        c.item(0, 1, "41");
        empty(c, "item");
        c.tape("01");
        Check.throwing("item", IndexOutOfBoundsException.class, () -> c.card.item(7, 1));
        empty(c, "item that throws");
        c.tape("01");
        c.card.title();
        empty(c, "title");
        c.tape(Check.many("41", 21));
        Check.throwing("title", IllegalArgumentException.class, () -> c.card.title());
        empty(c, "title that throws");
        c.command("00A40000");
        empty(c, "command");
        c.tape("0102");
        c.card.file(0, 1, 2, 1, 1);
        c.card.rights(1, 0, 0);
        c.card.with(0, 0, 0, -1);
        c.card.goes(0, 0, 0);
        c.card.pick(0, 1, 0);
        c.card.by(0, 0, 0);
        c.card.reset();
        c.card.timer(1);
        c.card.byteOf(1, 0);
        Check.same("others leave THE TAPE", c.card.count(4), 2);
    }

    private static void empty(Check c, String call) {
        Check.same("THE TAPE behind " + call, c.card.count(4), 0);
    }
}
