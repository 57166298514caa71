/** Promise 15: TERMINAL RESPONSE. */
public final class ResponseTest {
    public static void main(String[] args) {
        refusals();
        lists();
        outcomes();
        repeats();
        choice();
        input();
        info();
        filesOfOtherKinds();
        timers();
        Check.finish();
    }

    /** NODE 0 of a SORT is FETCHED; it GOES by each OUTCOME o to NODE o + 1, a REFRESH. */
    private static Check fetched(int sort, int qualifier) {
        Check c = new Check();
        c.card.file(0, 1, 1, 4, 1);
        c.card.file(0, 2, 2, 2, 2);
        c.node(sort, qualifier, "");
        for (int o = 0; o < 4; o++) {
            c.node(5, o, "");
            c.card.goes(0, o, o + 1);
        }
        c.card.by(0, 0, 0);
        c.profile(Check.FULL_PROFILE, 0x9000);
        c.send("80C20000", "D603990100");
        c.fetch();
        return c;
    }

    private static void refusals() {
        Check c = new Check();
        c.refused("80140000", 0x6700);
        c.refused("8014000005", 0x6700);
        c.refused("801400000100", 0x6985);
        c = fetched(0, 0x81);
        c.response("830100", 0x6A88);
        c.response("8103012181", 0x6A88);
        c.response("8200", 0x6A88);
        c.response("8103022181 830100", 0x6A80);
        c.response("8103012381 830100", 0x6A80);
        c.response("8103012180 830100", 0x6A80);
        c.response("81020121 830100", 0x6A80);
        c.response("810401218100 830100", 0x6A80);
        c.response("8100 830100", 0x6A80);
        c.response("8103012181 8300", 0x6A80);
        c.response("8103012181 8300 830100", 0x6A80);
        c.response("8103022181 8103012181 830100", 0x6A80);
        Check.same("still FETCHED", c.card.count(11), 2);
        c.response("8103012181 8103022181 830100 830130", 0x910B);
        Check.same("the first ones count", c.card.count(12), 1);
        c.response("8103020100 830100", 0x6985);
    }

    private static void lists() {
        String good = "8103012100 830100";
        String[] broken = {"00", "8000", "0000", "81", "8103", "810301", "0180", "018000", "01817F" + Check.many("00", 127),
            "0182000100", "018280" + Check.many("00", 128), "0280" + Check.many("00", 129), "02FF80" + Check.many("00", 128),
            "7F", "7F0000", "FF000001", "FF0000", "018180" + Check.many("00", 127), "0201"};
        for (String list : broken) {
            Check c = fetched(0, 0);
            c.response(list, 0x6A80);
            c.response(good + list, 0x6A80);
            c.response("EE00" + good + list, 0x6A80);
            Check.same("still FETCHED", c.card.count(11), 2);
        }
        String[] known = {"0100", "8200", "0200", "8301", "8D00", "9000", "9300", "A400", "A500"};
        for (String tag : known) {
            Check c = fetched(0, 0);
            c.response(good + (tag.equals("8301") ? "830130" : tag), 0x910B);
        }
        for (int tag = 1; tag <= 0x7E; tag++) {
            if (Check.hex(tag).matches("01|02|03|0D|10|13|24|25")) {
                continue;
            }
            Check c = fetched(0, 0);
            c.response(good + Check.hex(tag | 0x80) + "00", 0x6A81);
            c.response(Check.hex(tag | 0x80) + "00", 0x6A81);
            c.response(Check.hex(tag) + "00" + good + Check.hex(tag) + "0101", 0x910B);
        }
        Check c = fetched(0, 0);
        c.response("FF010200" + good, 0x6A81);
        c.response("FF830003010203" + good, 0x6A81);
        c.response("7F010200" + good + "7F8103020102", 0x910B);
        c = fetched(0, 0);
        c.response("028180" + Check.many("00", 128) + good, 0x910B);
        c = fetched(0, 0);
        c.response("0281F4" + Check.many("00", 244) + good, 0x910B);
        c = fetched(0, 0);
        c.response("027F" + Check.many("00", 127) + good, 0x910B);
    }

    private static void outcomes() {
        for (int result = 0; result < 256; result++) {
            int due = 4;
            if (result <= 0x0F) {
                due = 1;
            } else if (result == 0x11) {
                due = 2;
            } else if (result == 0x10 || result == 0x12 || result == 0x13) {
                due = 3;
            } else if (result >= 0x20 && result <= 0x2F) {
                due = 0;
            }
            Check c = fetched(0, 0);
            c.respond(0x21, 0, Check.hex(result), "", due == 0 ? 0x910E : 0x910B);
            Check.same("where it goes by " + result, c.card.count(12), due);
            Check.same("NUMBER", c.card.count(13), 2);
        }
        Check c = fetched(0, 0);
        c.response("8103012100 83031100FF", 0x910B);
        Check.same("the first byte of 03", c.card.count(12), 2);
        Check nowhere = fetched(0, 0);
        nowhere.card.goes(0, 0, -1);
        nowhere.respond(0x21, 0, "00", "", 0x9000);
        Check.same("nothing", nowhere.card.count(11), 0);
        Check.same("no node", nowhere.card.count(12), -1);
        Check.same("no number", nowhere.card.count(13), 0);
    }

    private static void repeats() {
        Check c = fetched(0, 0);
        c.card.goes(0, 3, 0);
        for (int round = 0; round < 2; round++) {
            c.respond(0x21, 0, "20", "", 0x910E);
            Check.same("PENDING again", c.card.count(11), 1);
            c.fetch();
            c.respond(0x21, 0, "2F", "", 0x910E);
            c.fetch();
            c.respond(0x21, 0, "25", "", 0x910E);
            Check.same("FAILED, and STARTED anew", c.card.count(13), 4 + 3 * round);
            c.fetch();
        }
        c.respond(0x21, 0, "20", "", 0x910E);
        c.fetch();
        c.respond(0x21, 0, "00", "", 0x910B);
        Check.same("OK behind a repeat", c.card.count(12), 1);
        Check anew = fetched(0, 0);
        anew.card.goes(0, 0, 0);
        for (int round = 0; round < 3; round++) {
            anew.respond(0x21, 0, "20", "", 0x910E);
            Check.same("PENDING again in round " + round, anew.card.count(12), 0);
            anew.fetch();
            anew.respond(0x21, 0, "21", "", 0x910E);
            anew.fetch();
            anew.respond(0x21, 0, "00", "", 0x910E);
            anew.fetch();
        }
        Check last = fetched(0, 0);
        last.respond(0x21, 0, "20", "", 0x910E);
        last.fetch();
        last.respond(0x21, 0, "20", "", 0x910E);
        last.fetch();
        last.respond(0x21, 0, "20", "", 0x910B);
        Check.same("FAILED", last.card.count(12), 4);
    }

    private static void choice() {
        Check c = fetched(2, 0);
        c.item(0, 5, "");
        c.item(0, 6, "");
        c.card.pick(0, 6, 3);
        c.respond(0x24, 0, "00", "", 0x6A88);
        c.respond(0x24, 0, "00", "9000", 0x6A80);
        c.respond(0x24, 0, "00", "90020506", 0x6A80);
        c.respond(0x24, 0, "00", "900107", 0x6A80);
        c.respond(0x24, 0, "00", "900107900106", 0x6A80);
        Check.same("still FETCHED", c.card.count(11), 2);
        c.respond(0x24, 0, "00", "900106", 0x910B);
        Check.same("by the ITEM", c.card.count(12), 3);
        c = fetched(2, 0);
        c.item(0, 5, "");
        c.respond(0x24, 0, "00", "100105", 0x9000);
        Check.same("an ITEM that GOES nowhere", c.card.count(11), 0);
        c = fetched(2, 0);
        c.respond(0x24, 0, "11", "", 0x910B);
        Check.same("BACK asks for no ITEM", c.card.count(12), 2);
    }

    private static void input() {
        Check c = fetched(1, 0);
        c.respond(0x23, 0, "00", "", 0x910B);
        Check.same("without a FILE nothing is asked", c.card.count(12), 1);
        input("0D03043132", "3132FFFF");
        input("8D0104", "FFFFFFFF");
        input("8D00", "FFFFFFFF");
        input("8D050431323334", "31323334");
        input("8D06043132333435", "31323334");
        input("8D020431 8D020432", "31FFFFFF");
        Check missing = fetched(1, 0);
        missing.card.with(0, 0, 0, 1);
        missing.card.rights(1, 2, 2);
        missing.respond(0x23, 0, "00", "9303010203", 0x6A88);
        Check.same("still FETCHED", missing.card.count(11), 2);
        missing.respond(0x23, 0, "00", "8D020441", 0x910B);
        Check.same("rights are not asked", missing.fileBytes(1), "41FFFFFF");
        Check back = fetched(1, 0);
        back.card.with(0, 0, 0, 1);
        back.tape("55");
        back.card.fill(1, 0);
        back.respond(0x23, 0, "11", "8D020441", 0x910B);
        Check.same("BACK writes nothing", back.fileBytes(1), "55FFFFFF");
    }

    private static void input(String tags, String due) {
        Check c = fetched(1, 0);
        c.card.with(0, 0, 0, 1);
        c.tape("AAAAAAAA");
        c.card.fill(1, 0);
        c.respond(0x23, 0, "00", tags, 0x910B);
        Check.same("the FILE behind " + tags, c.fileBytes(1), due);
        Check.same("by OK", c.card.count(12), 1);
    }

    private static void info() {
        Check c = fetched(6, 0);
        c.respond(0x26, 0, "00", "", 0x910B);
        c = fetched(6, 0);
        c.card.with(0, 0, 0, 1);
        c.respond(0x26, 0, "00", "8D020102", 0x6A88);
        c.respond(0x26, 0, "00", "93020102", 0x910B);
        Check.same("all of 13", c.fileBytes(1), "0102FFFF");
        c = fetched(6, 0);
        c.card.with(0, 0, 0, 1);
        c.tape("AAAAAAAA");
        c.card.fill(1, 0);
        c.respond(0x26, 0, "00", "13050102030405", 0x910B);
        Check.same("as many as it has", c.fileBytes(1), "01020304");
        c = fetched(6, 0);
        c.card.with(0, 0, 0, 1);
        c.tape("AAAAAAAA");
        c.card.fill(1, 0);
        c.respond(0x26, 0, "00", "1300", 0x910B);
        Check.same("none", c.fileBytes(1), "FFFFFFFF");
    }

    private static void filesOfOtherKinds() {
        for (int file = 0; file <= 2; file += 2) {
            Check c = fetched(1, 0);
            c.card.with(0, 0, 0, file);
            c.tape("01020304");
            c.card.fill(2, 0);
            c.respond(0x23, 0, "00", "", 0x6A88);
            c.respond(0x23, 0, "00", "8D020441", 0x910B);
            Check.same("nothing is written", c.fileBytes(2), "01020304");
        }
        Check display = fetched(0, 0);
        display.card.with(0, 0, 0, 1);
        display.respond(0x21, 0, "00", "8D020441", 0x910B);
        Check.same("of another SORT nothing is written", display.fileBytes(1), "FFFFFFFF");
    }

    private static void timers() {
        for (int least = 0; least <= 9; least++) {
            Check c = fetched(4, 0);
            c.card.with(0, least, 10, -1);
            c.respond(0x27, 0, "00", "", 0x910B);
            Check.same("by OK", c.card.count(12), 1);
            for (int k = 1; k <= 8; k++) {
                Check.same("timer " + k, c.card.timer(k), k == least ? 1 : 0);
            }
        }
        Check failed = fetched(4, 0);
        failed.card.with(0, 1, 10, -1);
        failed.respond(0x27, 0, "30", "", 0x910B);
        Check.same("FAILED", failed.card.timer(1), 0);
        for (int qualifier = 1; qualifier <= 2; qualifier++) {
            Check c = fetched(4, 0);
            c.card.with(0, 8, 10, -1);
            c.node(4, qualifier, "");
            c.card.with(5, 8, 0, -1);
            c.card.goes(0, 0, 5);
            c.respond(0x27, 0, "00", "", 0x910E);
            Check.same("timer 8", c.card.timer(8), 1);
            c.fetch();
            c.respond(0x27, qualifier, "00", "", 0x9000);
            Check.same("timer 8 behind QUALIFIER " + qualifier, c.card.timer(8), qualifier == 1 ? 0 : 1);
        }
    }
}
