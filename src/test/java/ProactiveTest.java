/** Promise 15: what is PENDING, its bytes, TERMINAL PROFILE, FETCH and how NODES are STARTED. */
public final class ProactiveTest {
    public static void main(String[] args) {
        terminalProfile();
        fetch();
        menu();
        bytesOfSorts();
        longBytes();
        timerBytes();
        eventBytes();
        bytesAsTheyAreNow();
        profileOfTypes();
        chains();
        numbersWrap();
        doneTellsPending();
        Check.finish();
    }

    /** A card on which EVENT k has a NODE of each SORT k, with an empty TEXT. */
    private static Check allSorts(String text) {
        Check c = new Check();
        for (int sort = 0; sort < 8; sort++) {
            c.node(sort, 0, text);
            c.card.by(0, sort, sort);
        }
        c.profile(Check.FULL_PROFILE, 0x9000);
        return c;
    }

    private static void terminalProfile() {
        Check c = new Check();
        c.refused("80100000", 0x6700);
        c.refused("8010000005", 0x6700);
        c.refused("80C20000 05 D603990100", 0x6985);
        c.profile("00", 0x9000);
        c.event(0, 0x9000);
        c.node(4, 0, "");
        c.card.with(0, 3, 1, -1);
        c.card.by(0, 0, 0);
        c.profile(Check.FULL_PROFILE, 0x9000);
        c.event(0, 0x9113);
        c.fetch();
        c.respond(0x27, 0, "00", "", 0x9000);
        Check.same("timer 3 runs", c.card.timer(3), 1);
        c.event(0, 0x9113);
        Check.same("NUMBER", c.card.count(13), 2);
        c.profile(Check.FULL_PROFILE, 0x9000);
        Check.same("gone", c.card.count(11), 0);
        Check.same("its node", c.card.count(12), -1);
        Check.same("no number", c.card.count(13), 0);
        Check.same("timer 3 does not run", c.card.timer(3), 0);
        c.event(0, 0x9113);
        c.fetch();
        c.profile(Check.FULL_PROFILE, 0x9000);
        Check.same("FETCHED is gone", c.card.count(11), 0);
        c.event(0, 0x9113);
        Check.same("1 first", c.card.count(13), 1);
    }

    private static void fetch() {
        Check c = allSorts("41");
        c.refused("80120000", 0x6700);
        c.refused("801200000100", 0x6700);
        c.refused("8012000001", 0x6985);
        c.event(0, 0x910F);
        Check.same("PENDING", c.card.count(11), 1);
        c.refused("80120000", 0x6700);
        c.refused("8012000000", 0x6C0F);
        c.refused("801200000E", 0x6C0F);
        c.refused("8012000010", 0x6C0F);
        Check.same("still PENDING", c.card.count(11), 1);
        c.fetches("D00D 8103012100 82028102 8D020441");
        Check.same("FETCHED", c.card.count(11), 2);
        Check.same("its node", c.card.count(12), 0);
        Check.same("its number", c.card.count(13), 1);
        c.refused("801200000F", 0x6985);
        c.answers("00A4000C023F00", "");
    }

    private static void menu() {
        Check c = new Check();
        c.tape("4D");
        c.card.title();
        c.profile(Check.FULL_PROFILE, 0x9000);
        Check.same("no ITEM, nothing", c.card.count(11), 0);
        c.item(-1, 1, "41");
        Check.same("nothing is STARTED by item", c.card.count(11), 0);
        c.item(-1, 200, "");
        c.profile(Check.FULL_PROFILE, 0x9115);
        Check.same("PENDING", c.card.count(11), 1);
        Check.same("no node", c.card.count(12), -1);
        Check.same("number", c.card.count(13), 1);
        c.fetches("D013 8103012500 82028182 85014D 8F020141 8F01C8");
        c.respond(0x25, 0, "20", "", 0x9115);
        Check.same("next number", c.card.count(13), 2);
        c.fetch();
        c.respond(0x25, 0, "00", "", 0x9000);
        Check.same("nothing", c.card.count(11), 0);
        c.profile("0000000000", 0x9000);
        Check.same("type 25 is not had", c.card.count(11), 0);
        c.profile("0000000020", 0x9115);
        c.card.reset();
        Check.same("gone by reset", c.card.count(11), 0);
    }

    private static void bytesOfSorts() {
        String[] due = {
            "D00C 8103xx2100 82028102 8D0104",
            "D010 8103xx2300 82028182 8D0104 910200FF",
            "D009 8103xx2400 82028182",
            "D011 8103xx1300 82028183 8B06 01000000F4 00",
            "D011 8103xx2700 82028182 A40100 A503004051",
            "D009 8103xx0100 82028182",
            "D009 8103xx2600 82028182",
            "D013 8103xx0500 82028182 9908 0001020304050607",
        };
        for (int sort = 0; sort < 8; sort++) {
            Check c = allSorts("");
            String bytes = due[sort].replace("xx", "01");
            c.event(sort, 0x9100 + Check.bytes(bytes).length);
            c.fetches(bytes);
        }
        String[] withText = {
            "D00E 8103012100 82028102 8D03046162",
            "D012 8103012300 82028182 8D03046162 910200FF",
            "D00D 8103012400 82028182 85026162",
            "D017 8103011300 82028183 85026162 8B08 01000000F4 026162",
            "D011 8103012700 82028182 A40100 A503004051",
            "D009 8103010100 82028182",
            "D009 8103012600 82028182",
            "D013 8103010500 82028182 9908 0001020304050607",
        };
        for (int sort = 0; sort < 8; sort++) {
            Check c = allSorts("6162");
            c.event(sort, 0x9100 + Check.bytes(withText[sort]).length);
            c.fetches(withText[sort]);
        }
        Check c = new Check();
        c.node(0, 0xA5, "");
        c.card.by(0, 0, 0);
        c.profile(Check.FULL_PROFILE, 0x9000);
        c.event(0, 0x910E);
        c.fetches("D00C 81030121A5 82028102 8D0104");
    }

    private static void longBytes() {
        String text = Check.many("54", 100);
        Check c = allSorts(text);
        c.event(0, 0x9172);
        c.fetches("D070 8103012100 82028102 8D6504" + text);
        c = allSorts(text);
        c.event(3, 0x91DE);
        c.fetches("D081DB 8103011300 82028183 8564" + text + "8B6A 01000000F4 64" + text);
        c = allSorts(text);
        String item = Check.many("49", 20);
        StringBuilder items = new StringBuilder();
        for (int i = 1; i <= 5; i++) {
            c.item(2, i, item);
            items.append("8F15").append(Check.hex(i)).append(item);
        }
        c.event(2, 0x91E5);
        c.fetches("D081E2 8103012400 82028182 8564" + text + items);
        sizesAboutTheLongLength();
    }

    private static void sizesAboutTheLongLength() {
        // With one ITEM of 12 bytes a body of 7E bytes, with 14 one of 80
        String text = Check.many("54", 100);
        for (int n = 12; n <= 14; n++) {
            Check c = new Check();
            c.node(2, 0, text);
            c.card.by(0, 0, 0);
            String item = Check.many("49", n);
            c.item(0, 1, item);
            String body = "8103012400 82028182 8564" + text + "8F" + Check.hex(n + 1) + "01" + item;
            int length = Check.bytes(body).length;
            String due = "D0" + (length < 0x80 ? "" : "81") + Check.hex(length) + body;
            Check.same("length", length, 114 + n);
            c.profile(Check.FULL_PROFILE, 0x9000);
            c.event(0, 0x9100 + 114 + n + (n < 14 ? 2 : 3));
            c.fetches(due);
        }
    }

    private static void timerBytes() {
        String[] due = {"000000", "000010", "000095", "001000", "001010", "002095", "004051"};
        int[] most = {0, 1, 59, 60, 61, 179, 255};
        for (int i = 0; i < most.length; i++) {
            Check c = allSorts("");
            c.card.with(4, 8, most[i], -1);
            c.event(4, 0x9113);
            c.fetches("D011 8103012700 82028182 A40108 A503" + due[i]);
        }
        for (int qualifier = 1; qualifier <= 2; qualifier++) {
            Check c = new Check();
            c.node(4, qualifier, "");
            c.card.by(0, 0, 0);
            c.profile(Check.FULL_PROFILE, 0x9000);
            c.event(0, 0x910E);
            c.fetches("D00C 81030127" + Check.hex(qualifier) + "82028182 A40100");
        }
    }

    private static void eventBytes() {
        Check c = new Check();
        c.node(7, 0, "41");
        c.item(-1, 1, "");
        c.card.pick(-1, 1, 0);
        c.profile(Check.FULL_PROFILE, 0x9110);
        c.fetch();
        c.respond(0x25, 0, "00", "", 0x9000);
        c.envelope("D303900101", 0x910D);
        c.card.by(0, 30, 0);
        c.card.by(0, 5, 0);
        c.card.by(0, 17, 0);
        c.card.by(0, 17, -1);
        c.fetches("D00D 8103020500 82028182 9902051E");
    }

    private static void bytesAsTheyAreNow() {
        Check c = allSorts("");
        c.event(2, 0x910B);
        c.item(2, 7, "41");
        c.answers("801200000F", "D00D 8103012400 82028182 8F020741");
        c.item(2, 8, "42");
        c.card.pick(2, 8, 0);
        c.respond(0x24, 0, "00", "900108", 0x910E);
        c.card.with(1, 4, 6, -1);
        Check.same("goes on", c.card.count(12), 0);
    }

    private static void profileOfTypes() {
        int[] types = {0x21, 0x23, 0x24, 0x13, 0x27, 0x01, 0x26, 0x05};
        for (int sort = 0; sort < 8; sort++) {
            int[] profile = new int[8];
            profile[types[sort] / 8] = 1 << types[sort] % 8;
            StringBuilder just = new StringBuilder();
            StringBuilder without = new StringBuilder();
            for (int b : profile) {
                just.append(Check.hex(b));
                without.append(Check.hex(255 - b));
            }
            Check c = allSorts("");
            c.profile(just.toString(), 0x9000);
            for (int k = 0; k < 8; k++) {
                if (k != sort) {
                    c.event(k, 0x9000);
                }
            }
            c.send("80C20000", "D6039901" + Check.hex(sort));
            Check.same("PENDING of sort " + sort, c.card.count(12), sort);
            c.profile(without.toString(), 0x9000);
            c.event(sort, 0x9000);
            c.profile(Check.many("FF", types[sort] / 8 + 1), 0x9000);
            c.send("80C20000", "D6039901" + Check.hex(sort));
            Check.same("PENDING with a short profile", c.card.count(11), 1);
            if (types[sort] >= 8) {
                c.profile(Check.many("FF", types[sort] / 8), 0x9000);
                c.event(sort, 0x9000);
            }
        }
        Check c = allSorts("");
        c.profile(Check.many("FF", 255), 0x9000);
        c.event(0, 0x910E);
    }

    /** DISPLAYS that FAIL at once, each GOING to the next one, and a REFRESH at the end. */
    private static Check chain(int displays) {
        Check c = new Check();
        for (int i = 0; i < displays; i++) {
            c.node(0, 0, "");
            if (i > 0) {
                c.card.goes(i - 1, 3, i);
            }
        }
        c.node(5, 0, "");
        c.card.goes(displays - 1, 3, displays);
        c.card.by(0, 0, 0);
        c.profile("02", 0x9000);
        return c;
    }

    private static void chains() {
        for (int displays = 1; displays <= 16; displays++) {
            Check c = chain(displays);
            c.event(0, 0x910B);
            Check.same("behind " + displays, c.card.count(12), displays);
            Check.same("first number", c.card.count(13), 1);
        }
        for (int displays = 17; displays <= 19; displays++) {
            Check c = chain(displays);
            c.event(0, 0x9000);
            Check.same("behind " + displays, c.card.count(11), 0);
        }
        Check round = chain(2);
        round.card.goes(1, 3, 0);
        round.event(0, 0x9000);
        Check.same("a round ends", round.card.count(11), 0);
        Check end = chain(2);
        end.card.goes(1, 3, -1);
        end.event(0, 0x9000);
        Check.same("nowhere", end.card.count(11), 0);
        Check byOk = chain(2);
        byOk.card.goes(0, 3, -1);
        byOk.card.goes(0, 0, 2);
        byOk.event(0, 0x9000);
        Check.same("only by FAILED", byOk.card.count(11), 0);
    }

    /** This takes more than 512 calls, but there is no shorter way to FE. */
    private static void numbersWrap() {
        Check c = new Check();
        c.node(5, 0, "");
        c.card.goes(0, 0, 0);
        c.card.by(0, 0, 0);
        c.profile("02", 0x9000);
        c.event(0, 0x910B);
        for (int i = 1; i <= 0xFE; i++) {
            Check.same("NUMBER", c.card.count(13), i);
            c.command("801200000B");
            c.command("80140000088103" + Check.hex(i) + "0100830100");
        }
        Check.same("1 behind FE", c.card.count(13), 1);
    }

    private static void doneTellsPending() {
        Check c = allSorts("");
        c.card.file(0, 1, 1, 2, 1);
        c.card.file(0, 2, 2, 2, 1);
        c.event(0, 0x910E);
        c.status("00A4000C020001", 0x910E);
        c.status("00B0000001", 0x910E);
        Check.same("THE OUT", c.out(), "FF");
        c.status("00D600000100", 0x910E);
        c.status("00200001", 0x63C3);
        c.status("002000010831323334FFFFFFFF", 0x910E);
        c.status("00200001", 0x910E);
        c.status("00A4000C020002", 0x910E);
        c.status("00B2010402", 0x910E);
        c.status("00DC0104020102", 0x910E);
        c.status("00A200040101", 0x910E);
        c.status("00A200040133", 0x6A83);
        Check.same("done ones are counted", c.card.count(14), 11);
    }
}
