import java.util.NoSuchElementException;

/** The boundary cases of promises 1, 14, 16, 17 and 18: a new object, reset, out, count and timer. */
public final class LooksEdgesTest {
    public static void main(String[] args) {
        aNewObjectIsBare();
        twoObjectsShareNothing();
        resetOfANewObject();
        resetLeavesTheCard();
        resetEndsTheSession();
        resetTakesTheProfile();
        outAtItsEdges();
        outOfNothing();
        countOfAnotherWhat();
        countOfDoneCommands();
        countOfWhatIsPending();
        countOfTheMenuPending();
        timerAtItsEdges();
        looksChangeNothing();
        Check.finish();
    }

    private static void counts(String when, ChipCard x, int... due) {
        for (int what = 0; what < due.length; what++) {
            Check.same(when + " count(" + what + ")", x.count(what), due[what]);
        }
    }

    /** "A card with the root alone, an empty MENU, no NODES; as behind reset()." */
    private static void aNewObjectIsBare() {
        Check c = new Check();
        counts("new:", c.card, 1, 0, 0, 0, 0, 3, 10, -1, 0, 0, 0, 0, -1, 0, 0, 0);
        Check.same("no FILE but the root", c.card.rights(1, 0, 0), false);
        Check.same("no NODE", c.card.goes(0, 0, -1), false);
        for (int identifier = 1; identifier <= 255; identifier += 127) {
            Check.same("no ITEM", c.card.pick(-1, identifier, -1), false);
        }
        for (int k = 1; k <= 8; k++) {
            Check.same("TIMER " + k, c.card.timer(k), 0);
        }
        c.unchanged("8012000000", 0x6985);
        c.unchanged("801400000100", 0x6985);
        c.unchanged("80C2000005D603990100", 0x6985);
        c.unchanged("00200001", 0x63C3);
        c.unchanged("00B0000000", 0x6986);
    }

    private static void twoObjectsShareNothing() {
        Check a = new Check();
        Check b = new Check();
        a.card.file(0, 1, 1, 4, 1);
        a.node(2, 0, "41");
        a.item(-1, 1, "41");
        a.answers("00A4000C020001", "");
        a.refused("0020000108FFFFFFFFFFFFFFFF", 0x63C2);
        a.profile(Check.FULL_PROFILE, 0x9111);
        a.card.feed(1, 2, 3, 4, 5);
        counts("the other one:", b.card, 1, 0, 0, 0, 0, 3, 10, -1, 0, 0, 0, 0, -1, 0, 0, 0);
    }

    private static void resetOfANewObject() {
        Check c = new Check();
        c.card.reset();
        c.card.reset();
        counts("reset:", c.card, 1, 0, 0, 0, 0, 3, 10, -1, 0, 0, 0, 0, -1, 0, 0, 0);
        c.unchanged("80C2000005D603990100", 0x6985);
    }

    private static void resetLeavesTheCard() {
        Check c = new Check();
        c.card.file(0, 1, 1, 2, 1);
        c.card.rights(1, 0, 1);
        c.tape("4142");
        c.card.fill(1, 0);
        c.node(0, 0, "43");
        c.card.goes(0, 0, 0);
        c.card.by(0, 3, 0);
        c.item(-1, 5, "44");
        c.card.pick(-1, 5, 0);
        c.tape("45");
        c.card.title();
        c.refused("0020000108FFFFFFFFFFFFFFFF", 0x63C2);
        c.answers("0024000110" + "31323334FFFFFFFF" + "0102030405060708", "");
        c.card.reset();
        c.answers("00A40004020001", "620F 820101 83020001 80020002 8A020001");
        c.answers("00B0000002", "4142");
        c.answers("00200001080102030405060708", "");
        c.profile(Check.FULL_PROFILE, 0x9112);
        c.fetches("D010 8103012500 82028182 850145 8F020544");
        c.respond(0x25, 0, "00", "", 0x9000);
        c.envelope("D303900105", 0x910F);
        c.fetches("D00D 8103022100 82028102 8D020443");
        c.respond(0x21, 0, "00", "", 0x910F);
        c.card.reset();
        c.profile("0000000002", 0x9000);
        c.event(3, 0x910F);
    }

    /** "the root is at hand, the PIN is not VERIFIED, nothing is PENDING or FETCHED, no TIMER runs" */
    private static void resetEndsTheSession() {
        for (int fetched = 0; fetched <= 1; fetched++) {
            Check c = new Check();
            c.card.file(0, 0, 1, 0, 0);
            c.card.file(1, 2, 2, 1, 2);
            for (int k = 1; k <= 8; k++) {
                c.node(4, 0, "");
                c.card.with(k - 1, k, 1, -1);
            }
            for (int k = 1; k <= 8; k++) {
                c.card.goes(k - 1, 0, k % 8);
            }
            c.card.by(0, 0, 0);
            c.profile(Check.FULL_PROFILE, 0x9000);
            c.event(0, 0x9113);
            for (int k = 1; k <= 8; k++) {
                c.fetch();
                c.respond(0x27, 0, "00", "", 0x9113);
                Check.same("TIMER " + k, c.card.timer(k), 1);
            }
            c.status("00A4080C0400010002", 0x9113);
            c.status("00B2000201", 0x9113);
            c.status("002000010831323334FFFFFFFF", 0x9113);
            if (fetched == 1) {
                c.fetch();
            }
            Check.same("PENDING or FETCHED", c.card.count(11), 1 + fetched);
            c.card.reset();
            Check.same("the root", c.card.count(8), 0);
            Check.same("no FILE", c.card.count(7), ChipCard.NONE);
            Check.same("no RECORD", c.card.count(9), 0);
            Check.same("not VERIFIED", c.card.count(10), 0);
            Check.same("nothing", c.card.count(11), 0);
            Check.same("no NODE", c.card.count(12), ChipCard.NONE);
            Check.same("no NUMBER", c.card.count(13), 0);
            for (int k = 1; k <= 8; k++) {
                Check.same("TIMER " + k, c.card.timer(k), 0);
            }
        }
    }

    /** "there was no TERMINAL PROFILE" */
    private static void resetTakesTheProfile() {
        Check c = new Check();
        c.node(5, 0, "");
        c.card.by(0, 0, 0);
        c.profile("02", 0x9000);
        c.event(0, 0x910B);
        c.card.reset();
        c.unchanged("80C2000005D603990100", 0x6985);
        c.profile("00", 0x9000);
        c.event(0, 0x9000);
        Check.same("the PROFILE of before is gone", c.card.count(11), 0);
        c.profile("02", 0x9000);
        c.event(0, 0x910B);
        Check.same("1 first", c.card.count(13), 1);
    }

    /** "Byte i of THE OUT (0 .. 255). NoSuchElementException: there is none." */
    private static void outAtItsEdges() {
        Check c = new Check();
        c.card.file(0, 1, 1, 256, 1);
        c.tape("00");
        c.card.fill(1, 255);
        c.tape("7F80");
        c.card.fill(1, 0);
        c.answers("00A4000C020001", "");
        int[] lengths = {1, 2, 255, 256};
        for (int n : lengths) {
            c.status("00B00000" + Check.hex(n & 0xFF), 0x9000);
            Check.same("first", c.card.out(0), 0x7F);
            Check.same("last", c.card.out(n - 1), n == 1 ? 0x7F : n == 2 ? 0x80 : n == 256 ? 0 : 255);
            int[] none = {Check.LOWEST, -n, -1, n, n + 1, Check.HIGHEST};
            for (int i : none) {
                Check.throwing("out(" + i + ") of " + n, NoSuchElementException.class, () -> c.card.out(i));
            }
            Check.same("how many", c.card.count(3), n);
        }
    }

    private static void outOfNothing() {
        Check c = new Check();
        Check.throwing("at first", NoSuchElementException.class, () -> c.card.out(0));
        c.answers("00A40004023F00", "620B 820100 83023F00 8A020000");
        Check.same("one byte", c.card.out(0), 0x62);
        c.answers("00A4000C023F00", "");
        Check.throwing("behind a command that answers nothing", NoSuchElementException.class, () -> c.card.out(0));
        c.answers("00A40004023F00", "620B 820100 83023F00 8A020000");
        c.refused("00A40004023F01", 0x6A82);
        Check.throwing("behind a refusal", NoSuchElementException.class, () -> c.card.out(0));
        Check.throwing("behind a refusal", NoSuchElementException.class, () -> c.card.out(-1));
    }

    /** "NONE for another what" */
    private static void countOfAnotherWhat() {
        int[] others = {Check.LOWEST, -16, -2, -1, 16, 17, 255, Check.HIGHEST};
        for (int what : others) {
            Check.same("count(" + what + ")", new ChipCard().count(what), ChipCard.NONE);
        }
        Check.same("the last one", new ChipCard().count(15), 0);
        Check.same("the first one", new ChipCard().count(0), 1);
    }

    /** "14: commands that answered 9000 or 91XX" */
    private static void countOfDoneCommands() {
        Check c = new Check();
        c.node(0, 0, "");
        c.card.by(0, 0, 0);
        int done = 0;
        String[] refused = {"", "01A40000", "00A50000", "00A40000", "00200001", "0020000108FFFFFFFFFFFFFFFF", "8012000000",
            "801400000100", "80C200000100"};
        for (String hex : refused) {
            c.command(hex);
            Check.same("behind " + hex, c.card.count(14), done);
        }
        String[] good = {"00A4000C023F00", "002000010831323334FFFFFFFF", "00200001", "8010000005FFFFFFFFFF", "80C2000005D603990100",
            "00A4000C023F00", "801200000E"};
        for (String hex : good) {
            int status = c.command(hex);
            done++;
            Check.same("9000 or 91XX of " + hex, status == 0x9000 || status == 0x910E, true);
            Check.same("behind " + hex, c.card.count(14), done);
        }
        c.refused("80C2000005D603990100", 0x9300);
        Check.same("9300 is none of them", c.card.count(14), done);
        c.card.reset();
        Check.same("reset leaves it", c.card.count(14), done);
    }

    /** "11: 0 nothing, 1 PENDING, 2 FETCHED, 12: its NODE, 13: its NUMBER (0 without)" */
    private static void countOfWhatIsPending() {
        Check c = new Check();
        c.node(5, 0, "");
        c.node(5, 1, "");
        c.card.by(0, 0, 1);
        c.profile("02", 0x9000);
        pending(c, 0, -1, 0);
        c.event(0, 0x910B);
        pending(c, 1, 1, 1);
        c.fetch();
        pending(c, 2, 1, 1);
        c.respond(0x01, 1, "20", "", 0x910B);
        pending(c, 1, 1, 2);
        c.fetch();
        c.respond(0x01, 1, "00", "", 0x9000);
        pending(c, 0, -1, 0);
        c.event(0, 0x910B);
        pending(c, 1, 1, 3);
    }

    private static void pending(Check c, int state, int node, int number) {
        Check.same("count(11)", c.card.count(11), state);
        Check.same("count(12)", c.card.count(12), node);
        Check.same("count(13)", c.card.count(13), number);
    }

    /** "12: its NODE (NONE also of MENU)" */
    private static void countOfTheMenuPending() {
        Check c = new Check();
        c.node(5, 0, "");
        c.item(-1, 1, "");
        c.profile(Check.FULL_PROFILE, 0x9110);
        pending(c, 1, -1, 1);
        c.fetch();
        pending(c, 2, -1, 1);
    }

    /** "Whether a TIMER runs (1, 0); NONE if there is none such" */
    private static void timerAtItsEdges() {
        for (int k = 1; k <= 8; k++) {
            Check c = new Check();
            c.node(4, 0, "");
            c.card.with(0, k, 1, -1);
            c.card.by(0, 0, 0);
            c.profile(Check.FULL_PROFILE, 0x9000);
            c.event(0, 0x9113);
            Check.same("not yet", c.card.timer(k), 0);
            c.fetch();
            c.respond(0x27, 0, "00", "", 0x9000);
            for (int other = 1; other <= 8; other++) {
                Check.same("TIMER " + other, c.card.timer(other), other == k ? 1 : 0);
            }
            int[] none = {Check.LOWEST, -8, -1, 0, 9, 10, Check.HIGHEST};
            for (int other : none) {
                Check.same("TIMER " + other, c.card.timer(other), ChipCard.NONE);
            }
        }
    }

    private static void looksChangeNothing() {
        Check c = new Check();
        c.card.file(0, 1, 1, 2, 1);
        c.node(0, 0, "");
        c.card.by(0, 0, 0);
        c.profile(Check.FULL_PROFILE, 0x9000);
        c.event(0, 0x910E);
        c.status("00A40004020001", 0x910E);
        c.card.feed(1, 2, 3, 4, 5);
        String before = c.state();
        String out = c.out();
        for (int n = -2; n <= 20; n++) {
            int at = n;
            c.card.count(n);
            c.card.timer(n);
            c.card.byteOf(1, n);
            c.card.byteOf(n, 0);
            if (n < 0 || n >= c.card.count(3)) {
                Check.throwing("out(" + n + ")", NoSuchElementException.class, () -> c.card.out(at));
            }
        }
        Check.same("the state", c.state(), before);
        Check.same("THE OUT", c.out(), out);
        Check.same("THE TAPE", c.card.count(4), 20);
    }
}
