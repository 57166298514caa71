import java.util.NoSuchElementException;

/** Promises 1, 14, 16, 17 and 18: a new object, reset, and the looks. */
public final class LooksTest {
    public static void main(String[] args) {
        newObject();
        reset();
        out();
        counts();
        timers();
        Check.finish();
    }

    private static void counts(ChipCard x, int... due) {
        for (int what = 0; what < due.length; what++) {
            Check.same("count(" + what + ")", x.count(what), due[what]);
        }
    }

    private static void newObject() {
        ChipCard x = new ChipCard();
        counts(x, 1, 0, 0, 0, 0, 3, 10, -1, 0, 0, 0, 0, -1, 0, 0, 0);
        Check.same("count(-1)", x.count(-1), -1);
        Check.same("count(16)", x.count(16), -1);
        Check.same("count lowest", x.count(Integer.MIN_VALUE), -1);
        Check.same("count highest", x.count(Integer.MAX_VALUE), -1);
        Check.same("NONE", ChipCard.NONE, -1);
        Check c = new Check();
        c.answers("00A40004023F00", "620B 820100 83023F00 8A020000");
        c.refused("80C2000005D603990100", 0x6985);
    }

    private static void reset() {
        Check c = new Check();
        c.card.file(0, 0, 0x7F10, 0, 0);
        c.card.file(1, 2, 0x6F01, 2, 2);
        c.node(4, 0, "");
        c.card.with(0, 2, 1, -1);
        c.card.goes(0, 0, 0);
        c.card.by(0, 0, 0);
        c.profile(Check.FULL_PROFILE, 0x9000);
        c.event(0, 0x9113);
        c.fetch();
        c.respond(0x27, 0, "00", "", 0x9113);
        c.status("002000010831323334FFFFFFFF", 0x9113);
        c.status("00A4080C047F106F01", 0x9113);
        c.status("00B2000202", 0x9113);
        c.card.feed(1, 2, 3, 4, 5);
        counts(c.card, 3, 1, 0, 2, 20, 3, 10, 2, 1, 1, 1, 1, 0, 2, 7, 4);
        Check.same("timer 2 runs", c.card.timer(2), 1);
        c.card.reset();
        counts(c.card, 3, 1, 0, 2, 20, 3, 10, -1, 0, 0, 0, 0, -1, 0, 7, 4);
        Check.same("timer 2 does not run", c.card.timer(2), 0);
        Check.same("THE OUT stays", c.out(), "FFFF");
        c.refused("80C2000005D603990100", 0x6985);
        c.refused("8012000013", 0x6985);
        c.refused("801400000100", 0x6985);
        c.profile(Check.FULL_PROFILE, 0x9000);
        c.event(0, 0x9113);
        Check.same("NUMBER 1", c.card.count(13), 1);
    }

    private static void out() {
        Check c = new Check();
        Check.throwing("out(0) of nothing", NoSuchElementException.class, () -> c.card.out(0));
        c.card.file(0, 1, 1, 3, 1);
        c.tape("00FF80");
        c.card.fill(1, 0);
        c.status("00A4000C020001", 0x9000);
        c.status("00B0000003", 0x9000);
        Check.same("out(0)", c.card.out(0), 0);
        Check.same("out(1)", c.card.out(1), 255);
        Check.same("out(2)", c.card.out(2), 128);
        Check.throwing("out(3)", NoSuchElementException.class, () -> c.card.out(3));
        Check.throwing("out(-1)", NoSuchElementException.class, () -> c.card.out(-1));
        Check.throwing("out lowest", NoSuchElementException.class, () -> c.card.out(Integer.MIN_VALUE));
        Check.throwing("out highest", NoSuchElementException.class, () -> c.card.out(Integer.MAX_VALUE));
        c.refused("00B0000004", 0x6C03);
        Check.throwing("out(0) behind a refusal", NoSuchElementException.class, () -> c.card.out(0));
    }

    private static void counts() {
        Check c = new Check();
        c.card.file(0, 1, 1, 10, 1);
        c.card.file(0, 2, 2, 3, 4);
        c.node(0, 0, "");
        c.item(-1, 1, "");
        c.item(-1, 2, "");
        c.card.feed(0, 0, 0, 0, 0);
        counts(c.card, 3, 1, 2, 0, 20, 3, 10, -1, 0, 0, 0, 0, -1, 0, 0, 22);
        c.profile(Check.FULL_PROFILE, 0x9113);
        counts(c.card, 3, 1, 2, 0, 0, 3, 10, -1, 0, 0, 0, 1, -1, 1, 1, 22);
        c.answers("8012000013", "D011 8103012500 82028182 8500 8F0101 8F0102");
        counts(c.card, 3, 1, 2, 19, 0, 3, 10, -1, 0, 0, 0, 2, -1, 1, 2, 22);
        c.refused("00200001", 0x63C3);
        Check.same("a refusal is not counted", c.card.count(14), 2);
    }

    private static void timers() {
        ChipCard x = new ChipCard();
        Check.same("timer -1", x.timer(-1), -1);
        Check.same("timer 0", x.timer(0), -1);
        Check.same("timer 9", x.timer(9), -1);
        Check.same("timer lowest", x.timer(Integer.MIN_VALUE), -1);
        Check.same("timer highest", x.timer(Integer.MAX_VALUE), -1);
        for (int k = 1; k <= 8; k++) {
            Check.same("timer " + k, x.timer(k), 0);
        }
    }
}
