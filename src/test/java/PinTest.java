/** Promise 15: VERIFY, CHANGE and UNBLOCK. */
public final class PinTest {
    private static final String PIN = "31323334FFFFFFFF";
    private static final String OTHER = "3938373635343332";
    private static final String KEY = "3838383838383838";

    public static void main(String[] args) {
        verify();
        verifyRunsOut();
        change();
        unblock();
        everyByteCounts();
        keyRunsOut();
        triesStayOverReset();
        Check.finish();
    }

    private static void tries(Check c, int pin, int key, int verified) {
        Check.same("TRIES of the PIN", c.card.count(5), pin);
        Check.same("TRIES of the KEY", c.card.count(6), key);
        Check.same("VERIFIED", c.card.count(10), verified);
    }

    private static void verify() {
        Check c = new Check();
        tries(c, 3, 10, 0);
        c.refused("00200101", 0x6A86);
        c.refused("00200000", 0x6A86);
        c.refused("0020000208" + PIN, 0x6A86);
        c.refused("0020000108", 0x6700);
        c.refused("0020000100", 0x6700);
        c.refused("0020000107" + PIN.substring(2), 0x6700);
        c.refused("0020000109" + PIN + "FF", 0x6700);
        c.refused("00200001", 0x63C3);
        c.refused("0020000108" + OTHER, 0x63C2);
        tries(c, 2, 10, 0);
        c.refused("00200001", 0x63C2);
        c.answers("0020000108" + PIN, "");
        tries(c, 3, 10, 1);
        c.answers("00200001", "");
        c.refused("0020000108" + "31323334FFFFFFFE", 0x63C2);
        tries(c, 2, 10, 0);
        c.answers("0020000108" + PIN, "");
        Check.same("done", c.card.count(14), 3);
        c.card.reset();
        tries(c, 3, 10, 0);
        c.refused("00200001", 0x63C3);
    }

    private static void verifyRunsOut() {
        Check c = new Check();
        c.refused("0020000108" + OTHER, 0x63C2);
        c.refused("0020000108" + OTHER, 0x63C1);
        c.refused("0020000108" + OTHER, 0x63C0);
        c.refused("0020000108" + PIN, 0x6983);
        c.refused("0020000107" + PIN.substring(2), 0x6700);
        c.refused("00200001", 0x6983);
        c.refused("0024000110" + PIN + OTHER, 0x6983);
        tries(c, 0, 10, 0);
        c.answers("002C000110" + KEY + OTHER, "");
        tries(c, 3, 10, 1);
    }

    private static void change() {
        Check c = new Check();
        c.refused("00240001", 0x6700);
        c.refused("0024000110", 0x6700);
        c.refused("0024000108" + PIN, 0x6700);
        c.refused("0024000111" + PIN + OTHER + "00", 0x6700);
        c.refused("0024010110" + PIN + OTHER, 0x6A86);
        c.refused("0024000010" + PIN + OTHER, 0x6A86);
        c.answers("0020000108" + PIN, "");
        c.refused("0024000110" + OTHER + OTHER, 0x63C2);
        tries(c, 2, 10, 0);
        c.answers("0024000110" + PIN + OTHER, "");
        tries(c, 3, 10, 1);
        c.refused("0020000108" + PIN, 0x63C2);
        c.answers("0020000108" + OTHER, "");
    }

    private static void unblock() {
        Check c = new Check();
        c.refused("002C0001", 0x6700);
        c.refused("002C000110", 0x6700);
        c.refused("002C000108" + KEY, 0x6700);
        c.refused("002C010110" + KEY + OTHER, 0x6A86);
        c.refused("002C000210" + KEY + OTHER, 0x6A86);
        c.answers("0020000108" + PIN, "");
        c.refused("002C000110" + PIN + OTHER, 0x63C9);
        tries(c, 3, 9, 1);
        c.card.reset();
        c.refused("0020000108" + OTHER, 0x63C2);
        c.refused("002C000110" + PIN + OTHER, 0x63C8);
        tries(c, 2, 8, 0);
        c.answers("002C000110" + KEY + OTHER, "");
        tries(c, 3, 10, 1);
        c.card.reset();
        c.answers("0020000108" + OTHER, "");
    }

    private static void everyByteCounts() {
        for (int i = 0; i < 16; i += 2) {
            Check c = new Check();
            String wrongPin = PIN.substring(0, i) + "AA" + PIN.substring(i + 2);
            String wrongKey = KEY.substring(0, i) + "AA" + KEY.substring(i + 2);
            c.refused("0020000108" + wrongPin, 0x63C2);
            c.refused("0024000110" + wrongPin + OTHER, 0x63C1);
            c.refused("00200001", 0x63C1);
            c.refused("002C000110" + wrongKey + OTHER, 0x63C9);
            c.answers("0024000110" + PIN + wrongPin, "");
            c.answers("0020000108" + wrongPin, "");
        }
    }

    private static void keyRunsOut() {
        Check c = new Check();
        for (int left = 9; left >= 0; left--) {
            c.refused("002C000110" + OTHER + OTHER, 0x63C0 + left);
        }
        c.refused("002C000110" + KEY + OTHER, 0x6983);
        tries(c, 3, 0, 0);
        c.answers("0020000108" + PIN, "");
    }

    private static void triesStayOverReset() {
        Check c = new Check();
        c.refused("0020000108" + OTHER, 0x63C2);
        c.refused("002C000110" + OTHER + OTHER, 0x63C9);
        c.card.reset();
        tries(c, 2, 9, 0);
        c.answers("0024000110" + PIN + OTHER, "");
        c.card.reset();
        c.answers("0020000108" + OTHER, "");
    }
}
