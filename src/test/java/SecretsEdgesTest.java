/** The boundary cases of the PIN and the KEY (term 2), VERIFY, CHANGE and UNBLOCK (term 3). */
public final class SecretsEdgesTest {
    private static final String PIN = "31323334FFFFFFFF";
    private static final String KEY = "3838383838383838";
    private static final String NEW = "3030303030303030";
    private static final String WRONG = "3132333431323334";
    private static final String VERIFY = "00200001";
    private static final String CHANGE = "00240001";
    private static final String UNBLOCK = "002C0001";

    public static void main(String[] args) {
        secretsAtFirst();
        parameters();
        lengthsOfVerify();
        lengthsOfChangeAndUnblock();
        verifyWithoutData();
        everyByteOfASecretCounts();
        triesOfVerify();
        triesOfChange();
        triesOfUnblock();
        aRightOneGivesAllTriesBack();
        aWrongPinIsNotVerifiedAnyMore();
        aWrongKeyLeavesThePin();
        changeTakesTheNewPin();
        unblockTakesTheNewPin();
        triesStayOverReset();
        aRefusalCostsNoTry();
        Check.finish();
    }

    private static void look(String when, Check c, int pinTries, int keyTries, int verified) {
        Check.same(when + " TRIES of the PIN", c.card.count(5), pinTries);
        Check.same(when + " TRIES of the KEY", c.card.count(6), keyTries);
        Check.same(when + " VERIFIED", c.card.count(10), verified);
    }

    private static String verify(String pin) {
        return Check.whole(VERIFY, pin);
    }

    private static String change(String pin, String next) {
        return Check.whole(CHANGE, pin + next);
    }

    private static String unblock(String key, String next) {
        return Check.whole(UNBLOCK, key + next);
    }

    /** The last byte of a secret another, by one. */
    private static String near(String secret) {
        String last = secret.substring(14);
        return secret.substring(0, 14) + Check.hex(Integer.parseInt(last, 16) - 1);
    }

    /** "THE PIN has 8 bytes, three TRIES; at first 31 32 33 34 FF FF FF FF; a KEY of 8 bytes, ten TRIES, at first 38 eight times" */
    private static void secretsAtFirst() {
        Check c = new Check();
        look("new:", c, 3, 10, 0);
        c.refused(verify(near(PIN)), 0x63C2);
        c.answers(verify(PIN), "");
        look("VERIFY:", c, 3, 10, 1);
        Check k = new Check();
        k.refused(unblock(near(KEY), NEW), 0x63C9);
        k.answers(unblock(KEY, NEW), "");
        look("UNBLOCK:", k, 3, 10, 1);
    }

    /** "6A86: P1 is not 00 or P2 not 01" */
    private static void parameters() {
        Check c = new Check();
        String[] commands = {"0020", "0024", "002C"};
        String[] data = {"", "00", "08" + PIN, "08" + WRONG, "10" + PIN + NEW, "10" + KEY + NEW};
        for (String command : commands) {
            for (int p = 0; p <= 255; p++) {
                for (String d : data) {
                    if (p != 0) {
                        c.unchanged(command + Check.hex(p) + "01" + d, 0x6A86);
                    }
                    if (p != 1) {
                        c.unchanged(command + "00" + Check.hex(p) + d, 0x6A86);
                    }
                }
            }
        }
        c.answers(verify(PIN), "");
    }

    /** "6700: not 8 bytes", "Without DATA (and without E)" */
    private static void lengthsOfVerify() {
        Check c = new Check();
        for (int n = 1; n <= 255; n++) {
            if (n != 8) {
                c.unchanged(verify(Check.many("31", n)), 0x6700);
            }
        }
        for (int e = 0; e <= 255; e++) {
            c.unchanged(VERIFY + Check.hex(e), 0x6700);
        }
        c.unchanged(verify(PIN.substring(0, 14)), 0x6700);
        c.unchanged(verify(PIN + "FF"), 0x6700);
        c.answers(verify(PIN), "");
    }

    /** "likewise, but 16 bytes", "(Of 24, 2C 6700 without DATA." */
    private static void lengthsOfChangeAndUnblock() {
        Check c = new Check();
        String[] commands = {CHANGE, UNBLOCK};
        for (String command : commands) {
            c.unchanged(command, 0x6700);
            for (int e = 0; e <= 255; e++) {
                c.unchanged(command + Check.hex(e), 0x6700);
            }
            for (int n = 1; n <= 255; n++) {
                if (n != 16) {
                    c.unchanged(Check.whole(command, Check.many("38", n)), 0x6700);
                }
            }
        }
        c.unchanged(Check.whole(CHANGE, PIN + NEW.substring(2)), 0x6700);
        c.unchanged(Check.whole(CHANGE, PIN + NEW + "00"), 0x6700);
        c.unchanged(Check.whole(UNBLOCK, KEY + NEW.substring(2)), 0x6700);
        c.unchanged(Check.whole(UNBLOCK, KEY + NEW + "00"), 0x6700);
        c.answers(verify(PIN), "");
    }

    /** "9000 if the PIN was VERIFIED since reset(), else 63CX (X TRIES left), 6983 with none" */
    private static void verifyWithoutData() {
        Check c = new Check();
        for (int left = 3; left >= 1; left--) {
            c.unchanged(VERIFY, 0x63C0 + left);
            c.refused(verify(WRONG), 0x63C0 + left - 1);
        }
        c.unchanged(VERIFY, 0x6983);
        c.card.reset();
        c.unchanged(VERIFY, 0x6983);
        c.answers(unblock(KEY, PIN), "");
        c.answers(VERIFY, "");
        c.answers(VERIFY, "");
        look("looking costs nothing:", c, 3, 10, 1);
        c.card.reset();
        c.unchanged(VERIFY, 0x63C3);
    }

    private static void everyByteOfASecretCounts() {
        for (int i = 0; i < 16; i += 2) {
            Check c = new Check();
            c.refused(verify(PIN.substring(0, i) + "35" + PIN.substring(i + 2)), 0x63C2);
            c.refused(change(PIN.substring(0, i) + "35" + PIN.substring(i + 2), NEW), 0x63C1);
            c.refused(unblock(KEY.substring(0, i) + "35" + KEY.substring(i + 2), NEW), 0x63C9);
            c.answers(change(PIN, NEW.substring(0, i) + "35" + NEW.substring(i + 2)), "");
            c.refused(verify(NEW), 0x63C2);
            c.answers(verify(NEW.substring(0, i) + "35" + NEW.substring(i + 2)), "");
        }
    }

    /** "6983: no TRIES. 63CX: not the PIN: one TRY less, X are left" */
    private static void triesOfVerify() {
        Check c = new Check();
        for (int left = 2; left >= 0; left--) {
            c.refused(verify(near(PIN)), 0x63C0 + left);
            look("wrong:", c, left, 10, 0);
        }
        for (int i = 0; i < 3; i++) {
            c.unchanged(verify(near(PIN)), 0x6983);
            c.unchanged(verify(PIN), 0x6983);
        }
        c.unchanged(verify(PIN + "FF"), 0x6700);
    }

    private static void triesOfChange() {
        Check c = new Check();
        for (int left = 2; left >= 0; left--) {
            c.refused(change(near(PIN), NEW), 0x63C0 + left);
            look("wrong:", c, left, 10, 0);
        }
        c.unchanged(change(PIN, NEW), 0x6983);
        c.unchanged(change(near(PIN), NEW), 0x6983);
        c.unchanged(verify(NEW), 0x6983);
        c.unchanged(CHANGE, 0x6700);
        c.answers(unblock(KEY, PIN), "");
        c.answers(change(PIN, NEW), "");
    }

    private static void triesOfUnblock() {
        Check c = new Check();
        for (int left = 9; left >= 0; left--) {
            c.refused(unblock(near(KEY), NEW), 0x63C0 + left);
            look("wrong:", c, 3, left, 0);
        }
        c.unchanged(unblock(KEY, NEW), 0x6983);
        c.unchanged(unblock(near(KEY), NEW), 0x6983);
        c.unchanged(UNBLOCK, 0x6700);
        c.card.reset();
        c.unchanged(unblock(KEY, NEW), 0x6983);
        c.answers(verify(PIN), "");
        c.answers(change(PIN, NEW), "");
    }

    /** "DONE: VERIFIED, three TRIES", "(ten again" */
    private static void aRightOneGivesAllTriesBack() {
        for (int wrong = 0; wrong <= 2; wrong++) {
            Check c = new Check();
            Check d = new Check();
            for (int i = 0; i < wrong; i++) {
                c.command(verify(WRONG));
                d.command(change(WRONG, NEW));
            }
            look("behind wrong ones:", c, 3 - wrong, 10, 0);
            c.answers(verify(PIN), "");
            look("VERIFY:", c, 3, 10, 1);
            d.answers(change(PIN, NEW), "");
            look("CHANGE:", d, 3, 10, 1);
        }
        for (int wrong = 0; wrong <= 9; wrong++) {
            Check c = new Check();
            for (int i = 0; i < wrong; i++) {
                c.command(unblock(WRONG, NEW));
            }
            look("behind wrong ones:", c, 3, 10 - wrong, 0);
            c.answers(unblock(KEY, NEW), "");
            look("UNBLOCK:", c, 3, 10, 1);
        }
    }

    /** "it is not VERIFIED any more" */
    private static void aWrongPinIsNotVerifiedAnyMore() {
        Check c = new Check();
        c.answers(verify(PIN), "");
        c.refused(verify(WRONG), 0x63C2);
        look("VERIFY:", c, 2, 10, 0);
        c.answers(verify(PIN), "");
        c.refused(change(WRONG, NEW), 0x63C2);
        look("CHANGE:", c, 2, 10, 0);
        c.unchanged(VERIFY, 0x63C2);
    }

    /** "a wrong KEY leaves the PIN as it was" */
    private static void aWrongKeyLeavesThePin() {
        for (int verified = 0; verified <= 1; verified++) {
            for (int wrong = 0; wrong <= 3; wrong++) {
                Check c = new Check();
                if (verified == 1) {
                    c.answers(verify(PIN), "");
                } else {
                    for (int i = 0; i < wrong; i++) {
                        c.command(verify(WRONG));
                    }
                }
                int tries = verified == 1 ? 3 : 3 - wrong;
                c.refused(unblock(PIN, NEW), 0x63C9);
                look("a wrong KEY:", c, tries, 9, verified);
                c.status(verify(PIN), tries == 0 ? 0x6983 : 0x9000);
            }
        }
    }

    private static void changeTakesTheNewPin() {
        Check c = new Check();
        c.answers(change(PIN, NEW), "");
        c.refused(verify(PIN), 0x63C2);
        c.refused(change(PIN, PIN), 0x63C1);
        c.answers(verify(NEW), "");
        c.answers(change(NEW, NEW), "");
        c.answers(change(NEW, "00FF00FF00FF00FF"), "");
        c.answers(verify("00FF00FF00FF00FF"), "");
        c.answers(unblock(KEY, PIN), "");
        c.answers(verify(PIN), "");
        Check refused = new Check();
        refused.refused(change(WRONG, NEW), 0x63C2);
        refused.refused(verify(NEW), 0x63C1);
        refused.answers(verify(PIN), "");
    }

    /** "the PIN is the new one, VERIFIED, three TRIES" */
    private static void unblockTakesTheNewPin() {
        for (int wrong = 0; wrong <= 3; wrong++) {
            Check c = new Check();
            for (int i = 0; i < wrong; i++) {
                c.command(verify(WRONG));
            }
            c.answers(unblock(KEY, NEW), "");
            look("UNBLOCK:", c, 3, 10, 1);
            c.answers(VERIFY, "");
            c.refused(verify(PIN), 0x63C2);
            c.answers(verify(NEW), "");
        }
        Check refused = new Check();
        refused.refused(unblock(WRONG, NEW), 0x63C9);
        refused.refused(verify(NEW), 0x63C2);
        refused.answers(unblock(KEY, NEW), "");
        refused.answers(unblock(KEY, PIN), "");
        refused.answers(verify(PIN), "");
    }

    /** "TRIES stay over reset()" */
    private static void triesStayOverReset() {
        Check c = new Check();
        for (int left = 2; left >= 0; left--) {
            c.refused(verify(WRONG), 0x63C0 + left);
            c.card.reset();
            look("reset:", c, left, 10, 0);
        }
        c.unchanged(verify(PIN), 0x6983);
        for (int left = 9; left >= 0; left--) {
            c.refused(unblock(WRONG, NEW), 0x63C0 + left);
            c.card.reset();
            look("reset:", c, 0, left, 0);
        }
        c.unchanged(unblock(KEY, NEW), 0x6983);
        c.unchanged(VERIFY, 0x6983);
    }

    private static void aRefusalCostsNoTry() {
        Check c = new Check();
        c.answers(verify(PIN), "");
        String[] refused = {"0020000207" + PIN.substring(2), Check.whole(VERIFY, WRONG + "00"), Check.whole(CHANGE, WRONG),
            Check.whole(UNBLOCK, WRONG), VERIFY + "08", CHANGE, UNBLOCK + "10", "0024010110" + WRONG + NEW, "002C010110" + WRONG + NEW};
        for (String hex : refused) {
            c.refused(hex, hex.substring(4, 8).equals("0001") ? 0x6700 : 0x6A86);
            look(hex, c, 3, 10, 1);
        }
    }
}
