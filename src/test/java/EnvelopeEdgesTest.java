/** The boundary cases of ENVELOPE (term 4): its form, and MENU SELECTION, EVENT, TIMER. */
public final class EnvelopeEdgesTest {
    public static void main(String[] args) {
        dataIsNeeded();
        firstBytes();
        justSoManyBytes();
        formsOfTheLength();
        formIsAskedFirst();
        noProfileYet();
        somethingIsPending();
        menuNeedsAnItem();
        lengthsOfTheItem();
        itemsOfTheMenu();
        eventNeedsOne();
        lengthsOfTheEvent();
        events();
        timerNeedsOne();
        lengthsOfTheTimer();
        timersThatRun();
        aTimerRunsNoMore();
        refusedTimersRunOn();
        nodesThatFailAtOnce();
        Check.finish();
    }

    /**
     * NODE 0 a REFRESH, NODE 1 a TIMER, NODE 2 a DISPLAY. The MENU has ITEMS 1, 7 and 255, which GO to NODE 0, nowhere, to
     * NODE 2. EVENTS 0 and 31 have NODE 0. The PROFILE has all TYPES but the MENU's.
     */
    private static Check ready() {
        Check c = new Check();
        c.node(5, 0, "");
        c.node(4, 0, "");
        c.node(0, 0, "");
        c.item(-1, 1, "");
        c.item(-1, 7, "");
        c.item(-1, 255, "");
        c.card.pick(-1, 1, 0);
        c.card.pick(-1, 255, 2);
        c.card.by(0, 0, 0);
        c.card.by(0, 31, 0);
        c.profile("FFFFFFFFDF", 0x9000);
        return c;
    }

    private static String envelope(String data) {
        return Check.whole("80C20000", data);
    }

    private static void refuses(Check c, String data, int due) {
        c.unchanged(envelope(data), due);
    }

    private static void starts(Check c, String data, int node) {
        int[] sizes = {0x910B, 0x9113, 0x910E};
        c.status(envelope(data), node < 0 ? 0x9000 : sizes[node]);
        Check.same("NODE behind " + data, c.card.count(12), node);
        Check.same("PENDING behind " + data, c.card.count(11), node < 0 ? 0 : 1);
        Check.same("THE OUT behind " + data, c.card.count(3), 0);
    }

    /** TIMER k runs. */
    private static void run(Check c, int k) {
        c.card.with(1, k, 1, -1);
        c.card.by(0, 20, 1);
        c.event(20, 0x9113);
        c.fetch();
        c.respond(0x27, 0, "00", "", 0x9000);
        c.card.by(0, 20, -1);
        Check.same("TIMER " + k + " runs", c.card.timer(k), 1);
    }

    /** "ENVELOPE, DATA (6700: none)" */
    private static void dataIsNeeded() {
        Check bare = new Check();
        bare.unchanged("80C20000", 0x6700);
        bare.unchanged("80C2000000", 0x6700);
        Check c = ready();
        c.unchanged("80C20000", 0x6700);
        for (int e = 0; e <= 255; e += 15) {
            c.unchanged("80C20000" + Check.hex(e), 0x6700);
        }
        starts(c, "D603990100", 0);
    }

    /** "or another byte than D1, D3, D6, D7" */
    private static void firstBytes() {
        Check c = ready();
        for (int b = 0; b <= 255; b++) {
            boolean isOne = b == 0xD1 || b == 0xD3 || b == 0xD6 || b == 0xD7;
            refuses(c, Check.hex(b) + "00", isOne ? 0x6A88 : 0x6A80);
            if (!isOne) {
                refuses(c, Check.hex(b) + "03990100", 0x6A80);
                refuses(c, Check.hex(b) + "02EE00", 0x6A80);
            }
        }
    }

    /** "a byte, a length as of TLVS, and just so many bytes" */
    private static void justSoManyBytes() {
        Check c = ready();
        String[] wrong = {"D6", "D601", "D602", "D60399", "D6039901", "D602990100", "D604990100", "D600990100", "D6FF990100",
            "D60399010000", "D6039901008200", "D605990100", "D605990100 82"};
        for (String data : wrong) {
            refuses(c, data, 0x6A80);
        }
        starts(c, "D603990100", 0);
    }

    private static void formsOfTheLength() {
        Check c = ready();
        for (int n = 0; n <= 0x7F; n++) {
            refuses(c, "D681" + Check.hex(n) + Check.many("02", n), 0x6A80);
            refuses(c, "D681" + Check.hex(n) + "990100", 0x6A80);
        }
        refuses(c, "D681", 0x6A80);
        refuses(c, "D68103990100", 0x6A80);
        refuses(c, "D682000399 0100", 0x6A80);
        refuses(c, "D680990100", 0x6A80);
        refuses(c, "D680" + "990100" + "027B" + Check.many("00", 123), 0x6A80);
        int[] lengths = {0x7E, 0x7F, 0x80, 0x81, 0xFB, 0xFC};
        for (int n : lengths) {
            String head = "D6" + (n < 0x80 ? "" : "81") + Check.hex(n) + "990100";
            String rest = n - 5 < 0x80 ? "02" + Check.hex(n - 5) : "0281" + Check.hex(n - 6);
            int filled = n - 5 < 0x80 ? n - 5 : n - 6;
            starts(ready(), head + rest + Check.many("00", filled), 0);
            refuses(c, head + rest + Check.many("00", filled - 1), 0x6A80);
            if (n < 0xFC) {
                refuses(c, head + rest + Check.many("00", filled + 1), 0x6A80);
            }
        }
    }

    /** 6A80 of the form ahead of 6985, 9300, 6A81, 6A88. */
    private static void formIsAskedFirst() {
        Check bare = new Check();
        refuses(bare, "D5", 0x6A80);
        refuses(bare, "D500", 0x6A80);
        refuses(bare, "D601", 0x6A80);
        refuses(bare, "D60100", 0x6A80);
        refuses(bare, "D600", 0x6985);
        Check c = ready();
        starts(c, "D603990100", 0);
        refuses(c, "D500", 0x6A80);
        refuses(c, "D60100", 0x6A80);
        refuses(c, "D603990100EE", 0x6A80);
        refuses(c, "D600", 0x9300);
    }

    /** "6985: there was no TERMINAL PROFILE since reset()" */
    private static void noProfileYet() {
        Check c = new Check();
        String[] all = {"D100", "D300", "D600", "D700", "D6039901FF", "D602EE00", "D303900101"};
        for (String data : all) {
            refuses(c, data, 0x6985);
        }
        c.unchanged("80100000", 0x6700);
        refuses(c, "D6039901FF", 0x6985);
        c.profile("00", 0x9000);
        starts(c, "D6039901FF", ChipCard.NONE);
        c.card.reset();
        for (String data : all) {
            refuses(c, data, 0x6985);
        }
        c.profile("00", 0x9000);
        starts(c, "D6039901FF", ChipCard.NONE);
    }

    /** "9300: something is PENDING or FETCHED" */
    private static void somethingIsPending() {
        String[] all = {"D100", "D300", "D600", "D700", "D6039901FF", "D602EE00", "D303900101", "D703A40103"};
        Check c = ready();
        run(c, 3);
        starts(c, "D603990100", 0);
        for (String data : all) {
            refuses(c, data, 0x9300);
        }
        c.fetch();
        for (String data : all) {
            refuses(c, data, 0x9300);
        }
        c.respond(0x01, 0, "20", "", 0x910B);
        for (String data : all) {
            refuses(c, data, 0x9300);
        }
        c.fetch();
        c.respond(0x01, 0, "00", "", 0x9000);
        starts(c, "D703A40103", ChipCard.NONE);
        Check menu = new Check();
        menu.item(-1, 1, "");
        menu.profile(Check.FULL_PROFILE, 0x9110);
        refuses(menu, "D303900101", 0x9300);
        menu.fetch();
        refuses(menu, "D303900101", 0x9300);
    }

    /** "6A88 (what is told is not there)" */
    private static void menuNeedsAnItem() {
        Check c = ready();
        refuses(c, "D300", 0x6A88);
        refuses(c, "D3028200", 0x6A88);
        refuses(c, "D3029500", 0x6A88);
        refuses(c, "D303150101", 0x6A88);
        refuses(c, "D303190101", 0x6A88);
        starts(c, "D305900101 1500", 0);
    }

    /** "10 (one byte)", "6A80 (it has another length)" */
    private static void lengthsOfTheItem() {
        Check c = ready();
        String[] wrong = {"9000", "90020101", "9003010101", "1000 900101", "900201FF 900101"};
        for (String list : wrong) {
            refuses(c, "D3" + Check.hex(Check.bytes(list).length) + list, 0x6A80);
        }
        starts(c, "D303100101", 0);
    }

    /** "an ITEM of the MENU (6A80: none)" */
    private static void itemsOfTheMenu() {
        for (int identifier = 0; identifier <= 255; identifier++) {
            Check c = ready();
            String data = "D3039001" + Check.hex(identifier);
            if (identifier == 1) {
                starts(c, data, 0);
            } else if (identifier == 7) {
                starts(c, data, ChipCard.NONE);
            } else if (identifier == 255) {
                starts(c, data, 2);
            } else {
                refuses(c, data, 0x6A80);
            }
        }
        Check empty = new Check();
        empty.profile(Check.FULL_PROFILE, 0x9000);
        refuses(empty, "D303900101", 0x6A80);
        empty.item(-1, 1, "");
        starts(empty, "D303900101", ChipCard.NONE);
    }

    private static void eventNeedsOne() {
        Check c = ready();
        refuses(c, "D600", 0x6A88);
        refuses(c, "D6028200", 0x6A88);
        refuses(c, "D603100100", 0x6A88);
        starts(c, "D6058200190100", 0);
    }

    /** "19 (one byte or more; the first is the EVENT)" */
    private static void lengthsOfTheEvent() {
        Check c = ready();
        refuses(c, "D6029900", 0x6A80);
        refuses(c, "D6051900990100", 0x6A80);
        starts(c, "D60499020005", 0);
        starts(ready(), "D604990205 00", ChipCard.NONE);
        starts(ready(), "D68181" + "997F" + "00" + Check.many("05", 126), 0);
        starts(ready(), "D68183" + "998180" + "1F" + Check.many("05", 127), 0);
    }

    /** "its NODE, if there is one, is STARTED" */
    private static void events() {
        for (int k = 0; k <= 255; k++) {
            starts(ready(), "D6039901" + Check.hex(k), k == 0 || k == 31 ? 0 : ChipCard.NONE);
        }
        Check c = ready();
        for (int k = 0; k <= 31; k++) {
            c.card.by(0, k, 0);
        }
        starts(c, "D603990120", ChipCard.NONE);
        starts(c, "D6039901FF", ChipCard.NONE);
        starts(c, "D603990180", ChipCard.NONE);
        starts(c, "D60399011E", 0);
    }

    private static void timerNeedsOne() {
        Check c = ready();
        run(c, 1);
        refuses(c, "D700", 0x6A88);
        refuses(c, "D7028200", 0x6A88);
        refuses(c, "D702A500", 0x6A88);
        refuses(c, "D703250101", 0x6A88);
        starts(c, "D705A40101A500", ChipCard.NONE);
    }

    /** "24 (one byte)" */
    private static void lengthsOfTheTimer() {
        Check c = ready();
        run(c, 1);
        String[] wrong = {"A400", "A4020101", "A403010101", "2400 A40101", "A4020100 A40101"};
        for (String list : wrong) {
            refuses(c, "D7" + Check.hex(Check.bytes(list).length) + list, 0x6A80);
        }
        starts(c, "D703240101", ChipCard.NONE);
    }

    /** "a TIMER that runs (6A80: none)" */
    private static void timersThatRun() {
        for (int running = 1; running <= 8; running++) {
            Check c = ready();
            run(c, running);
            for (int k = 0; k <= 255; k++) {
                if (k != running) {
                    refuses(c, "D703A401" + Check.hex(k), 0x6A80);
                }
            }
            Check.same("runs on", c.card.timer(running), 1);
            starts(c, "D703A401" + Check.hex(running), ChipCard.NONE);
        }
    }

    /** "It runs no more; its NODE, if there is one, is STARTED." */
    private static void aTimerRunsNoMore() {
        for (int k = 1; k <= 8; k++) {
            Check c = ready();
            run(c, k);
            int other = k % 8 + 1;
            run(c, other);
            starts(c, "D703A401" + Check.hex(k), ChipCard.NONE);
            Check.same("no more", c.card.timer(k), 0);
            Check.same("the other one does", c.card.timer(other), 1);
            refuses(c, "D703A401" + Check.hex(k), 0x6A80);
            c.card.by(1, other, 0);
            starts(c, "D703A401" + Check.hex(other), 0);
            Check.same("no more", c.card.timer(other), 0);
        }
    }

    private static void refusedTimersRunOn() {
        Check c = ready();
        run(c, 4);
        c.card.by(1, 4, 0);
        String[] refused = {"D703A40103", "D700", "D705A40104EE00", "D704A4020404", "D703A40104EE", "D703A401"};
        int[] due = {0x6A80, 0x6A88, 0x6A81, 0x6A80, 0x6A80, 0x6A80};
        for (int i = 0; i < refused.length; i++) {
            refuses(c, refused[i], due[i]);
            Check.same("runs on", c.card.timer(4), 1);
        }
        starts(c, "D603990100", 0);
        refuses(c, "D703A40104", 0x9300);
        Check.same("runs on", c.card.timer(4), 1);
    }

    /** What is STARTED can FAIL at once: the ENVELOPE is DONE all the same. */
    private static void nodesThatFailAtOnce() {
        Check c = ready();
        c.card.by(1, 2, 2);
        c.card.by(0, 5, 2);
        c.profile("0200000080", 0x9000);
        run(c, 2);
        starts(c, "D703A40102", ChipCard.NONE);
        Check.same("it runs no more", c.card.timer(2), 0);
        starts(c, "D603990105", ChipCard.NONE);
        starts(c, "D3039001FF", ChipCard.NONE);
        c.card.goes(2, 3, 0);
        starts(c, "D3039001FF", 0);
        c.profile("02", 0x9000);
        starts(c, "D603990105", 0);
    }
}
