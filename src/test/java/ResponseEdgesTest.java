/** The boundary cases of TERMINAL RESPONSE (term 4). */
public final class ResponseEdgesTest {
    private static final int[] TYPES = {0x21, 0x23, 0x24, 0x13, 0x27, 0x01, 0x26, 0x05};

    public static void main(String[] args) {
        dataIsNeeded();
        nothingIsFetched();
        whatIsAskedFirst();
        commandDetails();
        everySortIsAnswered();
        theMenuIsAnswered();
        resultHasAByte();
        results();
        repeatedTwice();
        repeatsAreCountedAnew();
        aRepeatAsksForNothingMore();
        aRefusalIsNoRepeat();
        choiceNeedsAnItem();
        choiceGoesByItsItem();
        choiceAsksOnlyIfOk();
        inputNeedsText();
        inputFillsItsFile();
        infoNeedsInfo();
        infoFillsItsFile();
        largeFiles();
        otherKindsAreNotWritten();
        onlyOkWrites();
        leastOfTimers();
        qualifiersOfTimers();
        onlyOkRunsTimers();
        whereItGoes();
        Check.finish();
    }

    /**
     * NODE 0 of a SORT is FETCHED with NUMBER 1; by each OUTCOME o it GOES to NODE o + 1, a REFRESH.
     * FILE 1 has 4 BYTES 5A, FILE 2 is a DIRECTORY, 3 RECORDS, 4 a RING.
     */
    private static Check fetched(int sort, int qualifier) {
        Check c = new Check();
        c.card.file(0, 1, 1, 4, 1);
        c.card.file(0, 0, 2, 0, 0);
        c.card.file(0, 2, 3, 2, 2);
        c.card.file(0, 3, 4, 2, 2);
        c.tape("5A5A5A5A");
        c.card.fill(1, 0);
        c.node(sort, qualifier, "");
        for (int o = 0; o < 4; o++) {
            c.node(5, o, "");
            c.card.goes(0, o, o + 1);
        }
        c.card.by(0, 0, 0);
        c.profile(Check.FULL_PROFILE, 0x9000);
        c.send("80C20000", "D603990100");
        c.fetch();
        return c;
    }

    private static String response(String list) {
        return Check.whole("80140000", list);
    }

    /** About NODE 0 with a RESULT, and tags behind it. */
    private static String about(int number, int sort, int qualifier, String result, String more) {
        return response("8103" + Check.hex(number) + Check.hex(TYPES[sort]) + Check.hex(qualifier) + "8301" + result + more);
    }

    private static void refuses(Check c, String hex, int due) {
        c.unchanged(hex, due);
        Check.same("still FETCHED", c.card.count(11), 2);
    }

    private static void goesTo(Check c, String hex, int node) {
        c.status(hex, node == ChipCard.NONE ? 0x9000 : 0x910B);
        Check.same("NODE behind " + hex, c.card.count(12), node);
        Check.same("PENDING behind " + hex, c.card.count(11), node == ChipCard.NONE ? 0 : 1);
        Check.same("THE OUT behind " + hex, c.card.count(3), 0);
    }

    /** "TERMINAL RESPONSE, DATA (6700: none)" */
    private static void dataIsNeeded() {
        Check bare = new Check();
        bare.unchanged("80140000", 0x6700);
        bare.unchanged("8014000000", 0x6700);
        Check c = fetched(0, 0);
        refuses(c, "80140000", 0x6700);
        for (int e = 0; e <= 255; e += 15) {
            refuses(c, "80140000" + Check.hex(e), 0x6700);
        }
        goesTo(c, about(1, 0, 0, "00", ""), 1);
    }

    /** "6985: nothing is FETCHED" */
    private static void nothingIsFetched() {
        Check bare = new Check();
        bare.unchanged(response("00"), 0x6985);
        bare.unchanged(about(0, 0, 0, "00", ""), 0x6985);
        bare.profile("FF", 0x9000);
        bare.unchanged(about(0, 0, 0, "00", ""), 0x6985);
        Check c = fetched(0, 0);
        goesTo(c, about(1, 0, 0, "00", ""), 1);
        c.unchanged(about(2, 5, 0, "00", ""), 0x6985);
        c.unchanged(response("00"), 0x6985);
        c.fetch();
        goesTo(c, about(2, 5, 0, "00", ""), ChipCard.NONE);
        c.unchanged(about(2, 5, 0, "00", ""), 0x6985);
        c.unchanged(about(0, 5, 0, "00", ""), 0x6985);
    }

    /** 6700, 6985, 6A80, 6A81, 6A88, 6A80, and behind them what OK asks. */
    private static void whatIsAskedFirst() {
        Check c = fetched(2, 0);
        refuses(c, response("EE00 8100 00"), 0x6A80);
        refuses(c, response("EE00"), 0x6A81);
        refuses(c, response("EE00 8100 8300"), 0x6A81);
        refuses(c, response("8100"), 0x6A88);
        refuses(c, response("8300"), 0x6A88);
        refuses(c, response("8100 8300"), 0x6A80);
        refuses(c, response("8103092400 830100"), 0x6A80);
        refuses(c, response("8103012400 830100"), 0x6A88);
        refuses(c, response("8103012400 830100 9000"), 0x6A80);
    }

    /** "6A88: there is no 01, or no 03. 6A80: 01 is not NUMBER, TYPE, QUALIFIER (3 bytes)" */
    private static void commandDetails() {
        Check c = fetched(0, 0x7F);
        refuses(c, response("830100"), 0x6A88);
        refuses(c, response("810301217F"), 0x6A88);
        refuses(c, response("8200"), 0x6A88);
        String[] wrong = {"8100", "810101", "81020121", "810401217F00", "8104" + "00" + "01217F", "810300217F", "810302217F",
            "8103FF217F", "810301207F", "810301227F", "810301A17F", "810301217E", "8103012180", "81030121FF", "81037F2101"};
        for (String tlv : wrong) {
            refuses(c, response(tlv + "830100"), 0x6A80);
            refuses(c, response("830100" + tlv), 0x6A80);
        }
        goesTo(c, response("830100 010301217F"), 1);
    }

    private static void everySortIsAnswered() {
        int[] qualifiers = {0, 1, 255};
        for (int sort = 0; sort < 8; sort++) {
            for (int qualifier : qualifiers) {
                Check c = fetched(sort, qualifier);
                refuses(c, about(1, sort, qualifier ^ 1, "30", ""), 0x6A80);
                refuses(c, about(1, (sort + 1) % 8, qualifier, "30", ""), 0x6A80);
                refuses(c, about(2, sort, qualifier, "30", ""), 0x6A80);
                goesTo(c, about(1, sort, qualifier, "30", ""), 4);
            }
        }
    }

    private static void theMenuIsAnswered() {
        String[] results = {"00", "0F", "10", "11", "13", "14", "30", "FF"};
        for (String result : results) {
            Check c = new Check();
            c.node(5, 0, "");
            c.item(-1, 1, "");
            c.card.pick(-1, 1, 0);
            c.profile(Check.FULL_PROFILE, 0x9110);
            c.fetch();
            c.unchanged(response("8103012501 8301" + result), 0x6A80);
            c.unchanged(response("8103012400 8301" + result), 0x6A80);
            goesTo(c, response("8103012500 8301" + result + "900101"), ChipCard.NONE);
        }
        Check c = new Check();
        c.item(-1, 1, "");
        c.profile(Check.FULL_PROFILE, 0x9110);
        for (int i = 1; i <= 3; i++) {
            Check.same("NUMBER", c.card.count(13), i);
            c.fetch();
            c.status(response("8103" + Check.hex(i) + "2500 830120"), i < 3 ? 0x9110 : 0x9000);
        }
    }

    /** "03 has no byte", "The first byte of 03 is the RESULT" */
    private static void resultHasAByte() {
        Check c = fetched(0, 0);
        refuses(c, response("8103012100 8300"), 0x6A80);
        refuses(c, response("8103012100 0300 830100"), 0x6A80);
        goesTo(c, response("8103012100 830111"), 2);
        goesTo(fetched(0, 0), response("8103012100 83021100"), 2);
        goesTo(fetched(0, 0), response("8103012100 838180 12" + Check.many("11", 127)), 3);
    }

    /** "00 .. 0F OK; 11 BACK; 10, 12, 13 ENDED; 20 .. 2F: it is PENDING again ...; else, and all others, FAILED" */
    private static void results() {
        for (int result = 0; result <= 255; result++) {
            Check c = fetched(0, 0);
            String hex = about(1, 0, 0, Check.hex(result), "");
            if (result >= 0x20 && result <= 0x2F) {
                c.status(hex, 0x910E);
                Check.same("it again", c.card.count(12), 0);
                Check.same("PENDING", c.card.count(11), 1);
                Check.same("the next NUMBER", c.card.count(13), 2);
            } else if (result <= 0x0F) {
                goesTo(c, hex, 1);
            } else if (result <= 0x13) {
                goesTo(c, hex, result == 0x11 ? 2 : 3);
            } else {
                goesTo(c, hex, 4);
            }
        }
    }

    /** "with the next NUMBER, the first two times; else ... FAILED" */
    private static void repeatedTwice() {
        String[] last = {"20", "2F", "00", "10", "11", "30"};
        int[] due = {4, 4, 1, 3, 2, 4};
        for (int i = 0; i < last.length; i++) {
            Check c = fetched(0, 0);
            for (int number = 1; number <= 2; number++) {
                c.status(about(number, 0, 0, number == 1 ? "2F" : "20", ""), 0x910E);
                Check.same("PENDING again", c.card.count(11), 1);
                Check.same("NUMBER", c.card.count(13), number + 1);
                c.fetches("D00C 8103" + Check.hex(number + 1) + "2100 82028102 8D0104");
                refuses(c, about(number, 0, 0, "00", ""), 0x6A80);
            }
            goesTo(c, about(3, 0, 0, last[i], ""), due[i]);
            Check.same("NUMBER", c.card.count(13), 4);
        }
    }

    private static void repeatsAreCountedAnew() {
        Check c = fetched(0, 0);
        c.card.goes(0, 3, 0);
        int number = 1;
        for (int round = 0; round < 3; round++) {
            for (int i = 0; i < 3; i++) {
                c.status(about(number, 0, 0, "20", ""), 0x910E);
                number++;
                Check.same("NUMBER", c.card.count(13), number);
                c.fetch();
            }
        }
        c.card.goes(0, 3, 4);
        c.profile(Check.FULL_PROFILE, 0x9000);
        c.event(0, 0x910E);
        for (int i = 1; i <= 2; i++) {
            c.fetch();
            c.status(about(i, 0, 0, "20", ""), 0x910E);
        }
        c.fetch();
        goesTo(c, about(3, 0, 0, "20", ""), 4);
    }

    private static void aRepeatAsksForNothingMore() {
        Check choice = fetched(2, 0);
        choice.status(about(1, 2, 0, "20", ""), 0x910B);
        Check input = fetched(1, 0);
        input.card.with(0, 0, 0, 1);
        input.status(about(1, 1, 0, "2F", "8D020441"), 0x9112);
        Check.same("nothing is written", input.fileBytes(1), "5A5A5A5A");
        Check timer = fetched(4, 0);
        timer.card.with(0, 1, 0, -1);
        timer.status(about(1, 4, 0, "20", ""), 0x9113);
        Check.same("no TIMER runs", timer.card.timer(1), 0);
    }

    private static void aRefusalIsNoRepeat() {
        Check c = fetched(0, 0);
        for (int i = 0; i < 4; i++) {
            refuses(c, about(2, 0, 0, "20", ""), 0x6A80);
            refuses(c, about(1, 0, 0, "20", "EE00"), 0x6A81);
            refuses(c, response("830120"), 0x6A88);
        }
        c.status(about(1, 0, 0, "20", ""), 0x910E);
        c.fetch();
        c.status(about(2, 0, 0, "20", ""), 0x910E);
        c.fetch();
        goesTo(c, about(3, 0, 0, "20", ""), 4);
    }

    /** "CHOICE: 6A88: no 10; 6A80: 10 has not just one byte, or not an ITEM's" */
    private static void choiceNeedsAnItem() {
        Check c = fetched(2, 0);
        refuses(c, about(1, 2, 0, "00", "900101"), 0x6A80);
        c.item(0, 1, "");
        c.item(0, 255, "");
        refuses(c, about(1, 2, 0, "00", ""), 0x6A88);
        refuses(c, about(1, 2, 0, "0F", ""), 0x6A88);
        String[] wrong = {"9000", "90020101", "9002FFFF", "9003010101", "900100", "900102", "9001FE", "9000 900101", "9001FE 9001FF"};
        for (String tag : wrong) {
            refuses(c, about(1, 2, 0, "00", tag), 0x6A80);
            refuses(c, about(1, 2, 0, "0F", tag), 0x6A80);
        }
        goesTo(c, about(1, 2, 0, "0F", "1001FF"), ChipCard.NONE);
    }

    /** "where it GOES (of a CHOICE with OK: by its ITEM) is STARTED" */
    private static void choiceGoesByItsItem() {
        for (int i = 1; i <= 5; i++) {
            Check c = fetched(2, 0);
            for (int k = 1; k <= 5; k++) {
                c.item(0, 10 * k, "");
                if (k < 5) {
                    c.card.pick(0, 10 * k, 5 - k);
                }
            }
            goesTo(c, about(1, 2, 0, "00", "9001" + Check.hex(10 * i)), i == 5 ? ChipCard.NONE : 5 - i);
        }
    }

    private static void choiceAsksOnlyIfOk() {
        String[] results = {"10", "11", "12", "13", "14", "30"};
        int[] due = {3, 2, 3, 3, 4, 4};
        for (int i = 0; i < results.length; i++) {
            Check c = fetched(2, 0);
            c.item(0, 1, "");
            goesTo(c, about(1, 2, 0, results[i], ""), due[i]);
            Check d = fetched(2, 0);
            d.item(0, 1, "");
            goesTo(d, about(1, 2, 0, results[i], "9002FFFF"), due[i]);
        }
    }

    /** "INPUT, INFO with a FILE: 6A88: no 0D (INFO: 13)" */
    private static void inputNeedsText() {
        goesTo(fetched(1, 0), about(1, 1, 0, "00", ""), 1);
        for (int file = 0; file <= 4; file++) {
            Check c = fetched(1, 0);
            c.card.with(0, 0, 0, file);
            refuses(c, about(1, 1, 0, "00", ""), 0x6A88);
            refuses(c, about(1, 1, 0, "0F", "930141"), 0x6A88);
            goesTo(c, about(1, 1, 0, "00", "8D00"), 1);
        }
        Check c = fetched(1, 0);
        c.card.with(0, 0, 0, 1);
        goesTo(c, about(1, 1, 0, "11", ""), 2);
        Check.same("nothing is written", c.fileBytes(1), "5A5A5A5A");
    }

    private static void fills(int sort, String tags, String due) {
        Check c = fetched(sort, 0);
        c.card.with(0, 0, 0, 1);
        goesTo(c, about(1, sort, 0, "00", tags), 1);
        Check.same("the FILE behind " + tags, c.fileBytes(1), due);
    }

    /** "The bytes behind the first one of 0D (none, if it has none ..., what is behind them there is FF" */
    private static void inputFillsItsFile() {
        fills(1, "8D00", "FFFFFFFF");
        fills(1, "8D0104", "FFFFFFFF");
        fills(1, "8D020401", "01FFFFFF");
        fills(1, "8D0404010203", "010203FF");
        fills(1, "8D050401020304", "01020304");
        fills(1, "8D06040102030405", "01020304");
        fills(1, "8D8180" + "04" + Check.many("09", 127), "09090909");
        fills(1, "0D020001", "01FFFFFF");
        fills(1, "8D02FF00", "00FFFFFF");
        fills(1, "8D00 8D020401", "FFFFFFFF");
    }

    private static void infoNeedsInfo() {
        goesTo(fetched(6, 0), about(1, 6, 0, "00", ""), 1);
        for (int file = 0; file <= 4; file++) {
            Check c = fetched(6, 0);
            c.card.with(0, 0, 0, file);
            refuses(c, about(1, 6, 0, "00", ""), 0x6A88);
            refuses(c, about(1, 6, 0, "0F", "8D0141"), 0x6A88);
            goesTo(c, about(1, 6, 0, "00", "9300"), 1);
        }
    }

    /** "all of 13" */
    private static void infoFillsItsFile() {
        fills(6, "9300", "FFFFFFFF");
        fills(6, "930101", "01FFFFFF");
        fills(6, "9303010203", "010203FF");
        fills(6, "930401020304", "01020304");
        fills(6, "93050102030405", "01020304");
        fills(6, "938180" + Check.many("09", 128), "09090909");
        fills(6, "1300 930101", "FFFFFFFF");
    }

    private static void largeFiles() {
        int[] sizes = {1, 235, 236, 237, 1000};
        for (int size : sizes) {
            Check c = new Check();
            c.card.file(0, 1, 1, size, 1);
            c.tape(Check.many("00", Math.min(size, 300)));
            c.card.fill(1, 0);
            c.tape("00");
            c.card.fill(1, size - 1);
            c.node(6, 0, "");
            c.card.with(0, 0, 0, 1);
            c.card.by(0, 0, 0);
            c.profile(Check.FULL_PROFILE, 0x9000);
            c.event(0, 0x910B);
            c.fetch();
            goesTo(c, about(1, 6, 0, "00", "9381EC" + Check.many("77", 236)), ChipCard.NONE);
            int written = Math.min(size, 236);
            Check.same("a FILE of " + size, c.fileBytes(1), Check.many("77", written) + Check.many("FF", size - written));
        }
    }

    /** "(of KIND 1 alone; of others nothing is written)" */
    private static void otherKindsAreNotWritten() {
        for (int sort = 1; sort <= 6; sort += 5) {
            for (int file = 2; file <= 4; file++) {
                Check c = fetched(sort, 0);
                c.card.with(0, 0, 0, file);
                goesTo(c, about(1, sort, 0, "00", "8D020441 930141"), 1);
                Check.same("RECORDS", c.fileBytes(3), "FFFFFFFF");
                Check.same("a RING", c.fileBytes(4), "FFFFFFFF");
                Check.same("BYTES of another FILE", c.fileBytes(1), "5A5A5A5A");
            }
        }
        int[] others = {0, 3, 4, 5, 7};
        for (int sort : others) {
            Check c = fetched(sort, 0);
            c.card.with(0, 9, 0, 1);
            goesTo(c, about(1, sort, 0, "00", "8D020441 930141"), 1);
            Check.same("SORT " + sort + " writes nothing", c.fileBytes(1), "5A5A5A5A");
        }
    }

    private static void onlyOkWrites() {
        String[] results = {"10", "11", "12", "13", "14", "1F", "30", "FF"};
        for (String result : results) {
            for (int sort = 1; sort <= 6; sort += 5) {
                Check c = fetched(sort, 0);
                c.card.with(0, 0, 0, 1);
                c.status(about(1, sort, 0, result, "8D020441 930141"), 0x910B);
                Check.same("RESULT " + result, c.fileBytes(1), "5A5A5A5A");
            }
        }
    }

    /** TIMERS 1 .. 8 of which some run; then the TIMER of NODE 0 is answered. */
    private static Check withTimers(int qualifier, int least) {
        Check c = new Check();
        c.node(4, qualifier, "");
        c.card.with(0, least, 5, -1);
        c.node(5, 0, "");
        c.card.goes(0, 0, 1);
        c.card.by(0, 0, 0);
        c.node(4, 0, "");
        c.card.by(0, 1, 2);
        c.profile(Check.FULL_PROFILE, 0x9000);
        for (int k = 2; k <= 8; k += 2) {
            c.card.with(2, k, 5, -1);
            c.event(1, 0x9113);
            c.fetch();
            c.respond(0x27, 0, "00", "", 0x9000);
        }
        c.send("80C20000", "D603990100");
        c.fetch();
        return c;
    }

    private static void timersAre(String when, Check c, int k, int due) {
        for (int i = 1; i <= 8; i++) {
            Check.same(when + " TIMER " + i, c.card.timer(i), i == k ? due : 1 - i % 2);
        }
    }

    /** "TIMER: QUALIFIER 0: TIMER LEAST runs; 1: it does not", "LEAST is not 1 .. 8 ... nothing happens" */
    private static void leastOfTimers() {
        int[] leasts = {0, 1, 2, 3, 4, 5, 6, 7, 8, 9, 10, 127, 128, 255};
        for (int least : leasts) {
            Check on = withTimers(0, least);
            goesTo(on, about(5, 4, 0, "00", ""), 1);
            timersAre("on " + least, on, least, 1);
            Check off = withTimers(1, least);
            goesTo(off, about(5, 4, 1, "00", ""), 1);
            timersAre("off " + least, off, least, 0);
        }
    }

    /** "or the QUALIFIER above 1 ... nothing happens" */
    private static void qualifiersOfTimers() {
        int[] qualifiers = {2, 3, 128, 255};
        int[] leasts = {0, 1, 2, 8, 9};
        for (int qualifier : qualifiers) {
            for (int least : leasts) {
                Check c = withTimers(qualifier, least);
                goesTo(c, about(5, 4, qualifier, "00", ""), 1);
                timersAre("QUALIFIER " + qualifier, c, 0, 0);
            }
        }
    }

    private static void onlyOkRunsTimers() {
        String[] results = {"10", "11", "12", "13", "14", "30"};
        for (String result : results) {
            for (int qualifier = 0; qualifier <= 1; qualifier++) {
                Check c = withTimers(qualifier, 1 + qualifier);
                goesTo(c, about(5, 4, qualifier, result, ""), ChipCard.NONE);
                timersAre("RESULT " + result, c, 0, 0);
            }
        }
        Check refused = withTimers(0, 1);
        refused.unchanged(about(4, 4, 0, "00", ""), 0x6A80);
        timersAre("refused", refused, 0, 0);
    }

    /** "It is done; where it GOES ... is STARTED. DONE." */
    private static void whereItGoes() {
        for (int sort = 0; sort < 8; sort++) {
            if (sort == 2) {
                continue;
            }
            String[] results = {"00", "11", "10", "30"};
            for (int o = 0; o < 4; o++) {
                goesTo(fetched(sort, 0), about(1, sort, 0, results[o], ""), o + 1);
                Check c = fetched(sort, 0);
                c.card.goes(0, o, -1);
                goesTo(c, about(1, sort, 0, results[o], ""), ChipCard.NONE);
                Check.same("no NUMBER", c.card.count(13), 0);
            }
        }
    }
}
