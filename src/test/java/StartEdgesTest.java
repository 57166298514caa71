/** The boundary cases of TO START, of a PROACTIVE COMMAND's bytes, of TERMINAL PROFILE and FETCH (term 4). */
public final class StartEdgesTest {
    private static final int[] TYPES = {0x21, 0x23, 0x24, 0x13, 0x27, 0x01, 0x26, 0x05};

    public static void main(String[] args) {
        profileBitOfEachType();
        profileBitOfTheMenu();
        lengthsOfTheProfile();
        theProfileIsTheLatest();
        profileNeedsData();
        profileEndsWhatWasThere();
        profileStartsTheMenu();
        failedAtOnce();
        seventeenInARow();
        failedOnesTakeNoNumber();
        aRoundOfFailedOnes();
        failedBehindAResponse();
        numbersCountUp();
        numbersBehindFE();
        textsInBytes();
        messageBytes();
        itemsInBytes();
        lengthsOfAllBytes();
        menuBytes();
        leastAndMostOfTimers();
        qualifiersOfTimers();
        eventsInBytes();
        bytesAsTheyAreWhenTold();
        fetchNeedsE();
        fetchWantsAllBytes();
        fetchOfNothing();
        onlyOneIsPending();
        Check.finish();
    }

    /** EVENT k has a NODE k of each SORT. */
    private static Check allSorts(String text) {
        Check c = new Check();
        for (int sort = 0; sort < 8; sort++) {
            c.node(sort, 0, text);
            c.card.by(0, sort, sort);
        }
        return c;
    }

    private static int sendEvent(Check c, int k) {
        return c.send("80C20000", "D6039901" + Check.hex(k));
    }

    /** EVENT 0 has a NODE of a SORT, and the PROFILE has all TYPES. */
    private static Check one(int sort, int qualifier, String text) {
        Check c = new Check();
        c.node(sort, qualifier, text);
        c.card.by(0, 0, 0);
        c.profile(Check.FULL_PROFILE, 0x9000);
        return c;
    }

    /** The event comes, and these are the bytes; their count stands in the STATUS. */
    private static void startsWith(Check c, String bytes) {
        c.event(0, 0x9100 + Check.bytes(bytes).length);
        c.fetches(bytes);
    }

    private static String profile(int bytes, int bit, boolean on) {
        StringBuilder all = new StringBuilder();
        for (int i = 0; i < bytes; i++) {
            int mask = bit / 8 == i ? 1 << bit % 8 : 0;
            all.append(Check.hex(on ? mask : 255 - mask));
        }
        return all.toString();
    }

    /** "it has TYPE t, if bit t % 8 of byte t / 8 of it is 1" */
    private static void profileBitOfEachType() {
        for (int bit = 0; bit < 48; bit++) {
            Check c = allSorts("");
            for (int sort = 0; sort < 8; sort++) {
                c.profile(profile(6, bit, true), 0x9000);
                sendEvent(c, sort);
                Check.same("bit " + bit + " alone, SORT " + sort, c.card.count(11), TYPES[sort] == bit ? 1 : 0);
                c.profile(profile(6, bit, false), 0x9000);
                sendEvent(c, sort);
                Check.same("all but bit " + bit + ", SORT " + sort, c.card.count(11), TYPES[sort] == bit ? 0 : 1);
            }
        }
    }

    private static void profileBitOfTheMenu() {
        Check c = new Check();
        c.item(-1, 1, "");
        for (int bit = 0; bit < 48; bit++) {
            c.profile(profile(6, bit, true), bit == 0x25 ? 0x9110 : 0x9000);
            Check.same("bit " + bit + " alone", c.card.count(11), bit == 0x25 ? 1 : 0);
            c.profile(profile(6, bit, false), bit == 0x25 ? 0x9000 : 0x9110);
        }
    }

    private static void lengthsOfTheProfile() {
        for (int sort = 0; sort < 8; sort++) {
            Check c = allSorts("");
            for (int n = 1; n <= 6; n++) {
                c.profile(Check.many("FF", n), 0x9000);
                sendEvent(c, sort);
                Check.same(n + " bytes, SORT " + sort, c.card.count(11), TYPES[sort] / 8 < n ? 1 : 0);
            }
            c.profile(Check.many("FF", 255), 0x9000);
            sendEvent(c, sort);
            Check.same("255 bytes, SORT " + sort, c.card.count(12), sort);
        }
    }

    private static void theProfileIsTheLatest() {
        Check c = allSorts("");
        c.profile(Check.many("FF", 10), 0x9000);
        c.profile("02", 0x9000);
        c.event(0, 0x9000);
        Check.same("a shorter one leaves nothing of the longer one", c.card.count(11), 0);
        c.event(5, 0x910B);
    }

    /** "TERMINAL PROFILE, DATA (6700: none)" */
    private static void profileNeedsData() {
        Check c = one(0, 0, "");
        c.event(0, 0x910E);
        c.unchanged("80100000", 0x6700);
        for (int e = 0; e <= 255; e++) {
            c.unchanged("80100000" + Check.hex(e), 0x6700);
        }
        c.fetches("D00C 8103012100 82028102 8D0104");
        c.unchanged("80100000", 0x6700);
        Check.same("still FETCHED", c.card.count(11), 2);
        c.respond(0x21, 0, "00", "", 0x9000);
        Check bare = new Check();
        bare.unchanged("80100000", 0x6700);
        bare.unchanged("80C2000005D603990100", 0x6985);
        bare.profile("00", 0x9000);
        bare.event(0, 0x9000);
    }

    /** "What is PENDING or FETCHED is gone, TIMERS do not run" */
    private static void profileEndsWhatWasThere() {
        for (int fetched = 0; fetched <= 1; fetched++) {
            Check c = new Check();
            for (int k = 1; k <= 8; k++) {
                c.node(4, 0, "");
                c.card.with(k - 1, k, 1, -1);
                c.card.by(0, k, k - 1);
            }
            c.profile(Check.FULL_PROFILE, 0x9000);
            for (int k = 1; k <= 8; k++) {
                c.event(k, 0x9113);
                c.fetch();
                c.respond(0x27, 0, "00", "", 0x9000);
                Check.same("TIMER " + k, c.card.timer(k), 1);
            }
            c.event(1, 0x9113);
            if (fetched == 1) {
                c.fetch();
            }
            c.profile(Check.FULL_PROFILE, 0x9000);
            Check.same("nothing", c.card.count(11), 0);
            Check.same("no NODE", c.card.count(12), ChipCard.NONE);
            for (int k = 1; k <= 8; k++) {
                Check.same("TIMER " + k, c.card.timer(k), 0);
            }
            c.unchanged("8012000013", 0x6985);
            c.unchanged("8014000008" + "8103092700" + "830100", 0x6985);
            c.event(1, 0x9113);
            Check.same("1 first", c.card.count(13), 1);
        }
    }

    /** "if the MENU has an ITEM, MENU is STARTED" */
    private static void profileStartsTheMenu() {
        Check c = new Check();
        c.tape("41");
        c.card.title();
        c.profile(Check.FULL_PROFILE, 0x9000);
        Check.same("no ITEM", c.card.count(11), 0);
        c.item(-1, 1, "");
        Check.same("not by item", c.card.count(11), 0);
        c.profile(Check.FULL_PROFILE, 0x9111);
        Check.same("one ITEM", c.card.count(11), 1);
        for (int i = 2; i <= 5; i++) {
            c.item(-1, i, "");
        }
        c.profile(Check.FULL_PROFILE, 0x911D);
        Check.same("five ITEMS", c.card.count(11), 1);
        c.profile(profile(6, 0x25, false), 0x9000);
        Check.same("its TYPE is not had", c.card.count(11), 0);
    }

    /** NODES 0 .. n-1 FAIL at once, each GOING by 3 to the next; the last GOES to NODE n, a REFRESH. */
    private static Check chain(int n) {
        Check c = new Check();
        for (int i = 0; i < n; i++) {
            c.node(0, 0, "");
        }
        c.node(5, 0, "");
        for (int i = 0; i < n; i++) {
            c.card.goes(i, 3, i + 1);
        }
        c.card.by(0, 0, 0);
        c.profile("02", 0x9000);
        return c;
    }

    /** "it is FAILED at once, and where it GOES by 3 is STARTED, if that is somewhere" */
    private static void failedAtOnce() {
        Check c = chain(1);
        c.event(0, 0x910B);
        Check.same("where it GOES", c.card.count(12), 1);
        Check nowhere = chain(1);
        for (int outcome = 0; outcome <= 2; outcome++) {
            nowhere.card.goes(0, outcome, 1);
        }
        nowhere.card.goes(0, 3, -1);
        nowhere.event(0, 0x9000);
        Check.same("nowhere", nowhere.card.count(11), 0);
        nowhere.event(0, 0x9000);
        Check.same("free for the next", nowhere.card.goes(0, 3, 1), true);
        nowhere.event(0, 0x910B);
    }

    /** "(17th NODE in a row so: nothing is STARTED any more)" */
    private static void seventeenInARow() {
        for (int n = 1; n <= 20; n++) {
            Check c = chain(n);
            c.event(0, n < 17 ? 0x910B : 0x9000);
            Check.same("behind " + n, c.card.count(12), n < 17 ? n : ChipCard.NONE);
            Check.same("behind " + n, c.card.count(11), n < 17 ? 1 : 0);
        }
        Check c = chain(20);
        c.event(0, 0x9000);
        c.card.by(0, 0, 4);
        c.event(0, 0x910B);
        Check.same("counted anew each time", c.card.count(12), 20);
    }

    private static void failedOnesTakeNoNumber() {
        Check c = chain(16);
        c.event(0, 0x910B);
        Check.same("NUMBER", c.card.count(13), 1);
        c.fetch();
        c.respond(0x01, 0, "00", "", 0x9000);
        c.card.by(0, 1, 15);
        c.card.goes(15, 3, -1);
        c.event(1, 0x9000);
        c.card.goes(15, 3, 16);
        c.event(0, 0x910B);
        Check.same("the next NUMBER", c.card.count(13), 2);
    }

    private static void aRoundOfFailedOnes() {
        for (int n = 1; n <= 18; n++) {
            Check c = chain(n);
            c.card.goes(n - 1, 3, 0);
            c.event(0, 0x9000);
            Check.same("a round of " + n, c.card.count(11), 0);
        }
    }

    private static void failedBehindAResponse() {
        Check c = chain(17);
        c.card.by(0, 1, 17);
        c.card.goes(17, 0, 1);
        c.card.goes(17, 1, 0);
        c.event(1, 0x910B);
        c.fetch();
        c.respond(0x01, 0, "00", "", 0x910B);
        Check.same("sixteen FAILED", c.card.count(12), 17);
        c.fetch();
        c.respond(0x01, 0, "11", "", 0x9000);
        Check.same("seventeen FAILED", c.card.count(11), 0);
    }

    /** "with a NUMBER, one more than the one before" */
    private static void numbersCountUp() {
        Check c = one(5, 0, "");
        for (int i = 1; i <= 20; i++) {
            c.event(0, 0x910B);
            Check.same("NUMBER", c.card.count(13), i);
            c.fetches("D009 8103" + Check.hex(i) + "0100 82028182");
            c.respond(0x01, 0, "00", "", 0x9000);
            Check.same("0 without", c.card.count(13), 0);
        }
        c.profile("02", 0x9000);
        c.event(0, 0x910B);
        Check.same("1 first behind TERMINAL PROFILE", c.card.count(13), 1);
    }

    /** "1 behind FE": not to be had in 512 calls, so what stands beyond them is asked. */
    private static void numbersBehindFE() {
        Check c = one(5, 0, "");
        c.card.goes(0, 0, 0);
        c.event(0, 0x910B);
        for (int i = 1; i <= 0xFE + 3; i++) {
            int number = (i - 1) % 0xFE + 1;
            Check.same("NUMBER", c.card.count(13), number);
            c.fetches("D009 8103" + Check.hex(number) + "0100 82028182");
            if (i == 0xFE) {
                c.status("80140000088103FF0100830100", 0x6A80);
            }
            c.command("80140000088103" + Check.hex(number) + "0100830100");
        }
    }

    private static void textsInBytes() {
        int[] lengths = {0, 1, 2, 99, 100};
        for (int n : lengths) {
            String text = Check.many("54", n);
            String shown = "8D" + Check.hex(n + 1) + "04" + text;
            startsWith(one(0, 0, text), "D0" + Check.hex(12 + n) + "8103012100 82028102" + shown);
            startsWith(one(1, 0, text), "D0" + Check.hex(16 + n) + "8103012300 82028182" + shown + "910200FF");
            String title = n == 0 ? "" : "85" + Check.hex(n) + text;
            startsWith(one(2, 0, text), "D0" + Check.hex(9 + title.length() / 2) + "8103012400 82028182" + title);
            startsWith(one(4, 0, text), "D011 8103012700 82028182 A40100 A503004051");
            startsWith(one(5, 0, text), "D009 8103010100 82028182");
            startsWith(one(6, 0, text), "D009 8103012600 82028182");
            startsWith(one(7, 0, text), "D00C 8103010500 82028182 990100");
        }
    }

    /** "85 as of CHOICE, 8B, a length, and 01 00 00 00 F4, how many bytes the TEXT has, the TEXT" */
    private static void messageBytes() {
        // A TEXT of 54 bytes makes a body of 7F, one of 55 a body of 81
        for (int n = 0; n <= 100; n++) {
            String text = Check.many("54", n);
            String title = n == 0 ? "" : "85" + Check.hex(n) + text;
            String body = "8103011300 82028183" + title + "8B" + Check.hex(6 + n) + "01000000F4" + Check.hex(n) + text;
            int length = Check.bytes(body).length;
            startsWith(one(3, 0, text), "D0" + (n >= 55 ? "81" : "") + Check.hex(length) + body);
            Check.same("the short length up to 7F", length <= 0x7F, n < 55);
        }
    }

    private static void itemsInBytes() {
        Check c = one(2, 0, "");
        StringBuilder items = new StringBuilder();
        for (int i = 0; i <= 5; i++) {
            if (i > 0) {
                String text = Check.many("49", i == 5 ? 20 : i - 1);
                c.item(0, 256 - i, text);
                items.append("8F").append(Check.hex(text.length() / 2 + 1)).append(Check.hex(256 - i)).append(text);
            }
            c.profile(Check.FULL_PROFILE, 0x9000);
            startsWith(c, "D0" + Check.hex(9 + items.length() / 2) + "8103012400 82028182" + items);
        }
    }

    /** "D0, a length (as above)": 7E, 7F, 80 and 81 bytes, and the most that there can be */
    private static void lengthsOfAllBytes() {
        for (int n = 12; n <= 15; n++) {
            Check c = one(2, 0, Check.many("54", 100));
            c.item(0, 9, Check.many("49", n));
            String body = "8103012400 82028182 8564" + Check.many("54", 100) + "8F" + Check.hex(n + 1) + "09" + Check.many("49", n);
            int length = 0x72 + n;
            Check.same("length", Check.bytes(body).length, length);
            c.event(0, 0x9100 + length + (length < 0x80 ? 2 : 3));
            c.unchanged("8012000000", 0x6C00 + length + (length < 0x80 ? 2 : 3));
            c.fetches("D0" + (length < 0x80 ? "" : "81") + Check.hex(length) + body);
        }
        Check most = one(2, 0, Check.many("54", 100));
        StringBuilder items = new StringBuilder();
        for (int i = 1; i <= 5; i++) {
            most.item(0, i, Check.many("49", 20));
            items.append("8F15").append(Check.hex(i)).append(Check.many("49", 20));
        }
        startsWith(most, "D081E2 8103012400 82028182 8564" + Check.many("54", 100) + items);
    }

    /** "85, a length, the MENU's title (also if empty), 8F for each ITEM" */
    private static void menuBytes() {
        for (int n = 0; n <= 20; n += n == 1 ? 18 : 1) {
            Check c = new Check();
            String title = Check.many("4D", n);
            c.tape(title);
            c.card.title();
            StringBuilder items = new StringBuilder();
            for (int i = 1; i <= 5; i++) {
                c.item(-1, 50 * i, Check.many("49", 20));
                items.append("8F15").append(Check.hex(50 * i)).append(Check.many("49", 20));
            }
            String body = "8103012500 82028182 85" + Check.hex(n) + title + items;
            int length = Check.bytes(body).length;
            String bytes = "D0" + (length < 0x80 ? "" : "81") + Check.hex(length) + body;
            c.profile(Check.FULL_PROFILE, 0x9100 + Check.bytes(bytes).length);
            c.fetches(bytes);
        }
        // A last ITEM of 1 byte makes a body of 7F, one of 2 a body of 80
        for (int n = 0; n <= 3; n++) {
            Check c = new Check();
            StringBuilder items = new StringBuilder();
            c.tape(Check.many("4D", 20));
            c.card.title();
            for (int i = 1; i <= 5; i++) {
                String text = Check.many("49", i == 5 ? n : 20);
                c.item(-1, i, text);
                items.append("8F").append(Check.hex(text.length() / 2 + 1)).append(Check.hex(i)).append(text);
            }
            String length = n <= 1 ? Check.hex(0x7E + n) : "81" + Check.hex(0x7E + n);
            c.profile(Check.FULL_PROFILE, 0x9100 + 0x7E + n + (n <= 1 ? 2 : 3));
            c.fetches("D0" + length + "8103012500 82028182 8514" + Check.many("4D", 20) + items);
        }
    }

    /** "A4 01 LEAST", "MOST in hours, minutes, seconds, each two decimals, the lower one in the higher four bits" */
    private static void leastAndMostOfTimers() {
        Check c = one(4, 0, "");
        for (int n = 0; n <= 255; n++) {
            String time = String.format("%02d%02d%02d", n / 3600, n / 60 % 60, n % 60);
            String swapped = "" + time.charAt(1) + time.charAt(0) + time.charAt(3) + time.charAt(2) + time.charAt(5) + time.charAt(4);
            c.card.with(0, 255 - n, n, -1);
            c.profile(Check.FULL_PROFILE, 0x9000);
            startsWith(c, "D011 8103012700 82028182 A401" + Check.hex(255 - n) + "A503" + swapped);
        }
    }

    /** "if the QUALIFIER is 0" */
    private static void qualifiersOfTimers() {
        startsWith(one(4, 0, ""), "D011 8103012700 82028182 A40100 A503004051");
        int[] others = {1, 2, 128, 254, 255};
        for (int qualifier : others) {
            startsWith(one(4, qualifier, ""), "D00C 81030127" + Check.hex(qualifier) + "82028182 A40100");
        }
    }

    /** "EVENTS: 99, a length, all EVENTS with a NODE, upward" */
    private static void eventsInBytes() {
        Check c = new Check();
        c.node(7, 0, "");
        c.card.by(0, 31, 0);
        c.card.by(0, 0, 0);
        c.profile(Check.FULL_PROFILE, 0x9000);
        startsWith(c, "D00D 8103010500 82028182 9902001F");
        StringBuilder all = new StringBuilder();
        for (int k = 31; k >= 0; k--) {
            c.card.by(0, k, 0);
            all.append(Check.hex(31 - k));
        }
        c.profile(Check.FULL_PROFILE, 0x9000);
        startsWith(c, "D02B 8103010500 82028182 9920" + all);
        c.profile(Check.FULL_PROFILE, 0x9000);
        c.event(0, 0x912D);
        for (int k = 0; k <= 31; k++) {
            c.card.by(0, k, -1);
        }
        c.fetches("D00B 8103010500 82028182 9900");
    }

    /** "(Its bytes, how many, its ITEMS are those of the NODE, MENU, EVENTS as they are when they are told or asked.)" */
    private static void bytesAsTheyAreWhenTold() {
        Check c = one(2, 0, "");
        c.event(0, 0x910B);
        c.status("00A4000C023F00", 0x910B);
        c.item(0, 1, "");
        c.status("00A4000C023F00", 0x910E);
        c.unchanged("801200000B", 0x6C0E);
        c.item(0, 2, "");
        c.fetches("D00F 8103012400 82028182 8F0101 8F0102");
        c.unchanged(Check.whole("80140000", "8103012400 830100 900103"), 0x6A80);
        c.item(0, 3, "");
        c.card.pick(0, 3, 0);
        c.status(Check.whole("80140000", "8103012400 830100 900103"), 0x9114);
        Check input = one(1, 0, "");
        input.event(0, 0x9112);
        input.card.with(0, 1, 2, -1);
        input.fetches("D010 8103012300 82028182 8D0104 91020102");
        Check menu = new Check();
        menu.item(-1, 1, "");
        menu.profile(Check.FULL_PROFILE, 0x9110);
        menu.item(-1, 2, "41");
        menu.tape("42");
        menu.card.title();
        menu.status("00A4000C023F00", 0x9115);
        menu.fetches("D013 8103012500 82028182 850142 8F0101 8F020241");
    }

    /** "FETCH, E. 6700: no E." */
    private static void fetchNeedsE() {
        Check c = one(0, 0, "");
        c.unchanged("80120000", 0x6700);
        c.unchanged("801200000100", 0x6700);
        c.event(0, 0x910E);
        c.unchanged("80120000", 0x6700);
        c.unchanged("801200000E" + Check.many("00", 14), 0x6700);
        c.fetches("D00C 8103012100 82028102 8D0104");
    }

    /** "6CXX: E is not how many bytes it has (XX that)" */
    private static void fetchWantsAllBytes() {
        String[] texts = {"", Check.many("54", 100)};
        int[] sizes = {0x0E, 0x72};
        for (int i = 0; i < 2; i++) {
            Check c = one(0, 0, texts[i]);
            c.event(0, 0x9100 + sizes[i]);
            for (int e = 0; e <= 255; e++) {
                if (e != sizes[i]) {
                    c.unchanged("80120000" + Check.hex(e), 0x6C00 + sizes[i]);
                }
            }
            c.status("80120000" + Check.hex(sizes[i]), 0x9000);
            Check.same("FETCHED", c.card.count(11), 2);
            Check.same("how many came", c.card.count(3), sizes[i]);
        }
    }

    /** "6985: nothing is PENDING" */
    private static void fetchOfNothing() {
        Check c = one(0, 0, "");
        for (int e = 0; e <= 255; e += 51) {
            c.unchanged("80120000" + Check.hex(e), 0x6985);
        }
        c.event(0, 0x910E);
        c.fetch();
        c.unchanged("801200000E", 0x6985);
        c.unchanged("8012000000", 0x6985);
        c.respond(0x21, 0, "00", "", 0x9000);
        c.unchanged("801200000E", 0x6985);
        Check bare = new Check();
        bare.unchanged("8012000000", 0x6985);
    }

    /** "there is never more than one PENDING or FETCHED" */
    private static void onlyOneIsPending() {
        Check c = allSorts("");
        c.profile(Check.FULL_PROFILE, 0x9000);
        c.event(0, 0x910E);
        c.unchanged("80C2000005D603990105", 0x9300);
        c.fetch();
        c.unchanged("80C2000005D603990105", 0x9300);
        c.answers("00A4000C023F00", "");
        c.respond(0x21, 0, "00", "", 0x9000);
        c.event(5, 0x910B);
        Check.same("the next one", c.card.count(12), 5);
    }
}
