/** The boundary cases of promises 7 to 13: NODES, ITEMS, the title and where all of them GO. */
public final class ProgramEdgesTest {
    /** What is no NODE where there are just the NODES 0 and 1, and is not NONE. */
    private static final int[] NO_NODE = {Check.LOWEST, -3, -2, 2, 3, 39, 40, Check.HIGHEST};

    public static void main(String[] args) {
        sorts();
        qualifiers();
        textsOfNodes();
        fortyNodes();
        itemsOfNoNode();
        itemsOfNoChoice();
        identifiers();
        identifiersThatThereAre();
        textsOfItems();
        fiveItems();
        anItemGoesNowhereAtFirst();
        titles();
        withAtItsEdges();
        refusedWithLeavesAll();
        withAtFirst();
        goesAtItsEdges();
        refusedGoesLeavesTheWay();
        nodesGoNowhereAtFirst();
        pickAtItsEdges();
        refusedPickLeavesTheWay();
        byAtItsEdges();
        refusedByLeavesTheNode();
        Check.finish();
    }

    /** STARTS a NODE by EVENT 9 on a card that was just told its PROFILE. */
    private static void start(Check c, int node) {
        c.card.by(0, 9, node);
        c.send("80100000", Check.FULL_PROFILE);
        c.send("80C20000", "D603990109");
    }

    private static void refusesNode(Check c, Class<? extends RuntimeException> due, int sort, int qualifier, String text) {
        c.reads("node(" + sort + ", " + qualifier + ") " + text, due, text, () -> c.card.node(sort, qualifier));
    }

    /** "A NODE of a SORT 0 .. 7 ... IllegalArgumentException: another one" */
    private static void sorts() {
        Check c = new Check();
        int[] others = {Check.LOWEST, -2, -1, 8, 9, 0x21, Check.HIGHEST};
        for (int sort : others) {
            refusesNode(c, IllegalArgumentException.class, sort, 0, "");
        }
        int[] types = {0x21, 0x23, 0x24, 0x13, 0x27, 0x01, 0x26, 0x05};
        for (int sort = 0; sort <= 7; sort++) {
            Check.same("SORT " + sort, c.node(sort, 0, ""), sort);
            start(c, sort);
            c.fetch();
            Check.same("TYPE of SORT " + sort, c.card.out(5), types[sort]);
        }
    }

    /** "with a QUALIFIER 0 .. 255" */
    private static void qualifiers() {
        Check c = new Check();
        int[] others = {Check.LOWEST, -256, -1, 256, 257, 512, Check.HIGHEST};
        for (int qualifier : others) {
            refusesNode(c, IllegalArgumentException.class, 5, qualifier, "");
        }
        int[] good = {0, 1, 127, 128, 254, 255};
        for (int i = 0; i < good.length; i++) {
            Check.same("QUALIFIER " + good[i], c.node(5, good[i], ""), i);
            start(c, i);
            c.fetches("D009 81030101" + Check.hex(good[i]) + "82028182");
        }
    }

    /** "a TEXT of more than 100 bytes" */
    private static void textsOfNodes() {
        Check c = new Check();
        for (int n = 101; n <= 300; n += 199) {
            refusesNode(c, IllegalArgumentException.class, 0, 0, Check.many("41", n));
        }
        int[] good = {0, 1, 99, 100};
        for (int i = 0; i < good.length; i++) {
            String text = Check.many("42", good[i]);
            Check.same("a TEXT of " + good[i], c.node(0, 0, text), i);
            start(c, i);
            c.fetches("D0" + Check.hex(12 + good[i]) + "8103012100 82028102 8D" + Check.hex(1 + good[i]) + "04" + text);
        }
    }

    /** "UnsupportedOperationException: there are 40" */
    private static void fortyNodes() {
        Check c = new Check();
        for (int i = 0; i < 40; i++) {
            Check.same("node", c.node(i % 8, 0, ""), i);
            Check.same("NODES", c.card.count(1), i + 1);
        }
        for (int sort = 0; sort <= 7; sort++) {
            refusesNode(c, UnsupportedOperationException.class, sort, 0, "");
            refusesNode(c, UnsupportedOperationException.class, sort, 255, Check.many("41", 100));
        }
        refusesNode(c, IllegalArgumentException.class, 8, 0, "");
        refusesNode(c, IllegalArgumentException.class, 0, 256, "");
        refusesNode(c, IllegalArgumentException.class, 0, 0, Check.many("41", 101));
        Check.same("the last one is there", c.card.goes(39, 0, 39), true);
        Check.same("no other one came", c.card.goes(40, 0, 0), false);
    }

    private static void refusesItem(Check c, Class<? extends RuntimeException> due, int node, int identifier, String text) {
        c.reads("item(" + node + ", " + identifier + ") " + text, due, text, () -> c.card.item(node, identifier));
    }

    private static Check twoChoices() {
        Check c = new Check();
        c.node(2, 0, "");
        c.node(2, 0, "");
        return c;
    }

    /** "IndexOutOfBoundsException: there is no such NODE" */
    private static void itemsOfNoNode() {
        Check c = twoChoices();
        for (int node : NO_NODE) {
            refusesItem(c, IndexOutOfBoundsException.class, node, 1, "");
            refusesItem(c, IndexOutOfBoundsException.class, node, 0, Check.many("41", 21));
        }
        Check.same("the last one", c.item(1, 1, ""), 1);
        Check.same("the first one", c.item(0, 1, ""), 1);
        Check.same("the MENU", c.item(-1, 1, ""), 1);
    }

    /** "IllegalArgumentException: it is no CHOICE" */
    private static void itemsOfNoChoice() {
        Check c = new Check();
        for (int sort = 0; sort <= 7; sort++) {
            c.node(sort, 0, "");
            if (sort != 2) {
                refusesItem(c, IllegalArgumentException.class, sort, 1, "");
                Check.same("no ITEM came", c.card.pick(sort, 1, 0), false);
            }
        }
        Check.same("a CHOICE", c.item(2, 1, ""), 1);
    }

    /** "an identifier not 1 .. 255" */
    private static void identifiers() {
        for (int node = -1; node <= 0; node++) {
            Check c = twoChoices();
            int[] wrong = {Check.LOWEST, -255, -1, 0, 256, 257, Check.HIGHEST};
            for (int identifier : wrong) {
                refusesItem(c, IllegalArgumentException.class, node, identifier, "");
                Check.same("no ITEM came", c.card.pick(node, identifier, 0), false);
            }
            int[] good = {1, 2, 128, 254, 255};
            for (int i = 0; i < good.length; i++) {
                Check.same("identifier " + good[i], c.item(node, good[i], ""), i + 1);
                Check.same("the ITEM is there", c.card.pick(node, good[i], 0), true);
            }
        }
    }

    /** "or that there is already" */
    private static void identifiersThatThereAre() {
        Check c = twoChoices();
        int[] nodes = {-1, 0, 1};
        for (int node : nodes) {
            Check.same("the same one elsewhere", c.item(node, 7, "41"), 1);
            refusesItem(c, IllegalArgumentException.class, node, 7, "42");
            Check.same("another one", c.item(node, 8, "43"), 2);
            refusesItem(c, IllegalArgumentException.class, node, 7, "42");
            refusesItem(c, IllegalArgumentException.class, node, 8, "42");
        }
        start(c, 0);
        c.respond(0x25, 0, "00", "", 0x6985);
        c.fetch();
        c.respond(0x25, 0, "00", "", 0x9000);
        c.event(9, 0x9113);
        c.fetches("D011 8103022400 82028182 8F020741 8F020843");
    }

    /** "a text of more than 20 bytes" */
    private static void textsOfItems() {
        for (int node = -1; node <= 0; node++) {
            Check c = twoChoices();
            for (int n = 21; n <= 300; n += 279) {
                refusesItem(c, IllegalArgumentException.class, node, 1, Check.many("41", n));
            }
            int[] good = {0, 1, 19, 20};
            StringBuilder items = new StringBuilder();
            for (int i = 0; i < good.length; i++) {
                String text = Check.many("42", good[i]);
                Check.same("a text of " + good[i], c.item(node, i + 1, text), i + 1);
                items.append("8F").append(Check.hex(1 + good[i])).append(Check.hex(i + 1)).append(text);
            }
            if (node == 0) {
                start(c, 0);
                c.fetches("D03D 8103012400 82028182" + items);
            } else {
                c.profile(Check.FULL_PROFILE, 0x9141);
                c.fetches("D03F 8103012500 82028182 8500" + items);
            }
        }
    }

    /** "UnsupportedOperationException: there are 5" */
    private static void fiveItems() {
        Check c = twoChoices();
        int[] nodes = {-1, 0, 1};
        for (int node : nodes) {
            for (int i = 1; i <= 5; i++) {
                Check.same("how many", c.item(node, 10 * i, ""), i);
            }
            refusesItem(c, UnsupportedOperationException.class, node, 60, "");
            refusesItem(c, UnsupportedOperationException.class, node, 1, Check.many("41", 20));
            refusesItem(c, IllegalArgumentException.class, node, 50, "");
            refusesItem(c, IllegalArgumentException.class, node, 0, "");
            refusesItem(c, IllegalArgumentException.class, node, 256, "");
            refusesItem(c, IllegalArgumentException.class, node, 60, Check.many("41", 21));
            Check.same("no sixth one came", c.card.pick(node, 60, 0), false);
            Check.same("the fifth one is there", c.card.pick(node, 50, 0), true);
        }
        Check.same("ITEMS of the MENU", c.card.count(2), 5);
    }

    /** "(It GOES nowhere at first.)" */
    private static void anItemGoesNowhereAtFirst() {
        Check c = twoChoices();
        c.item(0, 7, "");
        c.item(-1, 7, "");
        c.card.goes(0, 0, 1);
        c.profile("0000000010", 0x9000);
        c.envelope("D303900107", 0x9000);
        Check.same("of the MENU", c.card.count(11), 0);
        c.card.by(0, 0, 0);
        c.event(0, 0x910E);
        c.fetch();
        c.respond(0x24, 0, "00", "900107", 0x9000);
        Check.same("of a CHOICE", c.card.count(11), 0);
    }

    /** "how many bytes. IllegalArgumentException: more than 20" */
    private static void titles() {
        Check c = new Check();
        c.item(-1, 1, "");
        int[] good = {0, 1, 19, 20};
        for (int n : good) {
            String title = Check.many("54", n);
            c.tape(title);
            Check.same("a title of " + n, c.card.title(), n);
            for (int more = 21; more <= 300; more += 279) {
                c.reads("a title of " + more, IllegalArgumentException.class, Check.many("55", more), () -> c.card.title());
            }
            c.profile(Check.FULL_PROFILE, 0x9100 + 16 + n);
            c.fetches("D0" + Check.hex(14 + n) + "8103012500 82028182 85" + Check.hex(n) + title + "8F0101");
        }
        c.tape("");
        Check.same("empty again", c.card.title(), 0);
        c.profile(Check.FULL_PROFILE, 0x9110);
    }

    /** NODE 0 a TIMER, NODE 1 an INPUT; FILES 1 and 2 of BYTES. */
    private static Check timerAndInput() {
        Check c = new Check();
        c.node(4, 0, "");
        c.node(1, 0, "");
        c.card.file(0, 1, 1, 2, 1);
        c.card.file(0, 1, 2, 2, 1);
        return c;
    }

    /** "LEAST, MOST, 0 .. 255 both, and a FILE, or NONE: true" */
    private static void withAtItsEdges() {
        Check c = timerAndInput();
        int[] good = {0, 1, 127, 128, 254, 255};
        for (int least : good) {
            for (int most : good) {
                Check.same("with", c.card.with(1, least, most, -1), true);
                start(c, 1);
                c.fetches("D010 8103012300 82028182 8D0104 9102" + Check.hex(least) + Check.hex(most));
            }
        }
        for (int file = -1; file <= 2; file++) {
            Check.same("with FILE " + file, c.card.with(1, 0, 0, file), true);
        }
    }

    /** "false if there is no such NODE, FILE, or a number is another one" */
    private static void refusedWithLeavesAll() {
        Check c = timerAndInput();
        c.card.with(1, 3, 4, 1);
        int[] noNode = {Check.LOWEST, -2, -1, 2, 39, 40, Check.HIGHEST};
        for (int node : noNode) {
            Check.same("NODE " + node, c.card.with(node, 5, 6, 2), false);
        }
        int[] noFile = {Check.LOWEST, -3, -2, 3, 39, 40, Check.HIGHEST};
        for (int file : noFile) {
            Check.same("FILE " + file, c.card.with(1, 5, 6, file), false);
        }
        int[] noByte = {Check.LOWEST, -256, -1, 256, 257, Check.HIGHEST};
        for (int n : noByte) {
            Check.same("LEAST " + n, c.card.with(1, n, 6, 2), false);
            Check.same("MOST " + n, c.card.with(1, 5, n, 2), false);
        }
        start(c, 1);
        c.fetches("D010 8103012300 82028182 8D0104 91020304");
        c.respond(0x23, 0, "00", "", 0x6A88);
        c.respond(0x23, 0, "00", "8D03044142", 0x9000);
        Check.same("the FILE of before", c.fileBytes(1) + c.fileBytes(2), "4142" + "FFFF");
        Check.same("NONE again", c.card.with(1, 0, 0, -1), true);
        start(c, 1);
        c.fetch();
        c.respond(0x23, 0, "00", "", 0x9000);
    }

    /** "a FILE (NONE at first); LEAST and MOST (0 and FF at first)" */
    private static void withAtFirst() {
        Check c = timerAndInput();
        start(c, 0);
        c.fetches("D011 8103012700 82028182 A40100 A503004051");
        start(c, 1);
        c.fetches("D010 8103012300 82028182 8D0104 910200FF");
        c.respond(0x23, 0, "00", "", 0x9000);
    }

    /** NODES 0 and 1: REFRESHES of QUALIFIERS 0 and 1. */
    private static Check twoRefreshes() {
        Check c = new Check();
        c.node(5, 0, "");
        c.node(5, 1, "");
        return c;
    }

    private static final String[] RESULTS = {"00", "11", "10", "30"};

    private static void wayBy(Check c, int outcome, int due) {
        start(c, 0);
        c.fetch();
        c.respond(0x01, 0, RESULTS[outcome], "", due == ChipCard.NONE ? 0x9000 : 0x910B);
        Check.same("where it GOES by " + outcome, c.card.count(12), due);
        Check.same("what is PENDING", c.card.count(11), due == ChipCard.NONE ? 0 : 1);
    }

    /** "by an OUTCOME 0 .. 3, to a NODE, or NONE: true" */
    private static void goesAtItsEdges() {
        for (int outcome = 0; outcome <= 3; outcome++) {
            Check c = twoRefreshes();
            for (int to = 1; to >= -1; to--) {
                Check.same("goes", c.card.goes(0, outcome, to), true);
                wayBy(c, outcome, to);
            }
            Check.same("goes", c.card.goes(0, outcome, 1), true);
            for (int other = 0; other <= 3; other++) {
                wayBy(c, other, other == outcome ? 1 : ChipCard.NONE);
            }
        }
    }

    /** "false if there is no such NODE (each), or OUTCOME" */
    private static void refusedGoesLeavesTheWay() {
        Check c = twoRefreshes();
        for (int outcome = 0; outcome <= 3; outcome++) {
            c.card.goes(0, outcome, 1);
            for (int none : NO_NODE) {
                Check.same("goes to " + none, c.card.goes(0, outcome, none), false);
                Check.same("goes of " + none, c.card.goes(none, outcome, 0), false);
            }
            Check.same("goes of NONE", c.card.goes(ChipCard.NONE, outcome, 0), false);
        }
        int[] noOutcome = {Check.LOWEST, -2, -1, 4, 5, Check.HIGHEST};
        for (int outcome : noOutcome) {
            Check.same("goes by " + outcome, c.card.goes(0, outcome, 0), false);
            Check.same("goes by " + outcome, c.card.goes(0, outcome, -1), false);
        }
        for (int outcome = 0; outcome <= 3; outcome++) {
            wayBy(c, outcome, 1);
        }
    }

    /** "(nowhere at first)" */
    private static void nodesGoNowhereAtFirst() {
        for (int outcome = 0; outcome <= 3; outcome++) {
            wayBy(twoRefreshes(), outcome, ChipCard.NONE);
        }
    }

    /** NODE 0 a CHOICE, NODE 1 a REFRESH; the CHOICE and the MENU have ITEMS 1 and 255. */
    private static Check choiceAndMenu() {
        Check c = new Check();
        c.node(2, 0, "");
        c.node(5, 0, "");
        for (int node = -1; node <= 0; node++) {
            c.item(node, 1, "");
            c.item(node, 255, "");
        }
        return c;
    }

    private static void wayByItem(Check c, int node, int identifier, int due) {
        // A PROFILE without the MENU's TYPE, so that it is not PENDING itself
        c.profile("0200000010", 0x9000);
        if (node == ChipCard.NONE) {
            c.send("80C20000", "D3039001" + Check.hex(identifier));
        } else {
            c.card.by(0, 9, 0);
            c.send("80C20000", "D603990109");
            c.fetch();
            c.send("80140000", "8103012400 830100 9001" + Check.hex(identifier));
        }
        Check.same("where " + node + " GOES by ITEM " + identifier, c.card.count(12), due);
        Check.same("what is PENDING", c.card.count(11), due == ChipCard.NONE ? 0 : 1);
    }

    /** "Where a NODE (or the MENU: NONE) GOES by an ITEM, to a NODE, or NONE: true" */
    private static void pickAtItsEdges() {
        Check c = choiceAndMenu();
        for (int node = -1; node <= 0; node++) {
            for (int to = 1; to >= -1; to--) {
                Check.same("pick", c.card.pick(node, 255, to), true);
                wayByItem(c, node, 255, to);
                wayByItem(c, node, 1, ChipCard.NONE);
            }
            Check.same("pick of the first one", c.card.pick(node, 1, 1), true);
            wayByItem(c, node, 1, 1);
            wayByItem(c, node, 255, ChipCard.NONE);
        }
    }

    /** "false if there is no such NODE (each), or ITEM" */
    private static void refusedPickLeavesTheWay() {
        Check c = choiceAndMenu();
        for (int node = -1; node <= 0; node++) {
            c.card.pick(node, 1, 1);
            for (int none : NO_NODE) {
                Check.same("pick to " + none, c.card.pick(node, 1, none), false);
                Check.same("pick of " + none, c.card.pick(none, 1, 0), false);
            }
            int[] noItem = {Check.LOWEST, -1, 0, 2, 254, 256, 257, Check.HIGHEST};
            for (int identifier : noItem) {
                Check.same("pick of ITEM " + identifier, c.card.pick(node, identifier, 0), false);
            }
        }
        Check.same("a NODE that is no CHOICE", c.card.pick(1, 1, 0), false);
        wayByItem(c, ChipCard.NONE, 1, 1);
        wayByItem(c, 0, 1, 1);
        Check bare = twoChoices();
        Check.same("an empty MENU", bare.card.pick(-1, 1, 0), false);
        Check.same("an empty CHOICE", bare.card.pick(0, 1, 0), false);
        bare.item(0, 1, "");
        Check.same("an ITEM of another NODE", bare.card.pick(1, 1, 0), false);
        Check.same("an ITEM of no MENU", bare.card.pick(-1, 1, 0), false);
    }

    private static void wayByEvent(Check c, int k, int due) {
        c.profile("02", 0x9000);
        c.event(k, due == ChipCard.NONE ? 0x9000 : 0x910B);
        Check.same("the NODE of EVENT " + k, c.card.count(12), due);
    }

    /** TIMER k is made to run by a NODE made for it, and runs out. */
    private static void wayByTimer(Check c, int k, int due) {
        int timer = c.card.count(1) < 3 ? c.node(4, 0, "") : 2;
        c.card.with(timer, k, 1, -1);
        start(c, timer);
        c.fetch();
        c.respond(0x27, 0, "00", "", 0x9000);
        c.envelope("D703A401" + Check.hex(k), due == ChipCard.NONE ? 0x9000 : 0x910B);
        Check.same("the NODE of TIMER " + k, c.card.count(12), due);
    }

    /** "The NODE (or NONE) of EVENT k (what 0), of TIMER k (what 1): true" */
    private static void byAtItsEdges() {
        int[] events = {0, 1, 8, 30, 31};
        for (int k : events) {
            Check c = twoRefreshes();
            wayByEvent(c, k, ChipCard.NONE);
            for (int node = 1; node >= -1; node--) {
                Check.same("by", c.card.by(0, k, node), true);
                wayByEvent(c, k, node);
            }
            wayByTimer(c, k >= 1 && k <= 8 ? k : 1, ChipCard.NONE);
        }
        for (int k = 1; k <= 8; k++) {
            Check c = twoRefreshes();
            wayByTimer(c, k, ChipCard.NONE);
            for (int node = 1; node >= -1; node--) {
                Check.same("by", c.card.by(1, k, node), true);
                wayByTimer(c, k, node);
            }
            wayByEvent(c, k, ChipCard.NONE);
        }
    }

    /** "false if there is no such NODE, EVENT, TIMER, or for another what" */
    private static void refusedByLeavesTheNode() {
        Check c = twoRefreshes();
        for (int k = 0; k <= 31; k++) {
            c.card.by(0, k, 1);
        }
        for (int k = 1; k <= 8; k++) {
            c.card.by(1, k, 1);
        }
        for (int none : NO_NODE) {
            Check.same("EVENT's NODE " + none, c.card.by(0, 0, none), false);
            Check.same("TIMER's NODE " + none, c.card.by(1, 1, none), false);
        }
        int[] noEvent = {Check.LOWEST, -2, -1, 32, 33, 255, Check.HIGHEST};
        for (int k : noEvent) {
            Check.same("EVENT " + k, c.card.by(0, k, 0), false);
            Check.same("EVENT " + k, c.card.by(0, k, -1), false);
        }
        int[] noTimer = {Check.LOWEST, -1, 0, 9, 10, 31, Check.HIGHEST};
        for (int k : noTimer) {
            Check.same("TIMER " + k, c.card.by(1, k, 0), false);
            Check.same("TIMER " + k, c.card.by(1, k, -1), false);
        }
        int[] others = {Check.LOWEST, -1, 2, 3, Check.HIGHEST};
        for (int what : others) {
            Check.same("what " + what, c.card.by(what, 1, 0), false);
        }
        for (int k = 0; k <= 31; k++) {
            wayByEvent(c, k, 1);
        }
        for (int k = 1; k <= 8; k++) {
            wayByTimer(c, k, 1);
        }
    }
}
