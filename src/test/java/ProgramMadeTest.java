/** Promises 7 to 13: NODES, ITEMS, the title and where all of them GO. */
public final class ProgramMadeTest {
    public static void main(String[] args) {
        nodes();
        items();
        title();
        with();
        goes();
        pick();
        by();
        Check.finish();
    }

    private static void nodes() {
        Check c = new Check();
        for (int sort = 0; sort < 8; sort++) {
            Check.same("node of sort " + sort, c.node(sort, 255, "41"), sort);
        }
        wrongNode(c, IllegalArgumentException.class, -1, 0, "");
        wrongNode(c, IllegalArgumentException.class, 8, 0, "");
        wrongNode(c, IllegalArgumentException.class, 0, -1, "");
        wrongNode(c, IllegalArgumentException.class, 0, 256, "");
        wrongNode(c, IllegalArgumentException.class, 0, 0, Check.many("41", 101));
        Check.same("count 1", c.card.count(1), 8);
        for (int i = 8; i < 40; i++) {
            Check.same("node " + i, c.node(0, 0, Check.many("41", 100)), i);
        }
        wrongNode(c, UnsupportedOperationException.class, 0, 0, "");
        wrongNode(c, IllegalArgumentException.class, 8, 0, "");
        wrongNode(c, IllegalArgumentException.class, 0, 0, Check.many("41", 101));
        Check.same("count 1", c.card.count(1), 40);
    }

    private static void wrongNode(Check c, Class<? extends RuntimeException> due, int sort, int qualifier, String text) {
        c.tape(text);
        Check.throwing("node(" + sort + ", " + qualifier + ") " + text, due, () -> c.card.node(sort, qualifier));
    }

    private static void items() {
        Check c = new Check();
        c.node(2, 0, "");
        c.node(0, 0, "");
        Check.same("item 1", c.item(0, 1, ""), 1);
        Check.same("item 2", c.item(0, 255, Check.many("41", 20)), 2);
        wrongItem(c, IndexOutOfBoundsException.class, 2, 7, "");
        wrongItem(c, IndexOutOfBoundsException.class, -2, 7, "");
        wrongItem(c, IndexOutOfBoundsException.class, 2, 0, Check.many("41", 21));
        wrongItem(c, IllegalArgumentException.class, 1, 7, "");
        wrongItem(c, IllegalArgumentException.class, 0, 0, "");
        wrongItem(c, IllegalArgumentException.class, 0, 256, "");
        wrongItem(c, IllegalArgumentException.class, 0, -1, "");
        wrongItem(c, IllegalArgumentException.class, 0, 1, "");
        wrongItem(c, IllegalArgumentException.class, 0, 255, "");
        wrongItem(c, IllegalArgumentException.class, 0, 7, Check.many("41", 21));
        Check.same("item 3", c.item(0, 3, ""), 3);
        Check.same("item 4", c.item(0, 4, ""), 4);
        Check.same("item 5", c.item(0, 5, ""), 5);
        wrongItem(c, UnsupportedOperationException.class, 0, 6, "");
        wrongItem(c, IllegalArgumentException.class, 0, 5, "");
        Check.same("the MENU has none yet", c.card.count(2), 0);
        for (int i = 1; i <= 5; i++) {
            Check.same("item of the MENU " + i, c.item(-1, i, "41"), i);
        }
        wrongItem(c, UnsupportedOperationException.class, -1, 6, "");
        wrongItem(c, IllegalArgumentException.class, -1, 5, "");
        wrongItem(c, IllegalArgumentException.class, -1, 6, Check.many("41", 21));
        Check.same("count 2", c.card.count(2), 5);
        for (int i = 2; i < 8; i++) {
            c.node(i == 2 ? 1 : i, 0, "");
            int node = i;
            wrongItem(c, IllegalArgumentException.class, node, 1, "");
        }
    }

    private static void wrongItem(Check c, Class<? extends RuntimeException> due, int node, int identifier, String text) {
        c.tape(text);
        Check.throwing("item(" + node + ", " + identifier + ") " + text, due, () -> c.card.item(node, identifier));
    }

    private static void title() {
        Check c = new Check();
        c.item(-1, 1, "41");
        c.tape(Check.many("54", 20));
        Check.same("title", c.card.title(), 20);
        c.tape(Check.many("55", 21));
        Check.throwing("long title", IllegalArgumentException.class, () -> c.card.title());
        c.profile(Check.FULL_PROFILE, 0x9125);
        c.tape("4D4E");
        Check.same("title while it is PENDING", c.card.title(), 2);
        c.fetches("D011 8103012500 82028182 85024D4E 8F020141");
        Check.same("empty title", c.card.title(), 0);
        c.profile(Check.FULL_PROFILE, 0x9111);
        c.fetches("D00F 8103012500 82028182 8500 8F020141");
    }

    private static void with() {
        Check c = new Check();
        c.node(1, 0, "");
        c.card.file(0, 1, 1, 1, 1);
        c.card.by(0, 0, 0);
        c.profile(Check.FULL_PROFILE, 0x9000);
        c.event(0, 0x9112);
        c.fetches("D010 8103012300 82028182 8D0104 910200FF");
        Check.same("with", c.card.with(0, 255, 0, 1), true);
        Check.same("with the root", c.card.with(0, 255, 0, 0), true);
        Check.same("with NONE", c.card.with(0, 9, 8, -1), true);
        Check.same("node 1", c.card.with(1, 0, 0, -1), false);
        Check.same("node -1", c.card.with(-1, 0, 0, -1), false);
        Check.same("least -1", c.card.with(0, -1, 0, -1), false);
        Check.same("least 256", c.card.with(0, 256, 0, -1), false);
        Check.same("most -1", c.card.with(0, 0, -1, -1), false);
        Check.same("most 256", c.card.with(0, 0, 256, -1), false);
        Check.same("file 2", c.card.with(0, 0, 0, 2), false);
        Check.same("file -2", c.card.with(0, 0, 0, -2), false);
        c.profile(Check.FULL_PROFILE, 0x9000);
        c.event(0, 0x9112);
        c.fetches("D010 8103012300 82028182 8D0104 91020908");
    }

    private static void goes() {
        Check c = new Check();
        c.node(0, 0, "");
        c.node(0, 1, "");
        Check.same("goes", c.card.goes(0, 0, 1), true);
        Check.same("goes to itself", c.card.goes(0, 1, 0), true);
        Check.same("goes by 3", c.card.goes(0, 3, 1), true);
        Check.same("goes nowhere", c.card.goes(0, 3, -1), true);
        Check.same("outcome 4", c.card.goes(0, 4, 1), false);
        Check.same("outcome -1", c.card.goes(0, -1, 1), false);
        Check.same("node 2", c.card.goes(2, 0, 1), false);
        Check.same("node -1", c.card.goes(-1, 0, 1), false);
        Check.same("to 2", c.card.goes(0, 0, 2), false);
        Check.same("to -2", c.card.goes(0, 0, -2), false);
        String[] results = {"00", "11", "10", "30"};
        int[] due = {1, 0, -1, -1};
        for (int i = 0; i < 4; i++) {
            c.card.by(0, 0, 0);
            c.profile(Check.FULL_PROFILE, 0x9000);
            c.event(0, 0x910E);
            c.fetch();
            c.respond(0x21, 0, results[i], "", due[i] < 0 ? 0x9000 : 0x910E);
            Check.same("NODE by outcome " + i, c.card.count(12), due[i]);
        }
    }

    private static void pick() {
        Check c = new Check();
        c.node(2, 0, "");
        c.node(0, 0, "");
        c.item(0, 9, "");
        c.item(-1, 8, "");
        Check.same("pick", c.card.pick(0, 9, 1), true);
        Check.same("pick nowhere", c.card.pick(0, 9, -1), true);
        Check.same("pick of the MENU", c.card.pick(-1, 8, 0), true);
        Check.same("no item", c.card.pick(0, 8, 1), false);
        Check.same("no item of the MENU", c.card.pick(-1, 9, 1), false);
        Check.same("no choice", c.card.pick(1, 9, 1), false);
        Check.same("identifier 0", c.card.pick(0, 0, 1), false);
        Check.same("node 2", c.card.pick(2, 9, 1), false);
        Check.same("node -2", c.card.pick(-2, 9, 1), false);
        Check.same("to 2", c.card.pick(0, 9, 2), false);
        Check.same("to -2", c.card.pick(0, 9, -2), false);
    }

    private static void by() {
        Check c = new Check();
        c.node(0, 0, "");
        Check.same("event 0", c.card.by(0, 0, 0), true);
        Check.same("event 31", c.card.by(0, 31, 0), true);
        Check.same("event 32", c.card.by(0, 32, 0), false);
        Check.same("event -1", c.card.by(0, -1, 0), false);
        Check.same("timer 0", c.card.by(1, 0, 0), false);
        Check.same("timer 1", c.card.by(1, 1, 0), true);
        Check.same("timer 8", c.card.by(1, 8, 0), true);
        Check.same("timer 9", c.card.by(1, 9, 0), false);
        Check.same("what 2", c.card.by(2, 1, 0), false);
        Check.same("what -1", c.card.by(-1, 1, 0), false);
        Check.same("node 1", c.card.by(0, 0, 1), false);
        Check.same("node -2", c.card.by(1, 1, -2), false);
        c.profile(Check.FULL_PROFILE, 0x9000);
        c.event(31, 0x910E);
        Check.same("event 31 none", c.card.by(0, 31, -1), true);
        c.profile(Check.FULL_PROFILE, 0x9000);
        c.event(31, 0x9000);
        c.event(0, 0x910E);
    }
}
