/** What the tests share: a card that is spoken to in hex, and answers compared with those that are due. */
final class Check {
    private static int wrong = 0;
    private static int asked = 0;
    static final String FULL_PROFILE = "FFFFFFFFFFFFFFFF";
    static final int LOWEST = Integer.MIN_VALUE;
    static final int HIGHEST = Integer.MAX_VALUE;

    final ChipCard card = new ChipCard();

    static void same(String what, long got, long due) {
        asked++;
        if (got != due) {
            wrong++;
            System.out.println(what + " answered " + got + ", due is " + due);
        }
    }

    static void same(String what, boolean got, boolean due) {
        same(what, got ? 1 : 0, due ? 1 : 0);
    }

    static void same(String what, String got, String due) {
        asked++;
        if (!got.equals(due)) {
            wrong++;
            System.out.println(what + " answered " + got + ", due is " + due);
        }
    }

    static void throwing(String what, Class<? extends RuntimeException> due, Runnable call) {
        asked++;
        try {
            call.run();
        } catch (RuntimeException e) {
            if (e.getClass() != due) {
                wrong++;
                System.out.println(what + " threw " + e + ", due is " + due.getName());
            }
            return;
        }
        wrong++;
        System.out.println(what + " threw nothing, due is " + due.getName());
    }

    static void finish() {
        System.out.println(asked + " answers asked, " + wrong + " wrong");
        if (wrong != 0 || asked == 0) {
            System.exit(1);
        }
    }

    static int[] bytes(String hex) {
        String plain = hex.replace(" ", "");
        int[] made = new int[plain.length() / 2];
        for (int i = 0; i < made.length; i++) {
            made[i] = Integer.parseInt(plain.substring(2 * i, 2 * i + 2), 16);
        }
        return made;
    }

    static String hex(int n) {
        return String.format("%02X", n);
    }

    /** So many times the same bytes. */
    static String many(String hex, int n) {
        return hex.replace(" ", "").repeat(n);
    }

    /** THE TAPE is these bytes alone. */
    void tape(String hex) {
        int[] all = bytes(hex);
        card.end(0);
        for (int i = 0; i < all.length; i += 20) {
            int[] five = new int[5];
            for (int k = 0; k < 20; k++) {
                int b = i + k < all.length ? all[i + k] : 0;
                five[k / 4] = five[k / 4] << 8 | b;
            }
            card.feed(five[0], five[1], five[2], five[3], five[4]);
        }
        card.end(all.length);
    }

    int command(String hex) {
        tape(hex);
        return card.command();
    }

    /** A command with DATA, whose length is put ahead of it. */
    int send(String header, String data) {
        return command(whole(header, data));
    }

    String out() {
        StringBuilder all = new StringBuilder();
        for (int i = 0; i < card.count(3); i++) {
            all.append(hex(card.out(i)));
        }
        return all.toString();
    }

    /** The status is due, and THE OUT is empty. */
    void refused(String hex, int status) {
        status(hex, status);
        same("THE OUT behind " + hex, card.count(3), 0);
    }

    void status(String hex, int status) {
        same(hex, Integer.toHexString(command(hex)), Integer.toHexString(status));
    }

    /** A command with DATA, its length ahead of it, as the whole COMMAND. */
    static String whole(String header, String data) {
        return header + hex(bytes(data).length) + data;
    }

    /** Each count but those of THE TAPE and THE OUT, and each TIMER. */
    String counts() {
        StringBuilder all = new StringBuilder();
        for (int what = 0; what <= 15; what++) {
            if (what != 3 && what != 4) {
                all.append(what).append(": ").append(card.count(what)).append(", ");
            }
        }
        for (int k = 1; k <= 8; k++) {
            all.append(card.timer(k));
        }
        return all.toString();
    }

    /** All that can be looked at, but for THE TAPE and THE OUT. */
    String state() {
        StringBuilder all = new StringBuilder(counts());
        for (int file = 0; file < card.count(0); file++) {
            all.append(", FILE ").append(file).append(": ").append(fileBytes(file));
        }
        return all.toString();
    }

    /** The status is due, THE OUT is empty, and nothing else is another than before. */
    void unchanged(String hex, int status) {
        String before = state();
        refused(hex, status);
        same("the state behind " + hex, state(), before);
    }

    /** Whether there is a right to do it. */
    void may(String hex, boolean can) {
        if (can) {
            status(hex, 0x9000);
        } else {
            unchanged(hex, 0x6982);
        }
    }

    /** The exception is due, THE TAPE is empty behind it, and nothing else is another than before. */
    void reads(String what, Class<? extends RuntimeException> due, String tape, Runnable call) {
        String before = state();
        tape(tape);
        throwing(what, due, call);
        same("THE TAPE behind " + what, card.count(4), 0);
        same("the state behind " + what, state(), before);
    }

    void answers(String hex, String due) {
        status(hex, 0x9000);
        same("THE OUT behind " + hex, out(), due.replace(" ", ""));
    }

    String fileBytes(int file) {
        StringBuilder all = new StringBuilder();
        for (int i = 0; card.byteOf(file, i) != ChipCard.NONE; i++) {
            all.append(hex(card.byteOf(file, i)));
        }
        return all.toString();
    }

    int node(int sort, int qualifier, String text) {
        tape(text);
        return card.node(sort, qualifier);
    }

    int item(int node, int identifier, String text) {
        tape(text);
        return card.item(node, identifier);
    }

    void profile(String profile, int status) {
        same("TERMINAL PROFILE " + profile, Integer.toHexString(send("80100000", profile)), Integer.toHexString(status));
    }

    void envelope(String data, int status) {
        same("ENVELOPE " + data, Integer.toHexString(send("80C20000", data)), Integer.toHexString(status));
    }

    void response(String data, int status) {
        same("RESPONSE " + data, Integer.toHexString(send("80140000", data)), Integer.toHexString(status));
    }

    /** EVENT k comes. */
    void event(int k, int status) {
        envelope("D6039901" + hex(k), status);
    }

    /** What is PENDING is fetched, with as many bytes as it has. */
    void fetches(String due) {
        answers("80120000" + hex(bytes(due).length), due);
    }

    /** Fetches whatever is PENDING. */
    void fetch() {
        int status = command("8012000000");
        status("80120000" + hex(status & 0xFF), 0x9000);
    }

    /** What was FETCHED is answered with a RESULT, and tags behind it. */
    void respond(int type, int qualifier, String result, String more, int status) {
        response("8103" + hex(card.count(13)) + hex(type) + hex(qualifier) + "8301" + result + more, status);
    }
}
