/** The boundary cases of lists of TLVS (term 4), in a RESPONSE and in each ENVELOPE. */
public final class TlvEdgesTest {
    private static final int DONE = 0x9000;
    private static final int WRONG = 0x6A80;
    private static final int MUST = 0x6A81;
    private static final int MISSING = 0x6A88;

    private static final String[] GOOD = {
        "8103012100 830100",
        "900107",
        "990105",
        "A40102",
        "8B0D 000091 7F FFFFFFFFFFFFFFFF 00",
    };
    private static final String[] KNOWN = {"01|02|03|0D|10|13|24|25", "02|10|15", "02|19", "02|24|25", "02|06|0B"};
    private static final String[] ENVELOPES = {"", "D3", "D6", "D7", "D1"};
    private static final int[] KINDS = {0, 1, 2, 3, 4};

    public static void main(String[] args) {
        tags();
        longTags();
        cutLongTags();
        shortLengths();
        longLengths();
        wrongLengths();
        endsInTheMidst();
        fullLists();
        wholeIsAskedFirst();
        mustIsAskedAheadOfWhatIsMissing();
        theFirstOneCounts();
        Check.finish();
    }

    /** A card that takes each of the lists: a DISPLAY is FETCHED for a RESPONSE, else TIMER 2 runs and nothing is PENDING. */
    private static Check ready(int kind) {
        Check c = new Check();
        c.node(0, 0, "");
        c.node(4, 0, "");
        c.card.with(1, 2, 1, -1);
        c.card.by(0, 0, kind == 0 ? 0 : 1);
        c.profile("FFFFFFFFDFFF", 0x9000);
        c.item(-1, 7, "");
        c.send("80C20000", "D603990100");
        c.fetch();
        if (kind != 0) {
            c.respond(0x27, 0, "00", "", 0x9000);
        }
        return c;
    }

    private static String command(int kind, String list) {
        if (kind == 0) {
            return Check.whole("80140000", list);
        }
        int n = Check.bytes(list).length;
        return Check.whole("80C20000", ENVELOPES[kind] + (n < 0x80 ? "" : "81") + Check.hex(n) + list);
    }

    /** The list is not taken: nothing changes; then that it was ready. */
    private static void refuses(Check c, int kind, String list, int due) {
        c.unchanged(command(kind, list), due);
    }

    private static void takes(int kind, String list) {
        Check c = ready(kind);
        c.status(command(kind, list), DONE);
        Check.same("nothing is FETCHED any more", c.card.count(11), 0);
    }

    private static boolean isKnown(int kind, int tag) {
        return Check.hex(tag & 0x7F).matches(KNOWN[kind]);
    }

    /** "A tag: a byte 01 .. 7E, or that and 80 (it MUST be understood)" */
    private static void tags() {
        for (int kind : KINDS) {
            Check c = ready(kind);
            for (int tag = 0; tag <= 255; tag++) {
                String tlv = Check.hex(tag) + "0100";
                int low = tag & 0x7F;
                if (low == 0 || low == 0x7F) {
                    continue;
                }
                if (isKnown(kind, tag) || tag < 0x80) {
                    takes(kind, GOOD[kind] + tlv);
                } else {
                    refuses(c, kind, GOOD[kind] + tlv, MUST);
                    refuses(c, kind, tlv + GOOD[kind], MUST);
                }
                if (tag < 0x80 && !isKnown(kind, tag)) {
                    takes(kind, tlv + GOOD[kind]);
                }
            }
            String[] none = {"0000", "000100", "8000", "800100", "00", "80"};
            for (String tlv : none) {
                refuses(c, kind, GOOD[kind] + tlv, WRONG);
                refuses(c, kind, tlv + GOOD[kind], WRONG);
            }
            c.status(command(kind, GOOD[kind]), DONE);
        }
    }

    /** "7F or FF and two bytes more: a tag that is never known (of FF it MUST)" */
    private static void longTags() {
        String[] two = {"0000", "0001", "0181", "8181", "FFFF", "7F7F", "0D0D", "9900"};
        for (int kind : KINDS) {
            Check c = ready(kind);
            for (String bytes : two) {
                takes(kind, "7F" + bytes + "00" + GOOD[kind]);
                takes(kind, GOOD[kind] + "7F" + bytes + "020102");
                takes(kind, "7F" + bytes + "00" + GOOD[kind] + "7F" + bytes + "00");
                refuses(c, kind, "FF" + bytes + "00" + GOOD[kind], MUST);
                refuses(c, kind, GOOD[kind] + "FF" + bytes + "020102", MUST);
                refuses(c, kind, "7F" + bytes + "00" + GOOD[kind] + "FF" + bytes + "00", MUST);
            }
            takes(kind, GOOD[kind] + "7F" + "0102" + "8180" + Check.many("00", 128));
            refuses(c, kind, GOOD[kind] + "FF" + "0102" + "8180" + Check.many("00", 128), MUST);
        }
    }

    private static void cutLongTags() {
        String[] cut = {"7F", "7F00", "7F0000", "7F000001", "7F00000201", "7F000081", "7F00008180", "FF", "FF00", "FF0000", "FF000001"};
        for (int kind : KINDS) {
            Check c = ready(kind);
            for (String tlv : cut) {
                refuses(c, kind, GOOD[kind] + tlv, WRONG);
            }
        }
    }

    /** "A length: 00 .. 7F" */
    private static void shortLengths() {
        for (int kind : KINDS) {
            Check c = ready(kind);
            for (int n = 0; n <= 0x7F; n++) {
                takes(kind, GOOD[kind] + "02" + Check.hex(n) + Check.many("00", n));
                if (n > 0) {
                    refuses(c, kind, GOOD[kind] + "02" + Check.hex(n) + Check.many("02", n - 1), WRONG);
                }
                refuses(c, kind, GOOD[kind] + "02" + Check.hex(n) + Check.many("02", n + 1), WRONG);
            }
        }
    }

    /** "or 81 and 80 .. FF" */
    private static void longLengths() {
        for (int kind : KINDS) {
            Check c = ready(kind);
            int room = 252 - Check.bytes(GOOD[kind]).length - 3;
            for (int n = 0x80; n <= room; n += n < 0x82 || n >= room - 2 ? 1 : 20) {
                takes(kind, GOOD[kind] + "0281" + Check.hex(n) + Check.many("00", n));
                refuses(c, kind, GOOD[kind] + "0281" + Check.hex(n) + Check.many("02", n - 1), WRONG);
            }
            refuses(c, kind, GOOD[kind] + "0281FF" + Check.many("00", 200), WRONG);
        }
    }

    /** 81 and a byte below 80, and all other bytes from 80 on, are no length, whatever follows. */
    private static void wrongLengths() {
        for (int kind : KINDS) {
            Check c = ready(kind);
            for (int second = 0; second <= 0x7F; second++) {
                refuses(c, kind, "0281" + Check.hex(second) + Check.many("00", second) + GOOD[kind], WRONG);
                if (second > 0) {
                    refuses(c, kind, "0281" + Check.hex(second) + Check.many("00", second - 1) + GOOD[kind], WRONG);
                }
            }
            for (int first = 0x80; first <= 0xFF; first++) {
                if (first != 0x81) {
                    refuses(c, kind, "02" + Check.hex(first) + GOOD[kind], WRONG);
                    refuses(c, kind, "02" + Check.hex(first) + "01" + "00" + GOOD[kind], WRONG);
                    refuses(c, kind, "02" + Check.hex(first) + "0001" + "00" + GOOD[kind], WRONG);
                    if (first <= 0xE0) {
                        refuses(c, kind, "02" + Check.hex(first) + Check.many("02", first) + GOOD[kind], WRONG);
                        refuses(c, kind, "02" + Check.hex(first) + Check.many("02", first + 1) + GOOD[kind], WRONG);
                    }
                }
            }
            c.status(command(kind, GOOD[kind]), DONE);
        }
    }

    /** "6A80: a list that is not so, or ends in the midst" */
    private static void endsInTheMidst() {
        for (int kind : KINDS) {
            Check c = ready(kind);
            String list = (GOOD[kind] + "0203010203" + "7F01020101" + "028180" + Check.many("00", 128)).replace(" ", "");
            for (int n = 1; n <= list.length() / 2; n++) {
                String part = list.substring(0, 2 * n);
                if (isWhole(part)) {
                    continue;
                }
                refuses(c, kind, part, WRONG);
            }
            takes(kind, list);
        }
    }

    private static boolean isWhole(String list) {
        int[] all = Check.bytes(list);
        int at = 0;
        while (at < all.length) {
            at += (all[at] & 0x7F) == 0x7F ? 3 : 1;
            if (at < all.length && all[at] == 0x81) {
                at++;
            }
            at += 1 + (at < all.length ? all[at] : 1000);
        }
        return at == all.length;
    }

    /** As many TLVS as a COMMAND can have, and the longest one. */
    private static void fullLists() {
        for (int kind : KINDS) {
            int room = (kind == 0 ? 255 : 252) - Check.bytes(GOOD[kind]).length;
            takes(kind, (room % 2 == 0 ? "" : "020100") + Check.many("0200", (room - room % 2 * 3) / 2) + GOOD[kind]);
            takes(kind, GOOD[kind] + "0281" + Check.hex(room - 3) + Check.many("00", room - 3));
            Check c = ready(kind);
            refuses(c, kind, Check.many("0200", room / 2 - 1) + GOOD[kind] + "8500", MUST);
            refuses(c, kind, Check.many("0200", room / 2 - 1) + GOOD[kind] + "02", WRONG);
        }
    }

    /** "but 6A81: one of them MUST be understood (the list being whole)" */
    private static void wholeIsAskedFirst() {
        for (int kind : KINDS) {
            Check c = ready(kind);
            String[] unknown = {"EE00", "FF000000"};
            for (String must : unknown) {
                refuses(c, kind, must + GOOD[kind], MUST);
                refuses(c, kind, must + GOOD[kind] + "00", WRONG);
                refuses(c, kind, must + GOOD[kind] + "0201", WRONG);
                refuses(c, kind, GOOD[kind] + must + "81", WRONG);
                refuses(c, kind, must + "8000", WRONG);
            }
        }
    }

    private static void mustIsAskedAheadOfWhatIsMissing() {
        for (int kind : KINDS) {
            Check c = ready(kind);
            refuses(c, kind, "EE00", MUST);
            refuses(c, kind, "8200EE00", MUST);
            refuses(c, kind, "8200", MISSING);
            refuses(c, kind, "6E00", MISSING);
            refuses(c, kind, "7F000000", MISSING);
        }
    }

    /** "A known tag counts the first time; later ones of it are passed over" */
    private static void theFirstOneCounts() {
        String[] later = {"8100 8300 030130 010309", "9000 1001FF", "9900 19021F1F", "A400 2401FF", "8B00 0B01FF"};
        String[] wrongFirst = {"8100", "9000", "9900", "A400", "8B00"};
        for (int kind : KINDS) {
            String list = later[kind].replace("010309", "0103090909");
            takes(kind, GOOD[kind] + list);
            Check c = ready(kind);
            refuses(c, kind, wrongFirst[kind] + GOOD[kind], WRONG);
            String plain = Check.hex(Integer.parseInt(wrongFirst[kind].substring(0, 2), 16) & 0x7F) + "00";
            refuses(c, kind, plain + GOOD[kind], WRONG);
            c.status(command(kind, GOOD[kind]), DONE);
        }
    }
}
