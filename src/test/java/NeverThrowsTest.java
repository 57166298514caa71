import java.util.NoSuchElementException;
import java.util.Random;

/** Random calls in random states: only the exceptions of the document come, and the class itself threw them. */
public final class NeverThrowsTest {
    private static final int[] SPECIAL = {Integer.MIN_VALUE, Integer.MAX_VALUE, -2, -1, 0, 1, 2, 255, 256, 1000, 65535, 65536};
    private static final String[] COMMANDS = {
        "00A4000C023F00", "00A40004020001", "00A4080C020002", "00A4000C020003", "00B0000000", "00B0000005", "00D60001020102",
        "00B2000200", "00B2000300", "00B2010400", "00DC000203010203", "00DC000303010203", "00A200040101", "00A2000401FF",
        "002000010831323334FFFFFFFF", "00200001", "0020000108FFFFFFFFFFFFFFFF",
        "002400011031323334FFFFFFFF31323334FFFFFFFF", "002C0001103838383838383838 31323334FFFFFFFF",
        "8010000008FFFFFFFFFFFFFFFF", "8010000001FF", "80C2000005D303900101", "80C2000005D603990101", "80C2000005D703A40101",
        "80C200001BD1198B17000091 7FFFFFFFFFFFFFFFFF 0AC00500010000EEC1 0100",
        "80C2000012D1108B0E000091 7FFFFFFFFFFFFFFFFF 03C10101",
    };

    public static void main(String[] args) {
        int pending = 0;
        for (int seed = 0; seed < 3000; seed++) {
            pending += run(new Random(seed));
        }
        Check.same("the runs reached FETCHED and went on", pending > 1000, true);
        Check.finish();
    }

    private static int run(Random random) {
        Check c = new Check();
        int reached = 0;
        for (int i = 0; i < 150; i++) {
            String state = "call " + i;
            try {
                call(c, random);
            } catch (RuntimeException e) {
                boolean isOwn = e.getStackTrace()[0].getClassName().equals("ChipCard");
                boolean isTold = e instanceof NoSuchElementException || e.getClass() == IndexOutOfBoundsException.class
                    || e.getClass() == IllegalArgumentException.class || e.getClass() == UnsupportedOperationException.class;
                Check.same(state + " threw " + e, isOwn && isTold, true);
            }
            if (c.card.count(11) == 2) {
                reached++;
            }
            invariants(c);
        }
        return reached;
    }

    private static void invariants(Check c) {
        ChipCard x = c.card;
        boolean isIdle = x.count(11) == 0;
        boolean isSound = x.count(0) <= 40 && x.count(15) <= 8000 && x.count(1) <= 40 && x.count(2) <= 5 && x.count(3) <= 256
            && x.count(4) <= 300 && x.count(5) >= 0 && x.count(5) <= 3 && x.count(6) >= 0 && x.count(6) <= 10
            && x.count(8) >= 0 && x.count(9) >= 0 && x.count(9) <= 255 && isIdle == (x.count(13) == 0)
            && (!isIdle || x.count(12) == -1) && (x.count(7) != -1 || x.count(9) == 0);
        Check.same("the looks agree", isSound, true);
    }

    private static int number(Random random, int below) {
        return random.nextInt(12) == 0 ? SPECIAL[random.nextInt(SPECIAL.length)] : random.nextInt(below + 2) - 1;
    }

    private static void call(Check c, Random r) {
        ChipCard x = c.card;
        switch (r.nextInt(22)) {
            case 0: x.feed(r.nextInt(), r.nextInt(), r.nextInt(), r.nextInt(), r.nextInt()); break;
            case 1: x.end(number(r, 300)); break;
            case 2: x.file(number(r, 3), number(r, 4), number(r, 8), number(r, 5), number(r, 3)); break;
            case 3: x.file(0, 1, number(r, 8), number(r, 20), 1); break;
            case 4: x.rights(number(r, 5), number(r, 3), number(r, 3)); break;
            case 5: c.tape(Check.many("5A", r.nextInt(8))); x.fill(number(r, 5), number(r, 8)); break;
            case 6: c.tape(Check.many("5A", r.nextInt(103))); x.node(number(r, 8), number(r, 4)); break;
            case 7: c.tape(Check.many("5A", r.nextInt(22))); x.item(number(r, 6), number(r, 5)); break;
            case 8: c.tape(Check.many("5A", r.nextInt(22))); x.title(); break;
            case 9: x.with(number(r, 6), number(r, 9), number(r, 9), number(r, 4)); break;
            case 10: x.goes(number(r, 6), number(r, 4), number(r, 6)); break;
            case 11: x.pick(number(r, 6), number(r, 5), number(r, 6)); break;
            case 12: x.by(number(r, 2), number(r, 9), number(r, 6)); break;
            case 13: if (r.nextInt(4) == 0) { x.reset(); } break;
            case 14: x.out(number(r, 30)); break;
            case 15: x.count(number(r, 16)); x.timer(number(r, 9)); x.byteOf(number(r, 5), number(r, 30)); break;
            case 16: c.command("80120000" + Check.hex(c.command("8012000000") & 0xFF)); break;
            case 17: x.command(); break;
            default: terminal(c, r); break;
        }
    }

    private static void terminal(Check c, Random r) {
        String hex = COMMANDS[r.nextInt(COMMANDS.length)].replace(" ", "");
        if (c.card.count(11) == 2 && r.nextInt(3) > 0) {
            hex = response(c, r);
        }
        if (r.nextInt(3) == 0) {
            int at = r.nextInt(hex.length() / 2) * 2;
            hex = hex.substring(0, at) + Check.hex(r.nextInt(256)) + hex.substring(at + 2);
        }
        int status = c.command(hex);
        Check.same("a status of " + hex, status >= 0 && status <= 65535, true);
    }

    private static String response(Check c, Random r) {
        String[] types = {"2100", "2300", "2400", "1300", "2700", "0100", "2600", "0500", "2500"};
        String[] results = {"00", "11", "10", "20", "30"};
        String type = types[r.nextInt(types.length)];
        String about = type.substring(0, 2) + Check.hex(r.nextInt(4));
        String data = "8103" + Check.hex(c.card.count(13)) + about + "8301" + results[r.nextInt(results.length)]
            + (r.nextInt(2) == 0 ? "900101" : "8D03043132") + (r.nextInt(2) == 0 ? "13020102" : "");
        return "80140000" + Check.hex(data.length() / 2) + data;
    }
}
