import java.util.ArrayList;
import java.util.Arrays;
import java.util.NoSuchElementException;

/**
 * A chip card with a tree of files and a toolkit: commands of a terminal are answered byte for byte;
 * programs of displays, inputs, choices, messages, timers are run through the terminal.
 */
public final class ChipCard {
    public static final int NONE = -1;

    private static final int DONE = 0x9000;
    private static final int DONE_AND_PENDING = 0x9100;
    private static final int TOOLKIT_BUSY = 0x9300;
    private static final int WRONG_SECRET = 0x63C0;
    private static final int WRONG_LENGTH = 0x6700;
    private static final int WRONG_KIND = 0x6981;
    private static final int NO_RIGHT = 0x6982;
    private static final int NO_TRIES = 0x6983;
    private static final int NOT_NOW = 0x6985;
    private static final int NO_FILE_AT_HAND = 0x6986;
    private static final int WRONG_DATA = 0x6A80;
    private static final int NOT_UNDERSTOOD = 0x6A81;
    private static final int NOT_FOUND = 0x6A82;
    private static final int NO_RECORD = 0x6A83;
    private static final int WRONG_PARAMETERS = 0x6A86;
    private static final int DATA_MISSING = 0x6A88;
    private static final int WRONG_PLACE = 0x6B00;
    private static final int WRONG_WANTED = 0x6C00;
    private static final int WRONG_INS = 0x6D00;
    private static final int WRONG_CLA = 0x6E00;

    private static final int DIRECTORY = 0;
    private static final int BYTES = 1;
    private static final int RECORDS = 2;
    private static final int RING = 3;
    private static final int ROOT_ID = 0x3F00;
    private static final int MOST_FILES = 40;
    private static final int MOST_FILE_BYTES = 8000;

    private static final int ALWAYS = 0;
    private static final int BEHIND_PIN = 1;
    private static final int NEVER = 2;

    private static final int BY_NUMBER = 0x04;
    private static final int NEXT = 0x02;
    private static final int AHEAD = 0x03;

    private static final int DISPLAY = 0;
    private static final int INPUT = 1;
    private static final int CHOICE = 2;
    private static final int MESSAGE = 3;
    private static final int TIMER = 4;
    private static final int INFO = 6;
    private static final int EVENTS = 7;
    private static final int MENU = 8;
    private static final int[] TYPES = {0x21, 0x23, 0x24, 0x13, 0x27, 0x01, 0x26, 0x05, 0x25};
    private static final int MOST_NODES = 40;
    private static final int MOST_ITEMS = 5;
    private static final int MOST_TEXT = 100;
    private static final int MOST_ITEM_TEXT = 20;

    private static final int OK = 0;
    private static final int BACK = 1;
    private static final int ENDED = 2;
    private static final int FAILED = 3;
    private static final int OUTCOMES = 4;

    private static final int EVENT_COUNT = 32;
    private static final int TIMER_COUNT = 8;

    private static final int IDLE = 0;
    private static final int PENDING = 1;
    private static final int FETCHED = 2;

    private static final int MOST_TAPE = 300;
    private static final int MOST_DATA = 255;
    private static final int ALL_WANTED = 256;

    private static final int TAG_COMMAND = 0x01;
    private static final int TAG_RESULT = 0x03;
    private static final int TAG_MESSAGE = 0x0B;
    private static final int TAG_TEXT = 0x0D;
    private static final int TAG_ITEM = 0x10;
    private static final int TAG_INFO = 0x13;
    private static final int TAG_EVENT = 0x19;
    private static final int TAG_TIMER = 0x24;
    private static final int[] RESPONSE_TAGS = {0x01, 0x02, 0x03, 0x0D, 0x10, 0x13, 0x24, 0x25};
    private static final int[] MENU_TAGS = {0x02, 0x10, 0x15};
    private static final int[] EVENT_TAGS = {0x02, 0x19};
    private static final int[] TIMER_TAGS = {0x02, 0x24, 0x25};
    private static final int[] MESSAGE_TAGS = {0x02, 0x06, 0x0B};

    private final Row answer = new Row(ALL_WANTED);
    private final Request request = new Request();
    private final Files files = new Files();
    private final Secrets secrets = new Secrets();
    private final FileCommands fileCommands = new FileCommands(files, secrets, answer);
    private final Program program = new Program();
    private final Session session = new Session(program);
    private final Toolkit toolkit = new Toolkit(files, program, session, answer);
    private Row tape = new Row(MOST_TAPE);
    private Row spareTape = new Row(MOST_TAPE);
    private int doneCommands;

    /** A card with the root alone, an empty MENU, no NODES; as behind reset(). */
    public ChipCard() {
    }

    // ---- the tape

    /** Twenty bytes come behind THE TAPE: how many it has then; NONE if they have no room. */
    public int feed(int a, int b, int c, int d, int e) {
        if (tape.length() > MOST_TAPE - 20) {
            return NONE;
        }
        tape.addFour(a);
        tape.addFour(b);
        tape.addFour(c);
        tape.addFour(d);
        tape.addFour(e);
        return tape.length();
    }

    /** THE TAPE keeps its first n bytes alone. */
    public boolean end(int n) {
        return tape.cut(n);
    }

    // ---- the card is made (at any time; what is at hand, PENDING stays)

    /** A new FILE in a DIRECTORY: its number. */
    public int file(int above, int kind, int id, int size, int many)
            throws IndexOutOfBoundsException, IllegalArgumentException, UnsupportedOperationException {
        CardFile directory = files.get(above);
        if (directory == null) {
            throw new IndexOutOfBoundsException("there is no such file above");
        }
        if (directory.kind != DIRECTORY || !files.isFreeId(directory, id)) {
            throw new IllegalArgumentException("no directory above, or the id can not be had");
        }
        if (!Files.isShape(kind, size, many)) {
            throw new IllegalArgumentException("no such kind, or not of this size");
        }
        if (!files.hasRoom(size * many)) {
            throw new UnsupportedOperationException("the card is full");
        }
        return files.make(directory, kind, id, size, many);
    }

    /** The rights of a FILE are set. */
    public boolean rights(int file, int read, int write) {
        CardFile target = files.get(file);
        if (target == null || !isRight(read) || !isRight(write)) {
            return false;
        }
        target.read = read;
        target.write = write;
        return true;
    }

    /** THE TAPE goes into a FILE's bytes from a place on: how many. */
    public int fill(int file, int at) throws IndexOutOfBoundsException, IllegalArgumentException {
        Row taken = takeTape();
        CardFile target = files.get(file);
        if (target == null || target.kind == DIRECTORY) {
            throw new IndexOutOfBoundsException("there is no such file with bytes");
        }
        if (at < 0 || at > target.total() - taken.length()) {
            throw new IllegalArgumentException("the bytes go beyond the file");
        }
        target.put(at, taken, 0, taken.length());
        return taken.length();
    }

    /** A new NODE with THE TAPE as its TEXT: its number. */
    public int node(int sort, int qualifier) throws IllegalArgumentException, UnsupportedOperationException {
        Row taken = takeTape();
        if (sort < DISPLAY || sort > EVENTS || !isByte(qualifier)) {
            throw new IllegalArgumentException("no such sort or qualifier");
        }
        if (taken.length() > MOST_TEXT) {
            throw new IllegalArgumentException("the text is too long");
        }
        if (program.size() >= MOST_NODES) {
            throw new UnsupportedOperationException("there are 40 nodes");
        }
        return program.make(sort, qualifier, taken.copy());
    }

    /** A new ITEM of a CHOICE or of the MENU, with THE TAPE as its text: how many there are then. */
    public int item(int node, int identifier)
            throws IndexOutOfBoundsException, IllegalArgumentException, UnsupportedOperationException {
        Row taken = takeTape();
        Node owner = program.nodeOrMenu(node);
        if (owner == null) {
            throw new IndexOutOfBoundsException("there is no such node");
        }
        if (!owner.takesItems() || identifier < 1 || identifier > 255) {
            throw new IllegalArgumentException("no choice, or no such identifier");
        }
        if (owner.placeOf(identifier) != NONE || taken.length() > MOST_ITEM_TEXT) {
            throw new IllegalArgumentException("the identifier is there already, or the text is too long");
        }
        if (owner.items() >= MOST_ITEMS) {
            throw new UnsupportedOperationException("there are 5 items");
        }
        owner.addItem(identifier, taken.copy());
        return owner.items();
    }

    /** THE TAPE is the MENU's title: how many bytes. */
    public int title() throws IllegalArgumentException {
        Row taken = takeTape();
        if (taken.length() > MOST_ITEM_TEXT) {
            throw new IllegalArgumentException("the title is too long");
        }
        program.menu.text = taken.copy();
        return taken.length();
    }

    /** LEAST, MOST and the FILE of a NODE are set. */
    public boolean with(int node, int least, int most, int file) {
        Node target = program.get(node);
        if (target == null || !isByte(least) || !isByte(most)) {
            return false;
        }
        if (file != NONE && files.get(file) == null) {
            return false;
        }
        target.least = least;
        target.most = most;
        target.file = files.get(file);
        return true;
    }

    /** Where a NODE GOES by an OUTCOME. */
    public boolean goes(int node, int outcome, int to) {
        Node from = program.get(node);
        return from != null && program.isNodeOrNone(to) && from.leadBy(outcome, to);
    }

    /** Where a NODE, or the MENU, GOES by one of its ITEMS. */
    public boolean pick(int node, int identifier, int to) {
        Node from = program.nodeOrMenu(node);
        return from != null && program.isNodeOrNone(to) && from.leadByItem(identifier, to);
    }

    /** The NODE of an EVENT (what 0) or of a TIMER (what 1). */
    public boolean by(int what, int k, int node) {
        if (!program.isNodeOrNone(node)) {
            return false;
        }
        if (what == 0) {
            return program.leadByEvent(k, node);
        }
        return what == 1 && program.leadByTimer(k, node);
    }

    // ---- the terminal

    /** Power goes off and on. */
    public void reset() {
        fileCommands.restart();
        secrets.verified = false;
        session.restart();
    }

    /** THE TAPE is a COMMAND: its STATUS. */
    public int command() {
        Row taken = takeTape();
        answer.clear();
        int status = request.read(taken) ? carryOut() : WRONG_LENGTH;
        if (status == DONE) {
            doneCommands++;
            if (session.state == PENDING) {
                return DONE_AND_PENDING + session.pendingSize();
            }
        }
        return status;
    }

    /** Byte i of THE OUT. */
    public int out(int i) throws NoSuchElementException {
        int found = answer.get(i);
        if (found == NONE) {
            throw new NoSuchElementException("the out has no such byte");
        }
        return found;
    }

    // ---- looks

    /** One of the numbers 0 to 15 of the document; NONE for another what. */
    public int count(int what) {
        switch (what) {
            case 0: return files.size();
            case 1: return program.size();
            case 2: return program.menu.items();
            case 3: return answer.length();
            case 4: return tape.length();
            case 5: return secrets.pinTries;
            case 6: return secrets.keyTries;
            case 7: return fileCommands.fileNumber();
            case 8: return fileCommands.directoryNumber();
            case 9: return fileCommands.record;
            case 10: return secrets.verified ? 1 : 0;
            case 11: return session.state;
            case 12: return session.nodeNumber();
            case 13: return session.commandNumber();
            case 14: return doneCommands;
            case 15: return files.bytes;
            default: return NONE;
        }
    }

    /** Whether a TIMER runs. */
    public int timer(int k) {
        if (!isTimer(k)) {
            return NONE;
        }
        return session.runs(k) ? 1 : 0;
    }

    /** Byte i of a FILE. */
    public int byteOf(int file, int i) {
        CardFile target = files.get(file);
        return target == null ? NONE : target.get(i);
    }

    /** The two rows are used in turns, so that a call can read what it emptied and makes no object. */
    private Row takeTape() {
        Row taken = tape;
        tape = spareTape;
        spareTape = taken;
        tape.clear();
        return taken;
    }

    /** One switch over both bytes keeps the calls below it shallow. */
    private int carryOut() {
        switch (request.cla << 8 | request.ins) {
            case 0x00A4: return fileCommands.select(request);
            case 0x00B0: return fileCommands.readBytes(request);
            case 0x00D6: return fileCommands.writeBytes(request);
            case 0x00B2: return fileCommands.readRecord(request);
            case 0x00DC: return fileCommands.writeRecord(request);
            case 0x00A2: return fileCommands.search(request);
            case 0x0020: return secrets.verify(request);
            case 0x0024: return secrets.change(request);
            case 0x002C: return secrets.unblock(request);
            case 0x8010: return toolkit.terminalProfile(request);
            case 0x8012: return toolkit.fetch(request);
            case 0x8014: return toolkit.terminalResponse(request);
            case 0x80C2: return toolkit.envelope(request);
            default: return request.cla == 0x00 || request.cla == 0x80 ? WRONG_INS : WRONG_CLA;
        }
    }

    private static boolean isByte(int n) {
        return n >= 0 && n <= 255;
    }

    private static boolean isRight(int n) {
        return n >= ALWAYS && n <= NEVER;
    }

    private static boolean isTimer(int k) {
        return k >= 1 && k <= TIMER_COUNT;
    }

    /** How many bytes a length of TLVS takes itself. */
    private static int lengthBytes(int length) {
        return length < 0x80 ? 1 : 2;
    }

    /** Bytes 0 .. 255 behind one another, as many as its room takes. */
    private static final class Row {
        private final int[] bytes;
        private int length;

        Row(int room) {
            bytes = new int[room > 0 ? room : 0];
        }

        int length() {
            return length;
        }

        int get(int i) {
            return i >= 0 && i < length && i < bytes.length ? bytes[i] : NONE;
        }

        /** A number of two bytes, where both are there. */
        int getPair(int i) {
            return get(i) * 256 + get(i + 1);
        }

        /** A length of TLVS; NONE if there is none such at this place. */
        int lengthAt(int at) {
            int first = get(at);
            if (first < 0x80) {
                return first;
            }
            int second = get(at + 1);
            return first == 0x81 && second >= 0x80 ? second : NONE;
        }

        void clear() {
            length = 0;
        }

        boolean cut(int n) {
            if (n < 0 || n > length) {
                return false;
            }
            length = n;
            return true;
        }

        void add(int b) {
            if (length >= 0 && length < bytes.length) {
                bytes[length] = b & 0xFF;
                length++;
            }
        }

        void addPair(int n) {
            add(n >> 8);
            add(n);
        }

        void addFour(int n) {
            addPair(n >> 16);
            addPair(n);
        }

        void addLength(int n) {
            if (lengthBytes(n) == 2) {
                add(0x81);
            }
            add(n);
        }

        void addPart(Row from, int start, int n) {
            for (int i = 0; i < n; i++) {
                add(from.get(start + i));
            }
        }

        void addAll(Row from) {
            for (int i = 0; i < from.length; i++) {
                add(from.get(i));
            }
        }

        boolean startsWith(Row other) {
            for (int i = 0; i < other.length(); i++) {
                if (get(i) != other.get(i)) {
                    return false;
                }
            }
            return true;
        }

        Row copy() {
            Row made = new Row(length);
            made.addAll(this);
            return made;
        }
    }

    /** A COMMAND as it was read from THE TAPE. */
    private static final class Request {
        private final Row data = new Row(MOST_DATA);
        private int cla;
        private int ins;
        private int p1;
        private int p2;
        /** NONE without E, ALL_WANTED for E 00. */
        private int wanted;

        boolean read(Row tape) {
            data.clear();
            wanted = NONE;
            int n = tape.length();
            if (n < 4) {
                return false;
            }
            cla = tape.get(0);
            ins = tape.get(1);
            p1 = tape.get(2);
            p2 = tape.get(3);
            if (n == 4) {
                return true;
            }
            int fifth = tape.get(4);
            if (n == 5) {
                wanted = fifth == 0 ? ALL_WANTED : fifth;
                return true;
            }
            data.addPart(tape, 5, fifth);
            return n == 5 + fifth;
        }

        boolean hasData() {
            return data.length() > 0;
        }

        boolean wantsBytes() {
            return wanted != NONE;
        }

        /** P1 P2 as a number. */
        int place() {
            return p1 * 256 + p2;
        }
    }

    /** A FILE; the records of a RING are always held with the latest one first. */
    private static final class CardFile {
        private final int number;
        private final CardFile above;
        private final int kind;
        private final int id;
        private final int size;
        private final int many;
        private final int[] bytes;
        private int read = ALWAYS;
        private int write = ALWAYS;

        CardFile(int number, CardFile above, int kind, int id, int size, int many) {
            this.number = number;
            this.above = above;
            this.kind = kind;
            this.id = id;
            this.size = size;
            this.many = many;
            int total = size * many;
            bytes = new int[total > 0 ? total : 0];
            Arrays.fill(bytes, 0xFF);
        }

        int total() {
            return bytes.length;
        }

        boolean hasRecords() {
            return kind == RECORDS || kind == RING;
        }

        int get(int i) {
            return i >= 0 && i < bytes.length ? bytes[i] : NONE;
        }

        void put(int at, Row from, int start, int n) {
            for (int i = 0; i < n; i++) {
                set(at + i, from.get(start + i));
            }
        }

        /** The first bytes are those of the row, as many as fit; all behind them are FF. */
        void replace(Row from, int start, int n) {
            Arrays.fill(bytes, 0xFF);
            put(0, from, start, Math.min(n, bytes.length));
        }

        int placeOf(int record) {
            return (record - 1) * size;
        }

        /** The oldest record of a RING goes, and there is a new record 1. */
        void push(Row record) {
            int kept = bytes.length - size;
            if (size > 0 && kept >= 0) {
                System.arraycopy(bytes, 0, bytes, size, kept);
                put(0, record, 0, size);
            }
        }

        boolean recordHas(int record, Row part) {
            int first = placeOf(record);
            int last = first + size - part.length();
            for (int at = first; at <= last; at++) {
                if (isAt(at, part)) {
                    return true;
                }
            }
            return false;
        }

        private boolean isAt(int at, Row part) {
            for (int i = 0; i < part.length(); i++) {
                if (get(at + i) != part.get(i)) {
                    return false;
                }
            }
            return true;
        }

        private void set(int i, int b) {
            if (i >= 0 && i < bytes.length) {
                bytes[i] = b & 0xFF;
            }
        }
    }

    /** The tree of FILES. */
    private static final class Files {
        private final ArrayList<CardFile> all = new ArrayList<>();
        private int bytes;

        Files() {
            all.add(new CardFile(0, null, DIRECTORY, ROOT_ID, 0, 0));
        }

        static boolean isShape(int kind, int size, int many) {
            switch (kind) {
                case DIRECTORY: return size == 0 && many == 0;
                case BYTES: return size >= 1 && size <= 1000 && many == 1;
                case RECORDS:
                case RING: return size >= 1 && size <= 255 && many >= 1 && many <= 255;
                default: return false;
            }
        }

        int size() {
            return all.size();
        }

        CardFile get(int number) {
            return number >= 0 && number < all.size() ? all.get(number) : null;
        }

        CardFile root() {
            return get(0);
        }

        boolean isFreeId(CardFile directory, int id) {
            boolean isId = id >= 0 && id <= 65535;
            return isId && id != ROOT_ID && id != directory.id && childOf(directory, id) == null;
        }

        boolean hasRoom(int more) {
            return all.size() < MOST_FILES && bytes + more <= MOST_FILE_BYTES;
        }

        int make(CardFile directory, int kind, int id, int size, int many) {
            CardFile made = new CardFile(all.size(), directory, kind, id, size, many);
            all.add(made);
            bytes += made.total();
            return made.number;
        }

        CardFile childOf(CardFile directory, int id) {
            for (int i = 0; i < all.size(); i++) {
                CardFile each = all.get(i);
                if (each.above == directory && each.id == id) {
                    return each;
                }
            }
            return null;
        }

        CardFile firstOfBytes(int id) {
            for (int i = 0; i < all.size(); i++) {
                CardFile each = all.get(i);
                if (each.kind == BYTES && each.id == id) {
                    return each;
                }
            }
            return null;
        }
    }

    /** The PIN and the KEY, and the commands that ask for them. */
    private static final class Secrets {
        private static final int LENGTH = 8;
        private static final int PIN_TRIES = 3;
        private static final int KEY_TRIES = 10;

        private final Row pin = new Row(LENGTH);
        private final Row key = new Row(LENGTH);
        private int pinTries = PIN_TRIES;
        private int keyTries = KEY_TRIES;
        private boolean verified;

        Secrets() {
            pin.addFour(0x31323334);
            pin.addFour(0xFFFFFFFF);
            key.addFour(0x38383838);
            key.addFour(0x38383838);
        }

        int verify(Request r) {
            if (!namesPin(r)) {
                return WRONG_PARAMETERS;
            }
            if (!r.hasData() && !r.wantsBytes()) {
                return pinState();
            }
            return r.data.length() == LENGTH ? tryPin(r) : WRONG_LENGTH;
        }

        int change(Request r) {
            if (!namesPin(r)) {
                return WRONG_PARAMETERS;
            }
            if (r.data.length() != 2 * LENGTH) {
                return WRONG_LENGTH;
            }
            int status = tryPin(r);
            if (status == DONE) {
                takeNewPin(r);
            }
            return status;
        }

        int unblock(Request r) {
            if (!namesPin(r)) {
                return WRONG_PARAMETERS;
            }
            if (r.data.length() != 2 * LENGTH) {
                return WRONG_LENGTH;
            }
            if (keyTries <= 0) {
                return NO_TRIES;
            }
            if (!r.data.startsWith(key)) {
                keyTries--;
                return WRONG_SECRET + keyTries;
            }
            keyTries = KEY_TRIES;
            takeNewPin(r);
            return DONE;
        }

        /** Whether a right is given as things stand. */
        boolean allow(int right) {
            return right == ALWAYS || right == BEHIND_PIN && verified;
        }

        private static boolean namesPin(Request r) {
            return r.p1 == 0x00 && r.p2 == 0x01;
        }

        private int pinState() {
            if (verified) {
                return DONE;
            }
            return pinTries > 0 ? WRONG_SECRET + pinTries : NO_TRIES;
        }

        private int tryPin(Request r) {
            if (pinTries <= 0) {
                return NO_TRIES;
            }
            if (!r.data.startsWith(pin)) {
                pinTries--;
                verified = false;
                return WRONG_SECRET + pinTries;
            }
            acceptPin();
            return DONE;
        }

        private void takeNewPin(Request r) {
            pin.clear();
            pin.addPart(r.data, LENGTH, LENGTH);
            acceptPin();
        }

        private void acceptPin() {
            pinTries = PIN_TRIES;
            verified = true;
        }
    }

    /** What is at hand, and the commands on FILES. */
    private static final class FileCommands {
        private static final int BY_ID = 0x00;
        private static final int BY_PATH = 0x08;
        private static final int TELL = 0x04;
        private static final int TELL_NOTHING = 0x0C;
        private static final int LONGEST_PATH = 16;

        private final Files files;
        private final Secrets secrets;
        private final Row answer;
        private CardFile directory;
        private CardFile file;
        private int record;

        FileCommands(Files files, Secrets secrets, Row answer) {
            this.files = files;
            this.secrets = secrets;
            this.answer = answer;
            directory = files.root();
        }

        void restart() {
            directory = files.root();
            file = null;
            record = 0;
        }

        int fileNumber() {
            return file == null ? NONE : file.number;
        }

        int directoryNumber() {
            return directory == null ? NONE : directory.number;
        }

        int select(Request r) {
            if (r.p1 != BY_ID && r.p1 != BY_PATH || r.p2 != TELL && r.p2 != TELL_NOTHING) {
                return WRONG_PARAMETERS;
            }
            int length = r.data.length();
            int longest = r.p1 == BY_ID ? 2 : LONGEST_PATH;
            if (length < 2 || length > longest || length % 2 != 0) {
                return WRONG_LENGTH;
            }
            CardFile found = r.p1 == BY_ID ? findNear(r.data.getPair(0)) : findByPath(r.data);
            if (found == null) {
                return NOT_FOUND;
            }
            takeInHand(found);
            if (r.p2 == TELL) {
                tell(found);
            }
            return DONE;
        }

        int readBytes(Request r) {
            if (!r.wantsBytes()) {
                return WRONG_LENGTH;
            }
            CardFile from = file;
            if (from == null) {
                return NO_FILE_AT_HAND;
            }
            int asked = askBytes(from, from.read, r.place());
            if (asked != DONE) {
                return asked;
            }
            int left = from.size - r.place();
            if (r.wanted != ALL_WANTED && r.wanted > left) {
                return WRONG_WANTED + left;
            }
            tellBytes(from, r.place(), Math.min(r.wanted, left));
            return DONE;
        }

        int writeBytes(Request r) {
            if (!r.hasData()) {
                return WRONG_LENGTH;
            }
            CardFile to = file;
            if (to == null) {
                return NO_FILE_AT_HAND;
            }
            int asked = askBytes(to, to.write, r.place());
            if (asked != DONE) {
                return asked;
            }
            if (r.place() + r.data.length() > to.size) {
                return WRONG_LENGTH;
            }
            to.put(r.place(), r.data, 0, r.data.length());
            return DONE;
        }

        int readRecord(Request r) {
            if (!r.wantsBytes()) {
                return WRONG_LENGTH;
            }
            CardFile from = file;
            if (from == null) {
                return NO_FILE_AT_HAND;
            }
            int asked = askRecords(from, from.read);
            if (asked != DONE) {
                return asked;
            }
            if (!namesRecord(r)) {
                return WRONG_PARAMETERS;
            }
            int chosen = choose(from, r);
            if (chosen == NONE) {
                return NO_RECORD;
            }
            if (r.wanted != ALL_WANTED && r.wanted != from.size) {
                return WRONG_WANTED + from.size;
            }
            tellBytes(from, from.placeOf(chosen), from.size);
            keepRecord(r, chosen);
            return DONE;
        }

        int writeRecord(Request r) {
            if (!r.hasData()) {
                return WRONG_LENGTH;
            }
            CardFile to = file;
            if (to == null) {
                return NO_FILE_AT_HAND;
            }
            int asked = askRecords(to, to.write);
            if (asked != DONE) {
                return asked;
            }
            return to.kind == RING ? writeToRing(to, r) : writeToRecords(to, r);
        }

        int search(Request r) {
            if (!r.hasData()) {
                return WRONG_LENGTH;
            }
            CardFile in = file;
            if (in == null) {
                return NO_FILE_AT_HAND;
            }
            int asked = askRecords(in, in.read);
            if (asked != DONE) {
                return asked;
            }
            if (r.p2 != BY_NUMBER) {
                return WRONG_PARAMETERS;
            }
            for (int number = Math.max(r.p1, 1); number <= in.many; number++) {
                if (in.recordHas(number, r.data)) {
                    answer.add(number);
                }
            }
            if (answer.length() == 0) {
                return NO_RECORD;
            }
            record = answer.get(0);
            return DONE;
        }

        private int writeToRing(CardFile ring, Request r) {
            if (r.p2 != AHEAD || r.p1 != 0) {
                return WRONG_PARAMETERS;
            }
            if (r.data.length() != ring.size) {
                return WRONG_LENGTH;
            }
            ring.push(r.data);
            record = 1;
            return DONE;
        }

        private int writeToRecords(CardFile to, Request r) {
            if (!namesRecord(r)) {
                return WRONG_PARAMETERS;
            }
            int chosen = choose(to, r);
            if (chosen == NONE) {
                return NO_RECORD;
            }
            if (r.data.length() != to.size) {
                return WRONG_LENGTH;
            }
            to.put(to.placeOf(chosen), r.data, 0, to.size);
            keepRecord(r, chosen);
            return DONE;
        }

        private CardFile findNear(int id) {
            if (id == ROOT_ID) {
                return files.root();
            }
            CardFile inside = files.childOf(directory, id);
            if (inside != null || directory == null || directory.above == null) {
                return inside;
            }
            return directory.above.id == id ? directory.above : files.childOf(directory.above, id);
        }

        private CardFile findByPath(Row path) {
            CardFile found = files.root();
            for (int i = 0; i < path.length() && found != null; i += 2) {
                found = files.childOf(found, path.getPair(i));
            }
            return found;
        }

        private void takeInHand(CardFile found) {
            boolean isDirectory = found.kind == DIRECTORY;
            directory = isDirectory ? found : found.above;
            file = isDirectory ? null : found;
            record = 0;
        }

        private void tell(CardFile found) {
            answer.add(0x62);
            int lengthOfKind = found.hasRecords() ? 5 : 3;
            int lengthOfSize = found.kind == BYTES ? 4 : 0;
            answer.addLength(lengthOfKind + 4 + lengthOfSize + 4);
            answer.addPair(found.hasRecords() ? 0x8203 : 0x8201);
            answer.add(found.kind);
            if (found.hasRecords()) {
                answer.add(found.size);
                answer.add(found.many);
            }
            answer.addPair(0x8302);
            answer.addPair(found.id);
            if (found.kind == BYTES) {
                answer.addPair(0x8002);
                answer.addPair(found.size);
            }
            answer.addPair(0x8A02);
            answer.add(found.read);
            answer.add(found.write);
        }

        private void tellBytes(CardFile from, int place, int n) {
            for (int i = 0; i < n; i++) {
                answer.add(from.get(place + i));
            }
        }

        private int askBytes(CardFile target, int right, int place) {
            if (target.kind != BYTES) {
                return WRONG_KIND;
            }
            if (!secrets.allow(right)) {
                return NO_RIGHT;
            }
            return place < target.size ? DONE : WRONG_PLACE;
        }

        private int askRecords(CardFile target, int right) {
            if (!target.hasRecords()) {
                return WRONG_KIND;
            }
            return secrets.allow(right) ? DONE : NO_RIGHT;
        }

        private static boolean namesRecord(Request r) {
            return r.p2 == BY_NUMBER || (r.p2 == NEXT || r.p2 == AHEAD) && r.p1 == 0;
        }

        /** The number of the record that a command is about, NONE if there is none. */
        private int choose(CardFile target, Request r) {
            boolean isRing = target.kind == RING;
            if (r.p2 == NEXT) {
                int first = isRing ? 1 : NONE;
                return record < target.many ? record + 1 : first;
            }
            if (r.p2 == AHEAD) {
                int last = isRing || record == 0 ? target.many : NONE;
                return record > 1 ? record - 1 : last;
            }
            int named = r.p1 == 0 ? record : r.p1;
            return named >= 1 && named <= target.many ? named : NONE;
        }

        private void keepRecord(Request r, int chosen) {
            if (r.p2 != BY_NUMBER) {
                record = chosen;
            }
        }
    }

    /** A NODE of the PROGRAM; the MENU is one, too, that has no number and GOES nowhere but by its ITEMS. */
    private static final class Node {
        private final int number;
        private final int sort;
        private final int qualifier;
        private final int[] ways = new int[OUTCOMES];
        private final int[] identifiers;
        private final int[] itemWays;
        private final Row[] itemTexts;
        private int itemCount;
        private Row text;
        private CardFile file;
        private int least;
        private int most = 255;

        Node(int number, int sort, int qualifier, Row text) {
            this.number = number;
            this.sort = sort;
            this.qualifier = qualifier;
            this.text = text;
            Arrays.fill(ways, NONE);
            int room = sort == CHOICE || sort == MENU ? MOST_ITEMS : 0;
            identifiers = new int[room];
            itemWays = new int[room];
            itemTexts = new Row[room];
        }

        int type() {
            return sort >= 0 && sort < TYPES.length ? TYPES[sort] : NONE;
        }

        boolean takesItems() {
            return sort == CHOICE || sort == MENU;
        }

        int items() {
            return itemCount;
        }

        /** Which of the ITEMS has an identifier, NONE if none has. */
        int placeOf(int identifier) {
            for (int i = 0; i < itemCount && i < identifiers.length; i++) {
                if (identifiers[i] == identifier) {
                    return i;
                }
            }
            return NONE;
        }

        void addItem(int identifier, Row itemText) {
            int place = itemCount;
            if (place >= 0 && place < identifiers.length && place < itemWays.length && place < itemTexts.length) {
                identifiers[place] = identifier;
                itemWays[place] = NONE;
                itemTexts[place] = itemText;
                itemCount++;
            }
        }

        int wayBy(int outcome) {
            return outcome >= 0 && outcome < ways.length ? ways[outcome] : NONE;
        }

        boolean leadBy(int outcome, int to) {
            if (outcome < 0 || outcome >= ways.length) {
                return false;
            }
            ways[outcome] = to;
            return true;
        }

        int wayByItem(int place) {
            return place >= 0 && place < itemWays.length ? itemWays[place] : NONE;
        }

        boolean leadByItem(int identifier, int to) {
            int place = placeOf(identifier);
            if (place < 0 || place >= itemWays.length) {
                return false;
            }
            itemWays[place] = to;
            return true;
        }

        /** All bytes of the PROACTIVE COMMAND behind its own tag and length. */
        void write(Row body, int commandNumber, Program program) {
            body.addPair(0x8103);
            body.add(commandNumber);
            body.add(type());
            body.add(qualifier);
            body.addPair(0x8202);
            body.add(0x81);
            body.add(device());
            switch (sort) {
                case DISPLAY: writeShown(body); break;
                case INPUT: writeShown(body); writeRange(body); break;
                case CHOICE: writeTitle(body, false); writeItems(body); break;
                case MESSAGE: writeTitle(body, false); writeMessage(body); break;
                case TIMER: writeTimer(body); break;
                case EVENTS: program.writeEvents(body); break;
                case MENU: writeTitle(body, true); writeItems(body); break;
                default: break;
            }
        }

        private int device() {
            switch (sort) {
                case DISPLAY: return 0x02;
                case MESSAGE: return 0x83;
                default: return 0x82;
            }
        }

        private void writeShown(Row body) {
            body.add(0x8D);
            body.addLength(1 + text.length());
            body.add(0x04);
            body.addAll(text);
        }

        private void writeRange(Row body) {
            body.addPair(0x9102);
            body.add(least);
            body.add(most);
        }

        private void writeTitle(Row body, boolean evenIfEmpty) {
            if (evenIfEmpty || text.length() > 0) {
                body.add(0x85);
                body.addLength(text.length());
                body.addAll(text);
            }
        }

        private void writeMessage(Row body) {
            body.add(0x8B);
            body.addLength(6 + text.length());
            body.add(0x01);
            body.addPair(0x0000);
            body.addPair(0x00F4);
            body.add(text.length());
            body.addAll(text);
        }

        private void writeTimer(Row body) {
            body.addPair(0xA401);
            body.add(least);
            if (qualifier == 0) {
                body.addPair(0xA503);
                body.add(swapped(most / 3600));
                body.add(swapped(most / 60 % 60));
                body.add(swapped(most % 60));
            }
        }

        private void writeItems(Row body) {
            for (int i = 0; i < itemCount && i < identifiers.length && i < itemTexts.length; i++) {
                Row itemText = itemTexts[i];
                if (itemText != null) {
                    body.add(0x8F);
                    body.addLength(1 + itemText.length());
                    body.add(identifiers[i]);
                    body.addAll(itemText);
                }
            }
        }

        /** Two decimals, the lower one in the higher four bits. */
        private static int swapped(int n) {
            return n % 10 * 16 + n / 10;
        }
    }

    /** The NODES, the MENU, and which NODES the EVENTS and TIMERS have. */
    private static final class Program {
        private final ArrayList<Node> nodes = new ArrayList<>();
        private final Node menu = new Node(NONE, MENU, 0, new Row(0));
        private final int[] eventWays = new int[EVENT_COUNT];
        private final int[] timerWays = new int[TIMER_COUNT + 1];

        Program() {
            Arrays.fill(eventWays, NONE);
            Arrays.fill(timerWays, NONE);
        }

        int size() {
            return nodes.size();
        }

        Node get(int number) {
            return number >= 0 && number < nodes.size() ? nodes.get(number) : null;
        }

        Node nodeOrMenu(int number) {
            return number == NONE ? menu : get(number);
        }

        boolean isNodeOrNone(int number) {
            return number == NONE || get(number) != null;
        }

        int make(int sort, int qualifier, Row text) {
            Node made = new Node(nodes.size(), sort, qualifier, text);
            nodes.add(made);
            return made.number;
        }

        int wayByEvent(int k) {
            return k >= 0 && k < eventWays.length ? eventWays[k] : NONE;
        }

        boolean leadByEvent(int k, int to) {
            if (k < 0 || k >= eventWays.length) {
                return false;
            }
            eventWays[k] = to;
            return true;
        }

        int wayByTimer(int k) {
            return k >= 0 && k < timerWays.length ? timerWays[k] : NONE;
        }

        boolean leadByTimer(int k, int to) {
            if (!isTimer(k) || k >= timerWays.length) {
                return false;
            }
            timerWays[k] = to;
            return true;
        }

        void writeEvents(Row body) {
            int n = 0;
            for (int k = 0; k < eventWays.length; k++) {
                n += eventWays[k] == NONE ? 0 : 1;
            }
            body.add(0x99);
            body.addLength(n);
            for (int k = 0; k < eventWays.length; k++) {
                if (eventWays[k] != NONE) {
                    body.add(k);
                }
            }
        }
    }

    /** What stands between card and terminal since TERMINAL PROFILE: the PROFILE, what is PENDING, the TIMERS. */
    private static final class Session {
        private static final int HIGHEST_NUMBER = 0xFE;
        private static final int MOST_REPEATS = 2;
        private static final int MOST_FAILED_IN_A_ROW = 17;

        private final Program program;
        private final Row profile = new Row(MOST_DATA);
        private final Row body = new Row(MOST_DATA);
        private final boolean[] running = new boolean[TIMER_COUNT + 1];
        private boolean profiled;
        private int state = IDLE;
        private Node current;
        private int number;
        private int repeats;

        Session(Program program) {
            this.program = program;
        }

        void restart() {
            finish();
            profiled = false;
            profile.clear();
            number = 0;
            for (int k = 0; k < running.length; k++) {
                running[k] = false;
            }
        }

        void open(Row newProfile) {
            restart();
            profiled = true;
            profile.addAll(newProfile);
        }

        void start(int nodeNumber) {
            startNode(program.get(nodeNumber));
        }

        void startNode(Node first) {
            Node next = first;
            for (int failed = 0; failed < MOST_FAILED_IN_A_ROW && next != null; failed++) {
                if (profileHas(next.type())) {
                    current = next;
                    repeats = 0;
                    pend();
                    return;
                }
                next = program.get(next.wayBy(FAILED));
            }
        }

        /** Whether what was FETCHED is PENDING once more. */
        boolean repeat() {
            if (repeats >= MOST_REPEATS) {
                return false;
            }
            repeats++;
            pend();
            return true;
        }

        void finish() {
            state = IDLE;
            current = null;
        }

        int nodeNumber() {
            return current == null ? NONE : current.number;
        }

        int commandNumber() {
            return current == null ? 0 : number;
        }

        /** The PROACTIVE COMMAND as it is now, without its own tag and length. */
        Row pendingBody() {
            body.clear();
            if (current != null) {
                current.write(body, number, program);
            }
            return body;
        }

        int pendingSize() {
            int length = pendingBody().length();
            return 1 + lengthBytes(length) + length;
        }

        boolean runs(int k) {
            return k >= 0 && k < running.length && running[k];
        }

        void run(int k, boolean on) {
            if (isTimer(k) && k < running.length) {
                running[k] = on;
            }
        }

        private void pend() {
            number = number >= HIGHEST_NUMBER ? 1 : number + 1;
            state = PENDING;
        }

        private boolean profileHas(int type) {
            int found = profile.get(type / 8);
            return found != NONE && (found >> type % 8 & 1) == 1;
        }
    }

    /** A list of TLVS: of each tag where its first one is, and whether one of it MUST be understood. */
    private static final class Tlvs {
        private static final int TAGS = 128;
        private static final int LONG_TAG = 0x7F;

        private final int[] starts = new int[TAGS];
        private final int[] lengths = new int[TAGS];
        private final boolean[] musts = new boolean[TAGS];
        private Row list;

        /** Whether the row is such a list from a place on. */
        boolean read(Row row, int from) {
            list = row;
            for (int tag = 0; tag < TAGS; tag++) {
                starts[tag] = NONE;
                lengths[tag] = 0;
                musts[tag] = false;
            }
            int at = from;
            for (int i = 0; i < MOST_DATA && at != NONE && at < row.length(); i++) {
                at = readOne(row, at);
            }
            return at != NONE;
        }

        boolean has(int tag) {
            return startOf(tag) != NONE;
        }

        int startOf(int tag) {
            return tag >= 0 && tag < starts.length ? starts[tag] : NONE;
        }

        int lengthOf(int tag) {
            return tag >= 0 && tag < lengths.length ? lengths[tag] : 0;
        }

        int valueOf(int tag, int i) {
            return list != null && i >= 0 && i < lengthOf(tag) ? list.get(startOf(tag) + i) : NONE;
        }

        /** Whether a tag that is not known MUST be understood. */
        boolean askMore(int[] known) {
            for (int tag = 0; tag < TAGS; tag++) {
                if (musts[tag] && !isIn(known, tag)) {
                    return true;
                }
            }
            return false;
        }

        /** Where the next one is, NONE if this one is not whole. */
        private int readOne(Row row, int at) {
            int tag = row.get(at) & 0x7F;
            int place = tag == LONG_TAG ? at + 3 : at + 1;
            int length = row.lengthAt(place);
            if (tag == 0 || length == NONE) {
                return NONE;
            }
            int start = place + lengthBytes(length);
            if (start + length > row.length()) {
                return NONE;
            }
            note(tag, start, length);
            musts[tag] = musts[tag] || row.get(at) >= 0x80;
            return start + length;
        }

        private void note(int tag, int start, int length) {
            if (startOf(tag) == NONE) {
                starts[tag] = start;
                lengths[tag] = length;
            }
        }

        private static boolean isIn(int[] tags, int tag) {
            for (int i = 0; i < tags.length; i++) {
                if (tags[i] == tag) {
                    return true;
                }
            }
            return false;
        }
    }

    /** The commands of CLA 80. */
    private static final class Toolkit {
        private static final int SMS_ENVELOPE = 0xD1;
        private static final int MENU_ENVELOPE = 0xD3;
        private static final int EVENT_ENVELOPE = 0xD6;
        private static final int TIMER_ENVELOPE = 0xD7;
        private static final int WRITE_ORDER = 0xC0;
        private static final int START_ORDER = 0xC1;

        private final Files files;
        private final Program program;
        private final Session session;
        private final Row answer;
        private final Tlvs tlvs = new Tlvs();

        Toolkit(Files files, Program program, Session session, Row answer) {
            this.files = files;
            this.program = program;
            this.session = session;
            this.answer = answer;
        }

        int terminalProfile(Request r) {
            if (!r.hasData()) {
                return WRONG_LENGTH;
            }
            session.open(r.data);
            if (program.menu.items() > 0) {
                session.startNode(program.menu);
            }
            return DONE;
        }

        int fetch(Request r) {
            if (!r.wantsBytes()) {
                return WRONG_LENGTH;
            }
            if (session.state != PENDING) {
                return NOT_NOW;
            }
            Row body = session.pendingBody();
            int size = 1 + lengthBytes(body.length()) + body.length();
            if (r.wanted != size) {
                return WRONG_WANTED + size;
            }
            answer.add(0xD0);
            answer.addLength(body.length());
            answer.addAll(body);
            session.state = FETCHED;
            return DONE;
        }

        int terminalResponse(Request r) {
            if (!r.hasData()) {
                return WRONG_LENGTH;
            }
            Node node = session.current;
            if (session.state != FETCHED || node == null) {
                return NOT_NOW;
            }
            int asked = askResponse(node, r.data);
            if (asked != DONE) {
                return asked;
            }
            int result = tlvs.valueOf(TAG_RESULT, 0);
            if (result >= 0x20 && result <= 0x2F && session.repeat()) {
                return DONE;
            }
            int outcome = outcomeOf(result);
            if (outcome == OK) {
                asked = askOk(node);
                if (asked != DONE) {
                    return asked;
                }
                takeOk(node, r.data);
            }
            boolean isChosen = outcome == OK && node.sort == CHOICE;
            int way = isChosen ? node.wayByItem(itemOf(node)) : node.wayBy(outcome);
            session.finish();
            session.start(way);
            return DONE;
        }

        int envelope(Request r) {
            if (!r.hasData()) {
                return WRONG_LENGTH;
            }
            if (!readEnvelope(r.data)) {
                return WRONG_DATA;
            }
            if (!session.profiled) {
                return NOT_NOW;
            }
            if (session.state != IDLE) {
                return TOOLKIT_BUSY;
            }
            switch (r.data.get(0)) {
                case MENU_ENVELOPE: return menuSelection();
                case EVENT_ENVELOPE: return event();
                case TIMER_ENVELOPE: return timerExpiration();
                default: return message(r.data);
            }
        }

        /** What is asked of every RESPONSE. */
        private int askResponse(Node node, Row data) {
            if (!tlvs.read(data, 0)) {
                return WRONG_DATA;
            }
            if (tlvs.askMore(RESPONSE_TAGS)) {
                return NOT_UNDERSTOOD;
            }
            if (!tlvs.has(TAG_COMMAND) || !tlvs.has(TAG_RESULT)) {
                return DATA_MISSING;
            }
            return isAbout(node) && tlvs.lengthOf(TAG_RESULT) > 0 ? DONE : WRONG_DATA;
        }

        private boolean isAbout(Node node) {
            return tlvs.lengthOf(TAG_COMMAND) == 3
                && tlvs.valueOf(TAG_COMMAND, 0) == session.number
                && tlvs.valueOf(TAG_COMMAND, 1) == node.type()
                && tlvs.valueOf(TAG_COMMAND, 2) == node.qualifier;
        }

        private static int outcomeOf(int result) {
            if (result <= 0x0F) {
                return OK;
            }
            if (result == 0x11) {
                return BACK;
            }
            return result <= 0x13 ? ENDED : FAILED;
        }

        /** What is asked of a RESPONSE that is OK. */
        private int askOk(Node node) {
            switch (node.sort) {
                case CHOICE:
                    if (!tlvs.has(TAG_ITEM)) {
                        return DATA_MISSING;
                    }
                    return itemOf(node) == NONE ? WRONG_DATA : DONE;
                case INPUT: return node.file == null || tlvs.has(TAG_TEXT) ? DONE : DATA_MISSING;
                case INFO: return node.file == null || tlvs.has(TAG_INFO) ? DONE : DATA_MISSING;
                default: return DONE;
            }
        }

        private void takeOk(Node node, Row data) {
            switch (node.sort) {
                case INPUT: keepBytes(node.file, data, TAG_TEXT, 1); break;
                case INFO: keepBytes(node.file, data, TAG_INFO, 0); break;
                case TIMER: takeTimer(node); break;
                default: break;
            }
        }

        /** The bytes of a tag, behind those that are passed over, go into a FILE of bytes. */
        private void keepBytes(CardFile file, Row data, int tag, int passed) {
            if (file != null && file.kind == BYTES) {
                file.replace(data, tlvs.startOf(tag) + passed, tlvs.lengthOf(tag) - passed);
            }
        }

        private void takeTimer(Node node) {
            if (node.qualifier <= 1) {
                session.run(node.least, node.qualifier == 0);
            }
        }

        private boolean readEnvelope(Row data) {
            int kind = data.get(0);
            if (kind != SMS_ENVELOPE && kind != MENU_ENVELOPE && kind != EVENT_ENVELOPE && kind != TIMER_ENVELOPE) {
                return false;
            }
            int length = data.lengthAt(1);
            int start = 1 + lengthBytes(length);
            return length != NONE && start + length == data.length() && tlvs.read(data, start);
        }

        /** 6A81 and 6A88 of an ENVELOPE. */
        private int askTags(int[] known, int needed) {
            if (tlvs.askMore(known)) {
                return NOT_UNDERSTOOD;
            }
            return tlvs.has(needed) ? DONE : DATA_MISSING;
        }

        /** Which of the NODE's ITEMS the tag tells, NONE if it is none. */
        private int itemOf(Node node) {
            return tlvs.lengthOf(TAG_ITEM) == 1 ? node.placeOf(tlvs.valueOf(TAG_ITEM, 0)) : NONE;
        }

        private int menuSelection() {
            int asked = askTags(MENU_TAGS, TAG_ITEM);
            if (asked != DONE) {
                return asked;
            }
            int place = itemOf(program.menu);
            if (place == NONE) {
                return WRONG_DATA;
            }
            session.start(program.menu.wayByItem(place));
            return DONE;
        }

        private int event() {
            int asked = askTags(EVENT_TAGS, TAG_EVENT);
            if (asked != DONE) {
                return asked;
            }
            if (tlvs.lengthOf(TAG_EVENT) == 0) {
                return WRONG_DATA;
            }
            session.start(program.wayByEvent(tlvs.valueOf(TAG_EVENT, 0)));
            return DONE;
        }

        private int timerExpiration() {
            int asked = askTags(TIMER_TAGS, TAG_TIMER);
            if (asked != DONE) {
                return asked;
            }
            int k = tlvs.valueOf(TAG_TIMER, 0);
            if (tlvs.lengthOf(TAG_TIMER) != 1 || !session.runs(k)) {
                return WRONG_DATA;
            }
            session.run(k, false);
            session.start(program.wayByTimer(k));
            return DONE;
        }

        private int message(Row data) {
            int asked = askTags(MESSAGE_TAGS, TAG_MESSAGE);
            if (asked != DONE) {
                return asked;
            }
            int start = tlvs.startOf(TAG_MESSAGE);
            int end = start + tlvs.lengthOf(TAG_MESSAGE);
            int orders = ordersOf(data, start, end);
            if (orders == NONE) {
                return WRONG_DATA;
            }
            asked = askOrders(data, orders, end);
            if (asked == DONE) {
                session.start(obeyOrders(data, orders, end));
            }
            return asked;
        }

        /** Where the ORDERS of a message begin, NONE if it is not just so. */
        private static int ordersOf(Row data, int start, int end) {
            if (end - start < 3) {
                return NONE;
            }
            int digits = data.get(start + 1);
            int mark = start + 3 + (digits + 1) / 2;
            int follow = mark + 9;
            if (follow >= end || data.get(mark) != 0x7F || follow + 1 + data.get(follow) != end) {
                return NONE;
            }
            int first = follow + 1;
            if ((data.get(start) & 0x40) == 0) {
                return first;
            }
            if (first >= end) {
                return NONE;
            }
            int behind = first + 1 + data.get(first);
            return behind <= end ? behind : NONE;
        }

        private int askOrders(Row data, int start, int end) {
            int at = start;
            for (int i = 0; i < MOST_DATA && at < end; i++) {
                int next = nextOrder(data, at);
                if (at + 2 > end || next > end) {
                    return WRONG_DATA;
                }
                int asked = askOrder(data, at);
                if (asked != DONE) {
                    return asked;
                }
                at = next;
            }
            return DONE;
        }

        private static int nextOrder(Row data, int at) {
            return at + 2 + data.get(at + 1);
        }

        private int askOrder(Row data, int at) {
            int length = data.get(at + 1);
            if (data.get(at) == START_ORDER && length == 1) {
                return program.get(data.get(at + 2)) == null ? NOT_FOUND : DONE;
            }
            if (data.get(at) != WRITE_ORDER || length < 4) {
                return WRONG_DATA;
            }
            CardFile target = files.firstOfBytes(data.getPair(at + 2));
            if (target == null) {
                return NOT_FOUND;
            }
            return data.getPair(at + 4) + length - 4 > target.size ? WRONG_PLACE : DONE;
        }

        /** Carries out ORDERS that were asked before: the NODE that is to be STARTED, or NONE. */
        private int obeyOrders(Row data, int start, int end) {
            int chosen = NONE;
            int at = start;
            for (int i = 0; i < MOST_DATA && at < end; i++) {
                if (data.get(at) == START_ORDER) {
                    chosen = data.get(at + 2);
                } else {
                    obeyWriteOrder(data, at);
                }
                at = nextOrder(data, at);
            }
            return chosen;
        }

        private void obeyWriteOrder(Row data, int at) {
            CardFile target = files.firstOfBytes(data.getPair(at + 2));
            if (target != null) {
                target.put(data.getPair(at + 4), data, at + 6, data.get(at + 1) - 4);
            }
        }
    }
}
