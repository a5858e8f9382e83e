/**
 * A machine that a host speaks to over a line of bytes. The numbered promises and the terms are
 * those of the document DOC.md.
 */
public final class FabLink {
    private static final int HEADER = 10;

    private static final int LIST = 0;
    private static final int BINARY = 8;
    private static final int BOOLEAN = 9;
    private static final int TEXT = 16;
    private static final int NUMBER = 41;

    private static final int OFFLINE_BY_OPERATOR = 0;
    private static final int OFFLINE_BY_HOST = 1;
    private static final int LOCAL = 2;
    private static final int REMOTE = 3;

    private static final int IDLE = 0;
    private static final int RUNNING = 1;
    private static final int PAUSED = 2;

    private static final int NO_EVENT = 0;
    private static final int CONTROL_CHANGED = 1;
    private static final int WORK_STARTED = 2;
    private static final int WORK_ENDED = 3;
    private static final int WORK_PAUSED = 4;
    private static final int RUNG = 5;

    private final Tape tape;
    private final Outbox outbox;
    private final Talks talks;
    private final Line line;
    private final Machine machine;
    private final Desk desk;

    public FabLink() {
        tape = new Tape();
        outbox = new Outbox();
        talks = new Talks();
        line = new Line(tape, outbox, talks);
        machine = new Machine(outbox);
        desk = new Desk(line.block(), machine, outbox, talks);
    }

    public int hear(int b) throws IllegalArgumentException {
        if (b < 0 || b > 255) {
            throw new IllegalArgumentException("a byte is 0 .. 255");
        }
        int before = tape.count();
        if (line.takesMessageBy(b) && desk.admits()) {
            desk.carryOut();
        }
        line.settle();
        return tape.count() - before;
    }

    public int tick(int units) throws IllegalArgumentException {
        if (units < 1 || units > 60) {
            throw new IllegalArgumentException("units are 1 .. 60");
        }
        int before = tape.count();
        for (int i = 0; i < units; i++) {
            talks.passUnit(outbox);
            machine.passUnit();
            line.passUnit();
            line.settle();
        }
        return tape.count() - before;
    }

    public void enable(boolean on) throws IllegalStateException {
        if (on == machine.isEnabled()) {
            throw new IllegalStateException("it is so already");
        }
        machine.turn(on);
        line.settle();
    }

    public void control(int c) throws IllegalArgumentException {
        if (c != OFFLINE_BY_OPERATOR && c != LOCAL && c != REMOTE) {
            throw new IllegalArgumentException("control is set to 0, 2 or 3");
        }
        machine.choose(c);
        line.settle();
    }

    public boolean ring() {
        boolean sent = machine.happen(RUNG);
        line.settle();
        return sent;
    }

    public int said() {
        return tape.count();
    }

    public int saidAt(int i) throws IndexOutOfBoundsException {
        if (!tape.holds(i)) {
            throw new IndexOutOfBoundsException("no such byte is kept");
        }
        return tape.at(i);
    }

    public int look(int which) throws IllegalArgumentException {
        switch (which) {
            case 0:
                return line.state();
            case 1:
                return machine.speech();
            case 2:
                return machine.controlNow();
            case 3:
                return machine.workNow();
            case 4:
                return machine.workTime();
            case 5:
                return outbox.count();
            case 6:
                return talks.count();
            case 7:
                return outbox.lost();
            default:
                throw new IllegalArgumentException("which is 0 .. 7");
        }
    }

    public int report(int r) throws IndexOutOfBoundsException {
        if (!Links.isReport(r)) {
            throw new IndexOutOfBoundsException("reports are 1 .. 4");
        }
        return machine.links().variablesOf(r);
    }

    public int event(int e) throws IndexOutOfBoundsException {
        if (!Links.isEvent(e)) {
            throw new IndexOutOfBoundsException("events are 1 .. 5");
        }
        Links links = machine.links();
        return links.reportsOf(e) + (links.isEnabled(e) ? 10 : 0);
    }

    public int format(int v) throws IndexOutOfBoundsException {
        if (!Variables.isVariable(v)) {
            throw new IndexOutOfBoundsException("variables are 0 .. 5");
        }
        return machine.variables().formatOf(v);
    }

    public int octet(int v, int k) throws IndexOutOfBoundsException {
        if (!Variables.isVariable(v) || !machine.variables().hasByte(v, k)) {
            throw new IndexOutOfBoundsException("no such variable or byte");
        }
        return machine.variables().byteOf(v, k);
    }

    /** What was said: only the last bytes are kept, as no older one may be asked for. */
    private static final class Tape {
        private static final int KEPT = 501;

        private final int[] bytes = new int[KEPT];
        private int count;

        void say(int b) {
            // Never below 0, whatever the count: no call may throw by itself.
            bytes[Math.floorMod(count, KEPT)] = b;
            count++;
        }

        int count() {
            return count;
        }

        boolean holds(int i) {
            return i >= 0 && i < count && count - i <= KEPT;
        }

        int at(int i) {
            return holds(i) ? bytes[i % KEPT] : 0;
        }
    }

    /** The body of the message that is being made; it counts on when it is full. */
    private static final class Body {
        private static final int ROOM = 120;

        private final int[] bytes = new int[ROOM];
        private int length;

        void clear() {
            length = 0;
        }

        boolean fits() {
            return length <= ROOM;
        }

        int length() {
            return length;
        }

        void put(int b) {
            if (length < ROOM) {
                bytes[length] = b;
            }
            length++;
        }

        void putList(int size) {
            put(4 * LIST + 1);
            put(size);
        }

        void putNumber(int x) {
            put(4 * NUMBER + 1);
            put(1);
            put(x);
        }

        void putBinary(int x) {
            put(4 * BINARY + 1);
            put(1);
            put(x);
        }

        void putText(String text) {
            put(4 * TEXT + 1);
            put(text.length());
            for (int i = 0; i < text.length(); i++) {
                put(text.charAt(i));
            }
        }

        void putName() {
            putList(2);
            putText("FL");
            putText("1");
        }

        void putHeader(int[] header) {
            put(4 * BINARY + 1);
            put(HEADER);
            for (int i = 0; i < HEADER && i < header.length; i++) {
                put(header[i]);
            }
        }

        void copyTo(int[] row, int from) {
            for (int i = 0; i < length && i < ROOM && from + i < row.length; i++) {
                row[from + i] = bytes[i];
            }
        }
    }

    /** A header and a body: what is heard in a block, or what is to be sent in one. */
    private static final class Message {
        private static final int LEAST = HEADER;
        private static final int MOST = 130;
        private static final int REPLY_WANTED = 128;

        private final int[] bytes = new int[MOST];
        private int length;
        private int failures;

        static boolean isLength(int n) {
            return n >= LEAST && n <= MOST;
        }

        void begin(int n) {
            length = n;
            failures = 0;
        }

        void set(int i, int b) {
            if (i >= 0 && i < MOST) {
                bytes[i] = b;
            }
        }

        void writeHeader(int streamByte, int function, int system) {
            bytes[0] = 128;
            bytes[1] = 1;
            bytes[2] = streamByte;
            bytes[3] = function;
            bytes[4] = 128;
            bytes[5] = 1;
            bytes[6] = system >>> 24;
            bytes[7] = system >>> 16 & 255;
            bytes[8] = system >>> 8 & 255;
            bytes[9] = system & 255;
        }

        int[] bytes() {
            return bytes;
        }

        int length() {
            return length;
        }

        int sum() {
            int sum = 0;
            for (int i = 0; i < length && i < MOST; i++) {
                sum += bytes[i];
            }
            return sum & 65535;
        }

        int countFailure() {
            failures++;
            return failures;
        }

        boolean isFromMachine() {
            return (bytes[0] & 128) != 0;
        }

        boolean isForDeviceOne() {
            return bytes[0] == 0 && bytes[1] == 1;
        }

        boolean isOnlyBlock() {
            return bytes[4] == 128 && bytes[5] == 1;
        }

        boolean wantsReply() {
            return (bytes[2] & REPLY_WANTED) != 0;
        }

        int stream() {
            return bytes[2] & 127;
        }

        int function() {
            return bytes[3];
        }

        int system() {
            return bytes[6] << 24 | bytes[7] << 16 | bytes[8] << 8 | bytes[9];
        }
    }

    /** The messages that are to be sent, in their order, and the count of those that were lost. */
    private static final class Outbox {
        private static final int ROOM = 8;
        private static final int FAILURES = 4;

        private final Message[] messages = new Message[ROOM];
        private final Body body = new Body();
        private int first;
        private int count;
        private int lost;
        private int number;

        Outbox() {
            for (int i = 0; i < ROOM; i++) {
                messages[i] = new Message();
            }
        }

        int count() {
            return count;
        }

        int lost() {
            return lost;
        }

        Message first() {
            return messages[first];
        }

        void dropFirst() {
            if (count > 0) {
                first = (first + 1) % ROOM;
                count--;
            }
        }

        void failFirst() {
            if (messages[first].countFailure() >= FAILURES) {
                dropFirst();
                lost++;
            }
        }

        /** The one body is used again for every message: it is filled and sent before the next. */
        Body freshBody() {
            body.clear();
            return body;
        }

        /** The system bytes of a message that is no reply. */
        int nextNumber() {
            number = number + 1 & 65535;
            return number;
        }

        void sendComplaint(int function, int[] header) {
            freshBody().putHeader(header);
            send(9, function, nextNumber());
        }

        void sendReply(Message asked, int function) {
            if (body.fits()) {
                send(asked.stream(), function, asked.system());
            } else {
                sendAbort(asked);
            }
        }

        void sendAbort(Message asked) {
            body.clear();
            send(asked.stream(), 0, asked.system());
        }

        void send(int streamByte, int function, int system) {
            if (count >= ROOM || !body.fits()) {
                lost++;
                return;
            }
            Message message = messages[(first + count) % ROOM];
            message.begin(HEADER + body.length());
            message.writeHeader(streamByte, function, system);
            body.copyTo(message.bytes(), HEADER);
            count++;
        }
    }

    /** The open talks, the oldest first. */
    private static final class Talks {
        private static final int ROOM = 8;
        private static final int LIFE = 45;

        private final int[][] headers = new int[ROOM][HEADER];
        private final int[] ages = new int[ROOM];
        private int count;

        int count() {
            return count;
        }

        void open(int[] header) {
            if (count >= ROOM) {
                return;
            }
            for (int i = 0; i < HEADER && i < header.length; i++) {
                headers[count][i] = header[i];
            }
            ages[count] = 0;
            count++;
        }

        /** The open talk that a message with an even function answers, or -1. */
        int find(Message answer) {
            for (int i = 0; i < count; i++) {
                if (isAnswer(headers[i], answer)) {
                    return i;
                }
            }
            return -1;
        }

        private static boolean isAnswer(int[] header, Message answer) {
            int[] other = answer.bytes();
            for (int i = 6; i < HEADER; i++) {
                if (header[i] != other[i]) {
                    return false;
                }
            }
            boolean follows = answer.function() == 0 || answer.function() == header[3] + 1;
            return follows && (header[2] & 127) == answer.stream();
        }

        boolean isGreeting(int talk) {
            return talk >= 0 && talk < count && (headers[talk][2] & 127) == 1 && headers[talk][3] == 13;
        }

        void close(int talk) {
            if (talk < 0 || talk >= count) {
                return;
            }
            int[] free = headers[talk];
            for (int i = talk; i + 1 < count; i++) {
                headers[i] = headers[i + 1];
                ages[i] = ages[i + 1];
            }
            count--;
            headers[count] = free;
        }

        void passUnit(Outbox outbox) {
            for (int i = 0; i < count; i++) {
                ages[i]++;
            }
            // The oldest come first, so those whose time is over are all at the front.
            for (int left = count; left > 0 && ages[0] >= LIFE; left--) {
                outbox.sendComplaint(9, headers[0]);
                close(0);
            }
        }
    }

    /** The line: blocks heard and said, with their handshake and their limits of time. */
    private static final class Line {
        private static final int FREE = 0;
        private static final int READING = 1;
        private static final int OFFERING = 2;
        private static final int WAITING = 3;

        private static final int GO_ON = 4;
        private static final int OFFER = 5;
        private static final int RIGHT = 6;
        private static final int WRONG = 21;

        private static final int PATIENCE = 5;
        private static final int PATIENCE_IN_BLOCK = 2;

        private final Tape tape;
        private final Outbox outbox;
        private final Talks talks;
        private final Message block = new Message();
        private int state;
        private int quietUnits;
        private boolean lengthKnown;
        private int got;
        private int heardSum;

        Line(Tape tape, Outbox outbox, Talks talks) {
            this.tape = tape;
            this.outbox = outbox;
            this.talks = talks;
        }

        int state() {
            return state;
        }

        Message block() {
            return block;
        }

        /** Whether the byte was the last one of a block with a right sum. */
        boolean takesMessageBy(int b) {
            switch (state) {
                case READING:
                    return readByte(b);
                case OFFERING:
                    if (b == GO_ON) {
                        sayBlock();
                    }
                    return false;
                case WAITING:
                    hearVerdict(b);
                    return false;
                default:
                    if (b == OFFER) {
                        beginReading();
                    }
                    return false;
            }
        }

        private void beginReading() {
            tape.say(GO_ON);
            enter(READING);
            lengthKnown = false;
            got = 0;
            heardSum = 0;
        }

        private boolean readByte(int b) {
            quietUnits = 0;
            if (!lengthKnown) {
                readLength(b);
                return false;
            }
            if (got < block.length()) {
                block.set(got, b);
            } else {
                heardSum = heardSum * 256 + b;
            }
            got++;
            if (got < block.length() + 2) {
                return false;
            }
            boolean right = heardSum == block.sum();
            endReading(right ? RIGHT : WRONG);
            return right;
        }

        private void readLength(int n) {
            if (!Message.isLength(n)) {
                endReading(WRONG);
                return;
            }
            block.begin(n);
            lengthKnown = true;
        }

        private void endReading(int verdict) {
            tape.say(verdict);
            enter(FREE);
        }

        private void sayBlock() {
            Message message = outbox.first();
            int[] bytes = message.bytes();
            int sum = message.sum();
            tape.say(message.length());
            for (int i = 0; i < message.length() && i < bytes.length; i++) {
                tape.say(bytes[i]);
            }
            tape.say(sum >> 8);
            tape.say(sum & 255);
            enter(WAITING);
        }

        private void hearVerdict(int b) {
            if (b != RIGHT) {
                fail();
                return;
            }
            Message message = outbox.first();
            if (message.wantsReply()) {
                talks.open(message.bytes());
            }
            outbox.dropFirst();
            enter(FREE);
        }

        private void fail() {
            outbox.failFirst();
            enter(FREE);
        }

        private void enter(int next) {
            state = next;
            quietUnits = 0;
        }

        void passUnit() {
            if (state == FREE) {
                return;
            }
            quietUnits++;
            boolean inBlock = state == READING && lengthKnown;
            if (quietUnits < (inBlock ? PATIENCE_IN_BLOCK : PATIENCE)) {
                return;
            }
            if (state == READING) {
                endReading(WRONG);
            } else {
                fail();
            }
        }

        /** What is due at the end of every call and of each unit of a tick. */
        void settle() {
            if (state == FREE && outbox.count() > 0) {
                tape.say(OFFER);
                enter(OFFERING);
            }
        }
    }

    /**
     * The items of a body, each list before what is in it: item i + 1 is the first one in a list i
     * that is not empty, and behind(i) is the next one beside it.
     */
    private static final class Items {
        /** An item has two bytes or more, and a body 120 at most. */
        private static final int ROOM = 60;
        private static final int LISTS_DEEP = 6;
        private static final int BAD = -1;

        private final int[] formats = new int[ROOM];
        private final int[] sizes = new int[ROOM];
        private final int[] starts = new int[ROOM];
        private final int[] behinds = new int[ROOM];
        private final Message message;
        private int count;

        Items(Message message) {
            this.message = message;
        }

        /** Whether the message's body is one item with nothing behind it. */
        boolean read() {
            count = 0;
            return readItem(HEADER, 0) == message.length();
        }

        private int readItem(int at, int depth) {
            int[] bytes = message.bytes();
            int end = Math.min(message.length(), bytes.length);
            if (at < 0 || at >= end || count >= ROOM) {
                return BAD;
            }
            int start = at + 1 + (bytes[at] & 3);
            if (start == at + 1 || start > end) {
                return BAD;
            }
            int size = 0;
            for (int i = at + 1; i < start; i++) {
                size = size * 256 + bytes[i];
            }
            int item = count;
            count++;
            formats[item] = bytes[at] >> 2;
            sizes[item] = size;
            starts[item] = start;
            int next = formats[item] == LIST
                    ? readList(item, depth)
                    : endOfBytes(start, size, widthOf(formats[item]), end);
            behinds[item] = count;
            return next;
        }

        private int readList(int list, int depth) {
            if (depth >= LISTS_DEEP) {
                return BAD;
            }
            int at = starts[list];
            for (int i = 0; i < sizes[list] && at != BAD; i++) {
                at = readItem(at, depth + 1);
            }
            return at;
        }

        private static int endOfBytes(int start, int size, int width, int end) {
            boolean whole = width > 0 && size % width == 0;
            return whole && size <= end - start ? start + size : BAD;
        }

        /** The bytes of one value; 0 for a format that there is not. */
        private static int widthOf(int format) {
            switch (format) {
                case BINARY:
                case BOOLEAN:
                case TEXT:
                case 25:
                case NUMBER:
                    return 1;
                case 26:
                case 42:
                    return 2;
                case 28:
                case 44:
                case 36:
                    return 4;
                case 32:
                    return 8;
                default:
                    return 0;
            }
        }

        int formatOf(int item) {
            return item >= 0 && item < count ? formats[item] : BAD;
        }

        int sizeOf(int item) {
            return item >= 0 && item < count ? sizes[item] : 0;
        }

        int byteOf(int item, int k) {
            int[] bytes = message.bytes();
            if (k < 0 || k >= sizeOf(item) || starts[item] + k >= bytes.length) {
                return 0;
            }
            return bytes[starts[item] + k];
        }

        int behind(int item) {
            return item >= 0 && item < count ? behinds[item] : count;
        }

        /** The byte of a number. */
        int numberOf(int item) {
            return byteOf(item, 0);
        }

        boolean isList(int item) {
            return item >= 0 && item < count && formats[item] == LIST;
        }

        boolean isListOf(int item, int size) {
            return isList(item) && sizeOf(item) == size;
        }

        boolean isOneByte(int item, int format) {
            return item >= 0 && item < count && formats[item] == format && sizes[item] == 1;
        }

        /** [N*] */
        boolean isNumbers(int item) {
            boolean good = isList(item);
            for (int i = 1; i <= sizeOf(item) && good; i++) {
                good = isOneByte(item + i, NUMBER);
            }
            return good;
        }

        /** [[N, item]*] */
        boolean isPairs() {
            boolean good = isList(0);
            int pair = 1;
            for (int i = 0; i < sizeOf(0) && good; i++) {
                good = isListOf(pair, 2) && isOneByte(pair + 1, NUMBER);
                pair = behind(pair);
            }
            return good;
        }

        /** [N, [[N, [N*]]*]]: the second list is item 2, and its first row item 3. */
        boolean isTable() {
            boolean good = isListOf(0, 2) && isOneByte(1, NUMBER) && isList(2);
            int row = 3;
            for (int i = 0; i < sizeOf(2) && good; i++) {
                good = isListOf(row, 2) && isOneByte(row + 1, NUMBER) && isNumbers(row + 2);
                row = behind(row);
            }
            return good;
        }

        /** [BOOLEAN with one byte, [N*]] */
        boolean isSwitch() {
            return isListOf(0, 2) && isOneByte(1, BOOLEAN) && isNumbers(2);
        }

        /** [TEXT, list] */
        boolean isCommand() {
            return isListOf(0, 2) && formatOf(1) == TEXT && isList(behind(1));
        }

        /** A list whose first item is B 0. */
        boolean isGreetingTaken() {
            return isList(0) && sizeOf(0) > 0 && isOneByte(1, BINARY) && byteOf(1, 0) == 0;
        }

        boolean isText(int item, String text) {
            boolean same = formatOf(item) == TEXT && sizeOf(item) == text.length();
            for (int i = 0; i < text.length() && same; i++) {
                same = byteOf(item, i) == text.charAt(i);
            }
            return same;
        }
    }

    /** The variables; control and work are kept here alone, as variables 0 and 1. */
    private static final class Variables {
        private static final int COUNT = 6;
        private static final int CONTROL = 0;
        private static final int WORK = 1;
        private static final int FIRST_OF_HOST = 2;
        private static final int MOST_BYTES = 8;

        private final int[] formats = new int[COUNT];
        private final int[] sizes = new int[COUNT];
        private final int[][] bytes = new int[COUNT][MOST_BYTES];

        Variables() {
            for (int v = 0; v < COUNT; v++) {
                formats[v] = NUMBER;
                sizes[v] = 1;
            }
        }

        static boolean isVariable(int v) {
            return v >= 0 && v < COUNT;
        }

        int formatOf(int v) {
            return isVariable(v) ? formats[v] : 0;
        }

        boolean hasByte(int v, int k) {
            return isVariable(v) && k >= 0 && k < sizes[v];
        }

        int byteOf(int v, int k) {
            return hasByte(v, k) ? bytes[v][k] : 0;
        }

        int controlNow() {
            return bytes[CONTROL][0];
        }

        int workNow() {
            return bytes[WORK][0];
        }

        boolean isOnline() {
            return bytes[CONTROL][0] == LOCAL || bytes[CONTROL][0] == REMOTE;
        }

        void setControl(int c) {
            bytes[CONTROL][0] = c;
        }

        void setWork(int w) {
            bytes[WORK][0] = w;
        }

        void writeTo(Body body, int v) {
            if (!isVariable(v)) {
                return;
            }
            body.put(4 * formats[v] + 1);
            body.put(sizes[v]);
            for (int k = 0; k < sizes[v] && k < MOST_BYTES; k++) {
                body.put(bytes[v][k]);
            }
        }

        /** 2, 15: the answer's byte. */
        int assign(Items items) {
            int fault = faultOfPairs(items);
            if (fault != 0) {
                return fault;
            }
            int pair = 1;
            for (int i = 0; i < items.sizeOf(0); i++) {
                assignOne(items, items.numberOf(pair + 1), pair + 2);
                pair = items.behind(pair);
            }
            return 0;
        }

        /** A wrong number anywhere is told before a wrong item anywhere. */
        private static int faultOfPairs(Items items) {
            boolean wrongItem = false;
            int pair = 1;
            for (int i = 0; i < items.sizeOf(0); i++) {
                int v = items.numberOf(pair + 1);
                if (!isVariable(v) || v < FIRST_OF_HOST) {
                    return 1;
                }
                wrongItem = wrongItem || items.isList(pair + 2) || items.sizeOf(pair + 2) > MOST_BYTES;
                pair = items.behind(pair);
            }
            return wrongItem ? 3 : 0;
        }

        private void assignOne(Items items, int v, int item) {
            if (!isVariable(v)) {
                return;
            }
            formats[v] = items.formatOf(item);
            sizes[v] = Math.min(items.sizeOf(item), MOST_BYTES);
            for (int k = 0; k < sizes[v]; k++) {
                bytes[v][k] = items.byteOf(item, k);
            }
        }
    }

    /** Reports with their variables, and events with their reports. A report without any is not there. */
    private static final class Links {
        private static final int REPORTS = 4;
        private static final int EVENTS = 5;
        private static final int MOST_VARIABLES = 3;
        private static final int MOST_REPORTS = 2;

        private final int[] variableCounts = new int[REPORTS + 1];
        private final int[][] variables = new int[REPORTS + 1][MOST_VARIABLES];
        private final int[] reportCounts = new int[EVENTS + 1];
        private final int[][] reports = new int[EVENTS + 1][MOST_REPORTS];
        private final boolean[] enabled = new boolean[EVENTS + 1];

        static boolean isReport(int r) {
            return r >= 1 && r <= REPORTS;
        }

        static boolean isEvent(int e) {
            return e >= 1 && e <= EVENTS;
        }

        int variablesOf(int r) {
            return isReport(r) ? variableCounts[r] : 0;
        }

        int variableOf(int r, int i) {
            return isReport(r) && i >= 0 && i < variableCounts[r] ? variables[r][i] : 0;
        }

        int reportsOf(int e) {
            return isEvent(e) ? reportCounts[e] : 0;
        }

        int reportOf(int e, int i) {
            return isEvent(e) && i >= 0 && i < reportCounts[e] ? reports[e][i] : 0;
        }

        boolean isEnabled(int e) {
            return isEvent(e) && enabled[e];
        }

        boolean isTold(int e) {
            return isEvent(e) && enabled[e] && reportCounts[e] > 0;
        }

        /** 2, 33: the answer's byte. */
        int define(Items items) {
            int row = 3;
            for (int i = 0; i < items.sizeOf(2); i++) {
                int fault = faultOfReport(items, row);
                if (fault != 0) {
                    return fault;
                }
                row = items.behind(row);
            }
            if (items.sizeOf(2) == 0) {
                removeAllReports();
            }
            row = 3;
            for (int i = 0; i < items.sizeOf(2); i++) {
                defineOne(items, items.numberOf(row + 1), row + 2);
                row = items.behind(row);
            }
            return 0;
        }

        private int faultOfReport(Items items, int row) {
            int r = items.numberOf(row + 1);
            int size = items.sizeOf(row + 2);
            if (!isReport(r) || size > MOST_VARIABLES) {
                return 1;
            }
            if (size > 0 && variablesOf(r) > 0) {
                return 3;
            }
            for (int i = 0; i < size; i++) {
                if (!Variables.isVariable(items.numberOf(row + 3 + i))) {
                    return 4;
                }
            }
            return 0;
        }

        private void defineOne(Items items, int r, int list) {
            if (items.sizeOf(list) == 0) {
                removeReport(r);
                return;
            }
            if (!isReport(r)) {
                return;
            }
            variableCounts[r] = Math.min(items.sizeOf(list), MOST_VARIABLES);
            for (int i = 0; i < variableCounts[r]; i++) {
                variables[r][i] = items.numberOf(list + 1 + i);
            }
        }

        private void removeAllReports() {
            for (int r = 1; r <= REPORTS; r++) {
                removeReport(r);
            }
        }

        private void removeReport(int r) {
            if (!isReport(r)) {
                return;
            }
            variableCounts[r] = 0;
            for (int e = 1; e <= EVENTS; e++) {
                unlink(e, r);
            }
        }

        private void unlink(int e, int r) {
            int kept = 0;
            for (int i = 0; i < reportCounts[e]; i++) {
                if (reports[e][i] != r) {
                    reports[e][kept] = reports[e][i];
                    kept++;
                }
            }
            reportCounts[e] = kept;
        }

        /** 2, 35: the answer's byte. */
        int link(Items items) {
            int row = 3;
            for (int i = 0; i < items.sizeOf(2); i++) {
                int fault = faultOfLink(items, row);
                if (fault != 0) {
                    return fault;
                }
                row = items.behind(row);
            }
            row = 3;
            for (int i = 0; i < items.sizeOf(2); i++) {
                linkOne(items, items.numberOf(row + 1), row + 2);
                row = items.behind(row);
            }
            return 0;
        }

        private int faultOfLink(Items items, int row) {
            int size = items.sizeOf(row + 2);
            if (size > MOST_REPORTS) {
                return 1;
            }
            if (!isEvent(items.numberOf(row + 1))) {
                return 4;
            }
            for (int i = 0; i < size; i++) {
                if (variablesOf(items.numberOf(row + 3 + i)) == 0) {
                    return 5;
                }
            }
            return 0;
        }

        private void linkOne(Items items, int e, int list) {
            if (!isEvent(e)) {
                return;
            }
            reportCounts[e] = Math.min(items.sizeOf(list), MOST_REPORTS);
            for (int i = 0; i < reportCounts[e]; i++) {
                reports[e][i] = items.numberOf(list + 1 + i);
            }
        }

        /** 2, 37: the answer's byte. */
        int enableEvents(Items items) {
            int size = items.sizeOf(2);
            for (int i = 0; i < size; i++) {
                if (!isEvent(items.numberOf(3 + i))) {
                    return 1;
                }
            }
            boolean on = items.byteOf(1, 0) != 0;
            for (int i = 0; i < size; i++) {
                enableOne(items.numberOf(3 + i), on);
            }
            if (size == 0) {
                enableAll(on);
            }
            return 0;
        }

        private void enableAll(boolean on) {
            for (int e = 1; e <= EVENTS; e++) {
                enabled[e] = on;
            }
        }

        private void enableOne(int e, boolean on) {
            if (isEvent(e)) {
                enabled[e] = on;
            }
        }
    }

    /** The states of speaking, of control and of work, and the events by which they are told. */
    private static final class Machine {
        private static final int WORK_LASTS = 30;

        private final Outbox outbox;
        private final Variables variables = new Variables();
        private final Links links = new Links();
        private boolean isOn;
        private boolean speaking;
        private int chosen = REMOTE;
        private int workTime;

        Machine(Outbox outbox) {
            this.outbox = outbox;
        }

        Variables variables() {
            return variables;
        }

        Links links() {
            return links;
        }

        boolean isEnabled() {
            return isOn;
        }

        boolean isSpeaking() {
            return speaking;
        }

        int speech() {
            if (!isOn) {
                return 0;
            }
            return speaking ? 2 : 1;
        }

        int controlNow() {
            return variables.controlNow();
        }

        boolean isOnline() {
            return variables.isOnline();
        }

        int workNow() {
            return variables.workNow();
        }

        int workTime() {
            return workTime;
        }

        void turn(boolean on) {
            isOn = on;
            speaking = false;
            if (on) {
                outbox.freshBody().putName();
                outbox.send(1 | Message.REPLY_WANTED, 13, outbox.nextNumber());
            }
        }

        void beginSpeaking() {
            speaking = true;
        }

        void choose(int c) {
            if (c != OFFLINE_BY_OPERATOR) {
                chosen = c;
            }
            changeControl(c);
        }

        /** 1, 17: the answer's byte. */
        int goOnline() {
            if (controlNow() == OFFLINE_BY_OPERATOR) {
                return 1;
            }
            if (variables.isOnline()) {
                return 2;
            }
            changeControl(chosen);
            return 0;
        }

        void changeControl(int c) {
            if (c != controlNow()) {
                variables.setControl(c);
                happen(CONTROL_CHANGED);
            }
        }

        /** 2, 41: the answer's byte. */
        int obey(Items items) {
            int work = workNow();
            if (items.isText(1, "START")) {
                return changeWork(work == IDLE, RUNNING, WORK_STARTED);
            }
            if (items.isText(1, "STOP")) {
                return changeWork(work != IDLE, IDLE, WORK_ENDED);
            }
            if (items.isText(1, "PAUSE")) {
                return changeWork(work == RUNNING, PAUSED, WORK_PAUSED);
            }
            if (items.isText(1, "GO")) {
                return changeWork(work == PAUSED, RUNNING, NO_EVENT);
            }
            return 1;
        }

        private int changeWork(boolean may, int next, int e) {
            if (!may || controlNow() != REMOTE) {
                return 2;
            }
            if (e == WORK_STARTED) {
                workTime = 0;
            }
            variables.setWork(next);
            if (e != NO_EVENT) {
                happen(e);
            }
            return 0;
        }

        void passUnit() {
            if (workNow() != RUNNING) {
                return;
            }
            workTime++;
            if (workTime >= WORK_LASTS) {
                variables.setWork(IDLE);
                happen(WORK_ENDED);
            }
        }

        /** Whether a message was to be sent for the event. */
        boolean happen(int e) {
            if (!links.isTold(e) || !speaking || !variables.isOnline()) {
                return false;
            }
            Body body = outbox.freshBody();
            body.putList(3);
            body.putNumber(0);
            body.putNumber(e);
            body.putList(links.reportsOf(e));
            for (int i = 0; i < links.reportsOf(e); i++) {
                int r = links.reportOf(e, i);
                body.putList(2);
                body.putNumber(r);
                body.putList(links.variablesOf(r));
                for (int k = 0; k < links.variablesOf(r); k++) {
                    variables.writeTo(body, links.variableOf(r, k));
                }
            }
            outbox.send(6 | Message.REPLY_WANTED, 11, outbox.nextNumber());
            return true;
        }
    }

    /** What becomes of a message that is taken. */
    private static final class Desk {
        private static final int ARE_YOU_THERE = 256 + 1;
        private static final int READ = 256 + 3;
        private static final int GREET = 256 + 13;
        private static final int GO_OFFLINE = 256 + 15;
        private static final int GO_ONLINE = 256 + 17;
        private static final int ASSIGN = 512 + 15;
        private static final int DEFINE = 512 + 33;
        private static final int LINK = 512 + 35;
        private static final int ENABLE = 512 + 37;
        private static final int COMMAND = 512 + 41;

        private final Message taken;
        private final Machine machine;
        private final Outbox outbox;
        private final Talks talks;
        private final Items items;

        Desk(Message taken, Machine machine, Outbox outbox, Talks talks) {
            this.taken = taken;
            this.machine = machine;
            this.outbox = outbox;
            this.talks = talks;
            this.items = new Items(taken);
        }

        /** Whether it is a request to be carried out; what else it may be is dealt with here. */
        boolean admits() {
            if (!machine.isEnabled() || taken.isFromMachine()) {
                return false;
            }
            if (!taken.isForDeviceOne()) {
                return refuse(1);
            }
            if (!taken.isOnlyBlock()) {
                return refuse(11);
            }
            if (taken.function() % 2 == 0) {
                closeTalk();
                return false;
            }
            return admitsRequest();
        }

        private boolean admitsRequest() {
            int kind = kind();
            if (!machine.isSpeaking() && kind != GREET) {
                return false;
            }
            if (taken.stream() != 1 && taken.stream() != 2) {
                return refuse(3);
            }
            if (!isNamed(kind)) {
                return refuse(5);
            }
            if (!machine.isOnline() && kind != GREET && kind != GO_ONLINE) {
                return abort();
            }
            return bodyIsRight(kind) || refuse(7);
        }

        private int kind() {
            return 256 * taken.stream() + taken.function();
        }

        private boolean refuse(int reason) {
            outbox.sendComplaint(reason, taken.bytes());
            return false;
        }

        private boolean abort() {
            if (taken.wantsReply()) {
                outbox.sendAbort(taken);
            }
            return false;
        }

        private void closeTalk() {
            int talk = talks.find(taken);
            if (talks.isGreeting(talk) && taken.function() == 14 && items.read() && items.isGreetingTaken()) {
                machine.beginSpeaking();
            }
            talks.close(talk);
        }

        private static boolean isNamed(int kind) {
            switch (kind) {
                case ARE_YOU_THERE:
                case READ:
                case GREET:
                case GO_OFFLINE:
                case GO_ONLINE:
                case ASSIGN:
                case DEFINE:
                case LINK:
                case ENABLE:
                case COMMAND:
                    return true;
                default:
                    return false;
            }
        }

        private boolean bodyIsRight(int kind) {
            switch (kind) {
                case GREET:
                    return true;
                case READ:
                    return items.read() && items.isNumbers(0);
                case ASSIGN:
                    return items.read() && items.isPairs();
                case DEFINE:
                case LINK:
                    return items.read() && items.isTable();
                case ENABLE:
                    return items.read() && items.isSwitch();
                case COMMAND:
                    return items.read() && items.isCommand();
                default:
                    return taken.length() == HEADER;
            }
        }

        void carryOut() {
            switch (kind()) {
                case ARE_YOU_THERE:
                    outbox.freshBody().putName();
                    break;
                case READ:
                    tellValues();
                    break;
                case GREET:
                    machine.beginSpeaking();
                    answerInList(0);
                    break;
                case GO_OFFLINE:
                    machine.changeControl(OFFLINE_BY_HOST);
                    answer(0);
                    break;
                case GO_ONLINE:
                    answer(machine.goOnline());
                    break;
                case ASSIGN:
                    answer(machine.variables().assign(items));
                    break;
                case DEFINE:
                    answer(machine.links().define(items));
                    break;
                case LINK:
                    answer(machine.links().link(items));
                    break;
                case ENABLE:
                    answer(machine.links().enableEvents(items));
                    break;
                case COMMAND:
                    answerInList(machine.obey(items));
                    break;
                default:
                    return;
            }
            if (taken.wantsReply()) {
                outbox.sendReply(taken, taken.function() + 1);
            }
        }

        private void answer(int x) {
            outbox.freshBody().putBinary(x);
        }

        private void answerInList(int x) {
            Body body = outbox.freshBody();
            body.putList(2);
            body.putBinary(x);
            body.putList(0);
        }

        private void tellValues() {
            int count = items.sizeOf(0);
            Body body = outbox.freshBody();
            body.putList(count);
            for (int i = 1; i <= count; i++) {
                int v = items.numberOf(i);
                if (Variables.isVariable(v)) {
                    machine.variables().writeTo(body, v);
                } else {
                    body.putList(0);
                }
            }
        }
    }
}
