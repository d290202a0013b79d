/** A simulator of a modem that beeps messages over a cable which dogs chew. */
public final class MatchboxModem {
    public static final int NONE = -1;
    public static final int SYNTAX_ERROR = 1;
    public static final int RANGE_ERROR = 2;
    public static final int LIMIT_ERROR = 3;
    public static final int QUEUED = 0;
    public static final int ACKNOWLEDGED = 1;
    public static final int LOST = 2;
    public static final int PENDING = 0;
    public static final int DELIVERED = 1;
    public static final int SUCCESS = 0;
    public static final int UNREADABLE = 1;
    public static final int ACKNOWLEDGEMENT_LOST = 2;

    private static final int MOST_INPUT = 500;
    private static final int APPENDED_BYTES = 20;
    private static final int MOST_DOGS = 3;
    private static final int MOST_PERIOD = 999;
    private static final int MOST_OFFSET = 999;
    private static final int MOST_MESSAGES = 12;
    private static final int MOST_MESSAGE_BYTES = 16;
    private static final int FRAME_PART = 4;
    private static final int MOST_FRAMES = 48;
    private static final int FRAME_ROOM = 6;
    private static final int MOST_BITS = 48;
    private static final int MOST_OUTPUT = 53;
    private static final int ACKNOWLEDGEMENT_BITS = 8;
    private static final int MOST_BIT_TIME = 9;
    private static final int MOST_DRIFT = 99;
    private static final int DRIFT_SHIFT = 100;
    private static final int MOST_NAP_BASE = 99;
    private static final int MOST_ATTEMPTS = 9;
    private static final int MOST_TRANSMIT = 60;
    private static final int MOST_WAIT = 999;
    private static final int MOST_COMMANDS = 30;
    private static final int MOST_UNDO = 8;
    private static final int LAST_TICK = 999999;
    private static final int LAST_CLOCK = 900000;
    private static final int TAKEN_BITS = 100;
    private static final int MOST_PATTERN = 65535;
    private static final int MOST_DIGITS = 16;
    private static final int CHEWED_SEARCH = 1000;
    private static final int QUIET_SEARCH = 2000;
    private static final int MOST_QUIET = 500;
    private static final int SUCCESS_SEARCH = 600;
    private static final int STOP = 46;
    private static final int STAR = 42;
    private static final int SPACE = 32;

    private final Text input = new Text(MOST_INPUT);
    private final Text output = new Text(MOST_OUTPUT);
    private final Tokens tokens = new Tokens(input);
    private final Commands commands = new Commands();
    private final Sending sending = new Sending();
    private final History history = new History();
    private final Line line = new Line();
    private final Line saved = new Line();
    // One row for all simulations and for a configuration whose text may still prove wrong.
    private final Line scratch = new Line();
    private boolean hasSaved;

    public MatchboxModem() {
        line.configure(2, 0, 10, 4);
        line.dogs.add(200, 30, 20);
        input.put('h');
        input.put('i');
        line.addMessage(input.bytes, 0, input.length);
        input.length = 0;
    }

    // The input buffer

    public int append(int a, int b, int c, int d, int e) throws IllegalStateException {
        if (input.length + APPENDED_BYTES > MOST_INPUT) {
            throw new IllegalStateException("the input buffer would exceed 500 bytes");
        }
        input.putFour(a);
        input.putFour(b);
        input.putFour(c);
        input.putFour(d);
        input.putFour(e);
        return input.length;
    }

    public int truncate(int length) throws IllegalArgumentException {
        if (length < 0 || length > input.length) {
            throw new IllegalArgumentException("the length is not one of 0 to the current length");
        }
        input.length = length;
        return length;
    }

    public int load() throws IllegalArgumentException {
        boolean good = scratch.readConfiguration(tokens);
        input.length = 0;
        if (!good) {
            throw new IllegalArgumentException("the configuration has an error");
        }
        line.copyFrom(scratch);
        history.forget();
        return line.dogs.count;
    }

    public int executeCommands() throws IllegalArgumentException {
        if (!commands.read(tokens)) {
            input.length = 0;
            throw new IllegalArgumentException("the command text has an error");
        }
        history.keep(line);
        int done = 0;
        while (done < commands.count && commands.run(done, line, input, sending)) {
            done++;
        }
        input.length = 0;
        return done;
    }

    public int errorCode() {
        return tokens.failure;
    }

    public int errorPosition() {
        return tokens.failedAt;
    }

    // Settings and dogs

    public int clock() {
        return line.now;
    }

    public int bitTime() {
        return line.bitTicks;
    }

    public int drift() {
        return line.slowness;
    }

    public int dogCount() {
        return line.dogs.count;
    }

    public boolean isChewed(int tick) throws IllegalArgumentException {
        requireTick(tick);
        return line.dogs.chewIn(tick);
    }

    public int nextChewedTick(int tick) throws IllegalArgumentException {
        requireTick(tick);
        for (int after = 0; after <= CHEWED_SEARCH; after++) {
            if (line.dogs.chewIn(tick + after)) {
                return tick + after;
            }
        }
        return NONE;
    }

    public int nextQuietTick(int ticks) throws IllegalArgumentException {
        if (ticks < 1 || ticks > MOST_QUIET) {
            throw new IllegalArgumentException("the number of ticks is not one of 1 to 500");
        }
        int begin = line.now;
        int quiet = 0;
        int end = line.now + QUIET_SEARCH + ticks;
        for (int tick = line.now; tick < end; tick++) {
            if (line.dogs.chewIn(tick)) {
                begin = tick + 1;
                quiet = 0;
            } else {
                quiet++;
            }
            if (quiet == ticks) {
                return begin;
            }
        }
        return NONE;
    }

    public int checksum() {
        return checksumOf(input.bytes, 0, input.length);
    }

    // Messages

    public int messageCount() {
        return line.messages;
    }

    public int messageLength(int message) throws IndexOutOfBoundsException {
        requireMessage(message);
        return line.messageBytes[message];
    }

    public int messageState(int message) throws IndexOutOfBoundsException {
        requireMessage(message);
        return line.stateOfMessage(message);
    }

    public int firstFrame(int message) throws IndexOutOfBoundsException {
        requireMessage(message);
        return line.firstFrames[message];
    }

    // Frames

    public int frameCount() {
        return line.frames.count;
    }

    public int frameLength(int frame) throws IndexOutOfBoundsException {
        requireFrame(frame);
        return line.frames.sizes[frame];
    }

    public int frameByte(int frame, int index) throws IndexOutOfBoundsException {
        requireFrame(frame);
        if (index < 0 || index >= line.frames.sizes[frame]) {
            return NONE;
        }
        return line.frames.sent[frame * FRAME_ROOM + index];
    }

    public int frameBit(int frame, int bit) throws IndexOutOfBoundsException {
        requireFrame(frame);
        return line.frames.bitOf(frame, bit);
    }

    public int frameState(int frame) throws IndexOutOfBoundsException {
        requireFrame(frame);
        return line.frames.states[frame];
    }

    public int attemptsOf(int frame) throws IndexOutOfBoundsException {
        requireFrame(frame);
        return line.frames.tries[frame];
    }

    public boolean hasArrived(int frame) throws IndexOutOfBoundsException {
        requireFrame(frame);
        return line.frames.arrivals[frame] > 0;
    }

    public int arrivedByte(int frame, int index) throws IndexOutOfBoundsException {
        requireFrame(frame);
        if (line.frames.arrivals[frame] == 0 || index < 0 || index >= line.frames.sizes[frame]) {
            return NONE;
        }
        return line.frames.arrived[frame * FRAME_ROOM + index];
    }

    public boolean isIntact(int frame) throws IndexOutOfBoundsException {
        requireFrame(frame);
        return line.frames.arrivedAsSent(frame);
    }

    // Questions about sending

    public int takenFrom(int bit) throws IllegalArgumentException {
        if (bit < 0 || bit >= TAKEN_BITS) {
            throw new IllegalArgumentException("the bit is not one of 0 to 99");
        }
        return takenIndex(bit, line.slowness);
    }

    public int safeBits() {
        for (int bit = 0; bit < TAKEN_BITS; bit++) {
            if (takenIndex(bit, line.slowness) != bit) {
                return bit;
            }
        }
        return TAKEN_BITS;
    }

    public int receivedBit(int frame, int bit, int tick) throws IndexOutOfBoundsException, IllegalArgumentException {
        requireFrame(frame);
        requireTick(tick);
        sending.putOnCable(line, frame, tick, line.bitTicks);
        if (bit < 0 || bit >= sending.bits) {
            return NONE;
        }
        return sending.takenBit(bit, line.slowness);
    }

    public int invertedBits(int frame, int tick) throws IndexOutOfBoundsException, IllegalArgumentException {
        requireFrame(frame);
        requireTick(tick);
        sending.putOnCable(line, frame, tick, line.bitTicks);
        return sending.inverted;
    }

    public int longestBurst(int frame, int tick) throws IndexOutOfBoundsException, IllegalArgumentException {
        requireFrame(frame);
        requireTick(tick);
        sending.putOnCable(line, frame, tick, line.bitTicks);
        return sending.burst;
    }

    public int wrongBits(int frame, int tick) throws IndexOutOfBoundsException, IllegalArgumentException {
        requireFrame(frame);
        requireTick(tick);
        sending.putOnCable(line, frame, tick, line.bitTicks);
        int wrong = 0;
        for (int bit = 0; bit < sending.bits; bit++) {
            if (sending.takenBit(bit, line.slowness) != line.frames.bitOf(frame, bit)) {
                wrong++;
            }
        }
        return wrong;
    }

    public int resultAt(int frame, int tick) throws IndexOutOfBoundsException, IllegalArgumentException {
        requireFrame(frame);
        requireTick(tick);
        return sending.send(line, frame, tick, line.bitTicks);
    }

    public boolean wouldPass(int frame, int pattern, int bit)
            throws IndexOutOfBoundsException, IllegalArgumentException {
        requireFrame(frame);
        if (pattern < 1 || pattern > MOST_PATTERN) {
            throw new IllegalArgumentException("the pattern is not one of 1 to 65535");
        }
        int digits = binaryDigits(pattern);
        if (bit < 0 || bit > line.frames.sizes[frame] * 8 - digits) {
            throw new IllegalArgumentException("the frame does not have all bits of the pattern");
        }
        sending.takeInverted(line.frames, frame, pattern, digits, bit);
        return sending.readable();
    }

    public int earliestSuccess(int frame) throws IndexOutOfBoundsException {
        requireFrame(frame);
        for (int ticks = 0; ticks <= SUCCESS_SEARCH; ticks++) {
            if (sending.send(line, frame, line.now + ticks, line.bitTicks) == SUCCESS) {
                return ticks;
            }
        }
        return NONE;
    }

    public int bestBitTime(int frame) throws IndexOutOfBoundsException {
        requireFrame(frame);
        for (int ticks = 1; ticks <= MOST_BIT_TIME; ticks++) {
            if (sending.send(line, frame, line.now, ticks) == SUCCESS) {
                return ticks;
            }
        }
        return NONE;
    }

    // The queue

    public int pendingFrame() {
        return line.frames.firstQueued();
    }

    public int napEnd() {
        return line.awakeAt;
    }

    public int attemptsUntilIdle() {
        scratch.copyFrom(line);
        return scratch.makeAttempts(MOST_FRAMES * MOST_ATTEMPTS, sending);
    }

    public int clockWhenIdle() {
        scratch.copyFrom(line);
        scratch.makeAttempts(MOST_FRAMES * MOST_ATTEMPTS, sending);
        return scratch.now;
    }

    // Counters

    public int attempts() {
        return line.counters.attempted;
    }

    public int unreadableFrames() {
        return line.counters.unreadable;
    }

    public int duplicates() {
        return line.counters.ignored;
    }

    public int lostAcknowledgements() {
        return line.counters.unheard;
    }

    public int nappedTicks() {
        return line.counters.napped;
    }

    public int bitsSent() {
        return line.counters.bits;
    }

    public int attemptImbalance() {
        Counters counted = line.counters;
        int byReceiver = counted.unreadable + counted.ignored + counted.arrivals;
        return Math.abs(counted.attempted - byReceiver)
                + Math.abs(counted.attempted - line.frames.triesOfAll())
                + line.frames.acknowledgedUntried();
    }

    public int clockImbalance() {
        Counters counted = line.counters;
        return line.now - counted.beeped - counted.napped - counted.waited;
    }

    public float errorRate() {
        Counters counted = line.counters;
        if (counted.attempted == 0) {
            return 0.0f;
        }
        return (float) (counted.unreadable + counted.unheard) / (float) counted.attempted;
    }

    public double throughput() {
        if (line.now == 0) {
            return 0.0;
        }
        return (double) line.frames.acknowledgedBytes() / (double) line.now;
    }

    // Operations

    public int sendMessage() throws IllegalArgumentException, IllegalStateException {
        if (input.length < 1 || input.length > MOST_MESSAGE_BYTES) {
            throw new IllegalArgumentException("the input buffer does not contain 1 to 16 bytes");
        }
        if (!line.hasRoomForMessage()) {
            throw new IllegalStateException("there are 12 messages");
        }
        history.keep(line);
        int message = line.addMessage(input.bytes, 0, input.length);
        input.length = 0;
        return message;
    }

    public int transmit(int most) throws IllegalArgumentException, IllegalStateException {
        if (most < 1 || most > MOST_TRANSMIT) {
            throw new IllegalArgumentException("the number of attempts is not one of 1 to 60");
        }
        if (!line.mayAttempt()) {
            throw new IllegalStateException("the clock is greater than 900000");
        }
        history.keep(line);
        return line.makeAttempts(most, sending);
    }

    public int cancelMessage(int message) throws IndexOutOfBoundsException, IllegalStateException {
        requireMessage(message);
        if (!line.mayGiveUp(message)) {
            throw new IllegalStateException("the message is not PENDING");
        }
        history.keep(line);
        return line.giveUp(message);
    }

    public int resendMessage(int message) throws IndexOutOfBoundsException, IllegalStateException {
        requireMessage(message);
        if (!line.maySendAgain(message)) {
            throw new IllegalStateException("the message is not LOST, or there are 12 messages");
        }
        history.keep(line);
        return line.sendAgain(message);
    }

    public int waitTicks(int ticks) throws IllegalArgumentException, IllegalStateException {
        if (ticks < 1 || ticks > MOST_WAIT) {
            throw new IllegalArgumentException("the number of ticks is not one of 1 to 999");
        }
        if (!line.mayWait(ticks)) {
            throw new IllegalStateException("the clock would exceed 900000");
        }
        history.keep(line);
        line.letPass(ticks);
        return line.now;
    }

    public int setDrift(int drift) throws IllegalArgumentException {
        if (drift < -MOST_DRIFT || drift > MOST_DRIFT) {
            throw new IllegalArgumentException("the drift is not one of -99 to 99");
        }
        history.keep(line);
        int previous = line.slowness;
        line.slowness = drift;
        return previous;
    }

    public int addDog(int period, int length, int offset) throws IllegalArgumentException, IllegalStateException {
        if (period < 2 || period > MOST_PERIOD || length < 1 || length >= period
                || offset < 0 || offset > MOST_OFFSET) {
            throw new IllegalArgumentException("a parameter of the dog is out of range");
        }
        if (line.dogs.count >= MOST_DOGS) {
            throw new IllegalStateException("there are 3 dogs");
        }
        history.keep(line);
        line.dogs.add(period, length, offset);
        return line.dogs.count - 1;
    }

    public int removeDog(int dog) throws IndexOutOfBoundsException {
        if (dog < 0 || dog >= line.dogs.count) {
            throw new IndexOutOfBoundsException("there is no such dog");
        }
        history.keep(line);
        line.dogs.remove(dog);
        return line.dogs.count;
    }

    // Undo, and the saved state

    public int undo() throws IllegalStateException {
        if (history.count == 0) {
            throw new IllegalStateException("there is no operation to undo");
        }
        history.takeBack(line);
        return history.count;
    }

    public int save() {
        saved.copyFrom(line);
        hasSaved = true;
        return line.now;
    }

    public int restore() throws IllegalStateException {
        if (!hasSaved) {
            throw new IllegalStateException("there is no saved state");
        }
        line.copyFrom(saved);
        history.forget();
        return line.now;
    }

    // The output

    public int formatFrame(int frame, int tick) throws IndexOutOfBoundsException, IllegalArgumentException {
        requireFrame(frame);
        requireTick(tick);
        sending.putOnCable(line, frame, tick, line.bitTicks);
        output.length = 0;
        for (int bit = 0; bit < sending.bits; bit++) {
            if (bit > 0 && bit % 8 == 0) {
                output.put(SPACE);
            }
            output.put(sending.cable[bit] == 0 ? STOP : STAR);
        }
        return output.length;
    }

    public int outputByte(int index) {
        return output.at(index);
    }

    // What several methods need

    private void requireFrame(int frame) {
        if (frame < 0 || frame >= line.frames.count) {
            throw new IndexOutOfBoundsException("there is no such frame");
        }
    }

    private void requireMessage(int message) {
        if (message < 0 || message >= line.messages) {
            throw new IndexOutOfBoundsException("there is no such message");
        }
    }

    private static void requireTick(int tick) {
        if (tick < 0 || tick > LAST_TICK) {
            throw new IllegalArgumentException("the tick is not one of 0 to 999999");
        }
    }

    private static int checksumOf(int[] bytes, int from, int to) {
        int sum = 0;
        for (int i = Math.max(from, 0); i < to && i < bytes.length; i++) {
            sum ^= bytes[i];
            for (int shift = 0; shift < 8; shift++) {
                sum = sum >= 128 ? (sum * 2 & 255) ^ 7 : sum * 2;
            }
        }
        return sum;
    }

    private static int binaryDigits(int pattern) {
        int digits = 0;
        while (digits < MOST_DIGITS && pattern >> digits > 0) {
            digits++;
        }
        return digits;
    }

    private static int takenIndex(int bit, int drift) {
        return (2 * bit + 1) * (1000 + drift) / 2000;
    }

    /** Bytes in a row of fixed room, so that no call has to make a new one. */
    private static final class Text {
        final int[] bytes;
        int length;

        Text(int room) {
            bytes = new int[Math.max(room, 0)];
        }

        int at(int index) {
            return index < 0 || index >= length || index >= bytes.length ? NONE : bytes[index];
        }

        void put(int value) {
            if (length >= 0 && length < bytes.length) {
                bytes[length] = value & 255;
                length++;
            }
        }

        void putFour(int four) {
            put(four >>> 24);
            put(four >>> 16);
            put(four >>> 8);
            put(four);
        }
    }

    /** Reads a text token by token, and remembers the first error. */
    private static final class Tokens {
        static final int END = 0;
        static final int WORD = 1;
        static final int NUMBER = 2;
        static final int SEMICOLON = 3;
        static final int INVALID = 4;

        private final Text text;
        int kind;
        int start;
        int end;
        int failure;
        int failedAt = NONE;
        int period;
        int length;
        int offset;

        Tokens(Text text) {
            this.text = text;
        }

        void begin() {
            kind = END;
            start = 0;
            end = 0;
            failure = 0;
            failedAt = NONE;
        }

        boolean fail(int code) {
            failure = code;
            failedAt = start;
            return false;
        }

        void next() {
            start = end;
            while (start < text.length && text.at(start) == SPACE) {
                start++;
            }
            end = start;
            kind = kindOf(text.at(start));
            if (kind == END) {
                return;
            }
            end++;
            if (kind == WORD || kind == NUMBER) {
                while (end < text.length && kindOf(text.at(end)) == kind) {
                    end++;
                }
            }
        }

        private static int kindOf(int sign) {
            if (sign == NONE) {
                return END;
            }
            if (sign >= 'a' && sign <= 'z') {
                return WORD;
            }
            if (sign >= '0' && sign <= '9') {
                return NUMBER;
            }
            return sign == ';' ? SEMICOLON : INVALID;
        }

        boolean spells(String word) {
            if (kind != WORD || end - start != word.length()) {
                return false;
            }
            for (int i = 0; i < word.length(); i++) {
                if (text.at(start + i) != word.charAt(i)) {
                    return false;
                }
            }
            return true;
        }

        /** Answers NONE after an error. */
        int number(int least, int most) {
            next();
            if (kind != NUMBER || end - start > 3) {
                fail(SYNTAX_ERROR);
                return NONE;
            }
            int value = 0;
            for (int i = start; i < end; i++) {
                value = value * 10 + text.at(i) - '0';
            }
            if (value < least || value > most) {
                fail(RANGE_ERROR);
                return NONE;
            }
            return value;
        }

        boolean semicolon() {
            next();
            return kind == SEMICOLON || fail(SYNTAX_ERROR);
        }

        /** Leaves the three numbers in period, length and offset. */
        boolean dog() {
            period = number(2, MOST_PERIOD);
            if (period == NONE) {
                return false;
            }
            length = number(1, period - 1);
            if (length == NONE) {
                return false;
            }
            offset = number(0, MOST_OFFSET);
            return offset != NONE;
        }
    }

    /** The commands of a text: all are read before the first one is run. */
    private static final class Commands {
        private static final int SEND = 0;
        private static final int TRANSMIT = 1;
        private static final int CANCEL = 2;
        private static final int RESEND = 3;
        private static final int WAIT = 4;
        private static final int DRIFT = 5;
        private static final int DOG = 6;
        private static final int CHASE = 7;

        int count;
        private final int[] names = new int[MOST_COMMANDS];
        // The numbers behind the name; of a word to send, its start in the text and its length.
        private final int[] first = new int[MOST_COMMANDS];
        private final int[] second = new int[MOST_COMMANDS];
        private final int[] third = new int[MOST_COMMANDS];

        boolean read(Tokens tokens) {
            count = 0;
            tokens.begin();
            for (int i = 0; i <= MOST_COMMANDS; i++) {
                tokens.next();
                if (tokens.kind == Tokens.END) {
                    return true;
                }
                if (!readOne(tokens)) {
                    return false;
                }
            }
            return false;
        }

        private boolean readOne(Tokens tokens) {
            int name = nameIn(tokens);
            if (name == NONE) {
                return tokens.fail(SYNTAX_ERROR);
            }
            if (count < 0 || count >= MOST_COMMANDS) {
                return tokens.fail(LIMIT_ERROR);
            }
            if (!readArguments(tokens, name) || !tokens.semicolon()) {
                return false;
            }
            names[count] = name;
            count++;
            return true;
        }

        private static int nameIn(Tokens tokens) {
            if (tokens.spells("send")) {
                return SEND;
            }
            if (tokens.spells("transmit")) {
                return TRANSMIT;
            }
            if (tokens.spells("cancel")) {
                return CANCEL;
            }
            if (tokens.spells("resend")) {
                return RESEND;
            }
            if (tokens.spells("wait")) {
                return WAIT;
            }
            if (tokens.spells("drift")) {
                return DRIFT;
            }
            if (tokens.spells("dog")) {
                return DOG;
            }
            return tokens.spells("chase") ? CHASE : NONE;
        }

        private boolean readArguments(Tokens tokens, int name) {
            switch (name) {
                case SEND:
                    return readWord(tokens);
                case TRANSMIT:
                    return readNumber(tokens, 1, MOST_TRANSMIT);
                case CANCEL:
                case RESEND:
                    return readNumber(tokens, 0, MOST_MESSAGES - 1);
                case WAIT:
                    return readNumber(tokens, 1, MOST_WAIT);
                case DRIFT:
                    return readNumber(tokens, DRIFT_SHIFT - MOST_DRIFT, DRIFT_SHIFT + MOST_DRIFT);
                case DOG:
                    return tokens.dog() && setArguments(tokens.period, tokens.length, tokens.offset);
                default:
                    return readNumber(tokens, 0, MOST_DOGS - 1);
            }
        }

        private boolean readWord(Tokens tokens) {
            tokens.next();
            if (tokens.kind != Tokens.WORD) {
                return tokens.fail(SYNTAX_ERROR);
            }
            if (tokens.end - tokens.start > MOST_MESSAGE_BYTES) {
                return tokens.fail(LIMIT_ERROR);
            }
            return setArguments(tokens.start, tokens.end - tokens.start, 0);
        }

        private boolean readNumber(Tokens tokens, int least, int most) {
            int value = tokens.number(least, most);
            return value != NONE && setArguments(value, 0, 0);
        }

        private boolean setArguments(int a, int b, int c) {
            if (count < 0 || count >= MOST_COMMANDS) {
                return false;
            }
            first[count] = a;
            second[count] = b;
            third[count] = c;
            return true;
        }

        /** Answers false, and changes nothing, where the method of the command would throw. */
        boolean run(int command, Line line, Text text, Sending sending) {
            if (command < 0 || command >= count || command >= MOST_COMMANDS) {
                return false;
            }
            int a = first[command];
            switch (names[command]) {
                case SEND:
                    return line.addMessage(text.bytes, a, second[command]) != NONE;
                case TRANSMIT:
                    if (!line.mayAttempt()) {
                        return false;
                    }
                    line.makeAttempts(a, sending);
                    return true;
                case CANCEL:
                    return line.giveUp(a) > 0;
                case RESEND:
                    return line.sendAgain(a) != NONE;
                case WAIT:
                    return line.letPass(a);
                case DRIFT:
                    line.slowness = a - DRIFT_SHIFT;
                    return true;
                case DOG:
                    return line.dogs.add(a, second[command], third[command]);
                default:
                    return line.dogs.remove(a);
            }
        }
    }

    /** The dogs that chew the cable. */
    private static final class Dogs {
        int count;
        private final int[] periods = new int[MOST_DOGS];
        private final int[] lengths = new int[MOST_DOGS];
        private final int[] offsets = new int[MOST_DOGS];

        void copyFrom(Dogs other) {
            count = other.count;
            System.arraycopy(other.periods, 0, periods, 0, MOST_DOGS);
            System.arraycopy(other.lengths, 0, lengths, 0, MOST_DOGS);
            System.arraycopy(other.offsets, 0, offsets, 0, MOST_DOGS);
        }

        boolean add(int period, int length, int offset) {
            if (count < 0 || count >= MOST_DOGS) {
                return false;
            }
            periods[count] = period;
            lengths[count] = length;
            offsets[count] = offset;
            count++;
            return true;
        }

        boolean remove(int dog) {
            if (dog < 0 || dog >= count) {
                return false;
            }
            for (int i = dog; i + 1 < count && i + 1 < MOST_DOGS; i++) {
                periods[i] = periods[i + 1];
                lengths[i] = lengths[i + 1];
                offsets[i] = offsets[i + 1];
            }
            count--;
            return true;
        }

        boolean chewIn(int tick) {
            for (int i = 0; i < count && i < MOST_DOGS; i++) {
                int period = periods[i];
                int since = tick - offsets[i];
                if (since >= 0 && period > 0 && since % period < lengths[i]) {
                    return true;
                }
            }
            return false;
        }
    }

    /** All frames, one after the other in flat rows: they are copied for each operation that can be undone. */
    private static final class Frames {
        int count;
        final int[] sizes = new int[MOST_FRAMES];
        final int[] states = new int[MOST_FRAMES];
        final int[] tries = new int[MOST_FRAMES];
        final int[] arrivals = new int[MOST_FRAMES];
        final int[] sent = new int[MOST_FRAMES * FRAME_ROOM];
        final int[] arrived = new int[MOST_FRAMES * FRAME_ROOM];

        void copyFrom(Frames other) {
            count = other.count;
            System.arraycopy(other.sizes, 0, sizes, 0, MOST_FRAMES);
            System.arraycopy(other.states, 0, states, 0, MOST_FRAMES);
            System.arraycopy(other.tries, 0, tries, 0, MOST_FRAMES);
            System.arraycopy(other.arrivals, 0, arrivals, 0, MOST_FRAMES);
            System.arraycopy(other.sent, 0, sent, 0, MOST_FRAMES * FRAME_ROOM);
            System.arraycopy(other.arrived, 0, arrived, 0, MOST_FRAMES * FRAME_ROOM);
        }

        /** The source may be the row of sent bytes itself: a new frame lies behind all others. */
        void add(int[] source, int from, int bytes) {
            if (count < 0 || count >= MOST_FRAMES || bytes < 1 || bytes > FRAME_PART
                    || from < 0 || from > source.length - bytes) {
                return;
            }
            int base = count * FRAME_ROOM;
            sent[base] = count % 16 * 16 + bytes;
            System.arraycopy(source, from, sent, base + 1, bytes);
            sent[base + 1 + bytes] = checksumOf(sent, base, base + 1 + bytes);
            sizes[count] = bytes + 2;
            states[count] = QUEUED;
            tries[count] = 0;
            arrivals[count] = 0;
            count++;
        }

        int bitsOf(int frame) {
            return frame < 0 || frame >= count || frame >= MOST_FRAMES ? 0 : sizes[frame] * 8;
        }

        int bitOf(int frame, int bit) {
            if (bit < 0 || bit >= bitsOf(frame)) {
                return NONE;
            }
            return sent[frame * FRAME_ROOM + bit / 8] >> 7 - bit % 8 & 1;
        }

        int firstQueued() {
            for (int frame = 0; frame < count && frame < MOST_FRAMES; frame++) {
                if (states[frame] == QUEUED) {
                    return frame;
                }
            }
            return NONE;
        }

        void arrive(int frame, int[] taken) {
            if (frame < 0 || frame >= MOST_FRAMES || taken.length < FRAME_ROOM) {
                return;
            }
            arrivals[frame]++;
            System.arraycopy(taken, 0, arrived, frame * FRAME_ROOM, FRAME_ROOM);
        }

        boolean arrivedAsSent(int frame) {
            if (frame < 0 || frame >= MOST_FRAMES || arrivals[frame] == 0) {
                return false;
            }
            int base = frame * FRAME_ROOM;
            for (int i = 0; i < sizes[frame] && i < FRAME_ROOM; i++) {
                if (arrived[base + i] != sent[base + i]) {
                    return false;
                }
            }
            return true;
        }

        int triesOfAll() {
            int sum = 0;
            for (int frame = 0; frame < count && frame < MOST_FRAMES; frame++) {
                sum += tries[frame];
            }
            return sum;
        }

        int acknowledgedUntried() {
            int untried = 0;
            for (int frame = 0; frame < count && frame < MOST_FRAMES; frame++) {
                if (states[frame] == ACKNOWLEDGED && tries[frame] == 0) {
                    untried++;
                }
            }
            return untried;
        }

        int acknowledgedBytes() {
            int bytes = 0;
            for (int frame = 0; frame < count && frame < MOST_FRAMES; frame++) {
                if (states[frame] == ACKNOWLEDGED) {
                    bytes += sizes[frame] - 2;
                }
            }
            return bytes;
        }
    }

    /** What has been counted since the configuration was loaded. */
    private static final class Counters {
        int attempted;
        int unreadable;
        int ignored;
        int arrivals;
        int unheard;
        int bits;
        int beeped;
        int napped;
        int waited;

        void clear() {
            attempted = 0;
            unreadable = 0;
            ignored = 0;
            arrivals = 0;
            unheard = 0;
            bits = 0;
            beeped = 0;
            napped = 0;
            waited = 0;
        }

        void copyFrom(Counters other) {
            attempted = other.attempted;
            unreadable = other.unreadable;
            ignored = other.ignored;
            arrivals = other.arrivals;
            unheard = other.unheard;
            bits = other.bits;
            beeped = other.beeped;
            napped = other.napped;
            waited = other.waited;
        }
    }

    /** Everything that is saved and undone: settings, dogs, messages, frames and counters. */
    private static final class Line {
        int bitTicks;
        int slowness;
        int napBase;
        int attemptLimit;
        int now;
        int awakeAt;
        // The sequence number of the last readable frame, or NONE.
        int lastSequence;
        int messages;
        final int[] messageBytes = new int[MOST_MESSAGES];
        final int[] firstFrames = new int[MOST_MESSAGES];
        final Dogs dogs = new Dogs();
        final Frames frames = new Frames();
        final Counters counters = new Counters();

        void configure(int bitTime, int drift, int base, int limit) {
            bitTicks = bitTime;
            slowness = drift;
            napBase = base;
            attemptLimit = limit;
            now = 0;
            awakeAt = 0;
            lastSequence = NONE;
            messages = 0;
            dogs.count = 0;
            frames.count = 0;
            counters.clear();
        }

        void copyFrom(Line other) {
            bitTicks = other.bitTicks;
            slowness = other.slowness;
            napBase = other.napBase;
            attemptLimit = other.attemptLimit;
            now = other.now;
            awakeAt = other.awakeAt;
            lastSequence = other.lastSequence;
            messages = other.messages;
            System.arraycopy(other.messageBytes, 0, messageBytes, 0, MOST_MESSAGES);
            System.arraycopy(other.firstFrames, 0, firstFrames, 0, MOST_MESSAGES);
            dogs.copyFrom(other.dogs);
            frames.copyFrom(other.frames);
            counters.copyFrom(other.counters);
        }

        boolean readConfiguration(Tokens tokens) {
            tokens.begin();
            tokens.next();
            return readModem(tokens) && readDogs(tokens);
        }

        private boolean readModem(Tokens tokens) {
            if (!tokens.spells("modem")) {
                return tokens.fail(SYNTAX_ERROR);
            }
            int bitTime = tokens.number(1, MOST_BIT_TIME);
            if (bitTime == NONE) {
                return false;
            }
            int drift = tokens.number(DRIFT_SHIFT - MOST_DRIFT, DRIFT_SHIFT + MOST_DRIFT);
            if (drift == NONE) {
                return false;
            }
            int base = tokens.number(1, MOST_NAP_BASE);
            if (base == NONE) {
                return false;
            }
            int limit = tokens.number(1, MOST_ATTEMPTS);
            if (limit == NONE || !tokens.semicolon()) {
                return false;
            }
            configure(bitTime, drift - DRIFT_SHIFT, base, limit);
            return true;
        }

        private boolean readDogs(Tokens tokens) {
            for (int i = 0; i <= MOST_DOGS; i++) {
                tokens.next();
                if (tokens.kind == Tokens.END) {
                    return true;
                }
                if (!tokens.spells("dog")) {
                    return tokens.fail(SYNTAX_ERROR);
                }
                if (dogs.count >= MOST_DOGS) {
                    return tokens.fail(LIMIT_ERROR);
                }
                if (!tokens.dog() || !tokens.semicolon()) {
                    return false;
                }
                dogs.add(tokens.period, tokens.length, tokens.offset);
            }
            return false;
        }

        boolean hasMessage(int message) {
            return message >= 0 && message < messages && message < MOST_MESSAGES;
        }

        boolean hasRoomForMessage() {
            return messages >= 0 && messages < MOST_MESSAGES;
        }

        /** Answers the number of the message, or NONE if it is refused. */
        int addMessage(int[] source, int from, int bytes) {
            if (!hasRoomForMessage() || bytes < 1 || bytes > MOST_MESSAGE_BYTES) {
                return NONE;
            }
            messageBytes[messages] = bytes;
            firstFrames[messages] = frames.count;
            for (int done = 0; done < bytes; done += FRAME_PART) {
                frames.add(source, from + done, Math.min(bytes - done, FRAME_PART));
            }
            messages++;
            return messages - 1;
        }

        /** The number behind that of the last frame of a message. */
        private int endOf(int message) {
            if (!hasMessage(message)) {
                return 0;
            }
            int parts = (messageBytes[message] + FRAME_PART - 1) / FRAME_PART;
            return Math.min(firstFrames[message] + parts, MOST_FRAMES);
        }

        int stateOfMessage(int message) {
            if (!hasMessage(message)) {
                return NONE;
            }
            int state = DELIVERED;
            int end = endOf(message);
            for (int frame = Math.max(firstFrames[message], 0); frame < end; frame++) {
                if (frames.states[frame] == QUEUED) {
                    return PENDING;
                }
                if (frames.states[frame] == LOST) {
                    state = LOST;
                }
            }
            return state;
        }

        boolean mayGiveUp(int message) {
            return stateOfMessage(message) == PENDING;
        }

        /** Answers the number of frames that were given up. */
        int giveUp(int message) {
            if (!mayGiveUp(message)) {
                return 0;
            }
            int given = 0;
            int end = endOf(message);
            for (int frame = Math.max(firstFrames[message], 0); frame < end; frame++) {
                if (frames.states[frame] == QUEUED) {
                    frames.states[frame] = LOST;
                    given++;
                }
            }
            return given;
        }

        boolean maySendAgain(int message) {
            return stateOfMessage(message) == LOST && hasRoomForMessage();
        }

        /** Answers the number of the new message, or NONE if it is refused. */
        int sendAgain(int message) {
            if (!maySendAgain(message)) {
                return NONE;
            }
            int end = endOf(message);
            messageBytes[messages] = messageBytes[message];
            firstFrames[messages] = frames.count;
            for (int frame = Math.max(firstFrames[message], 0); frame < end; frame++) {
                frames.add(frames.sent, frame * FRAME_ROOM + 1, frames.sizes[frame] - 2);
            }
            messages++;
            return messages - 1;
        }

        boolean mayWait(int ticks) {
            return now <= LAST_CLOCK - ticks;
        }

        boolean letPass(int ticks) {
            if (!mayWait(ticks)) {
                return false;
            }
            now += ticks;
            counters.waited += ticks;
            return true;
        }

        boolean mayAttempt() {
            return now <= LAST_CLOCK;
        }

        /** Answers how many attempts were made until no frame was pending, at most a number of them. */
        int makeAttempts(int most, Sending sending) {
            int made = 0;
            int frame = frames.firstQueued();
            while (made < most && frame != NONE) {
                attempt(frame, sending);
                made++;
                frame = frames.firstQueued();
            }
            return made;
        }

        private void attempt(int frame, Sending sending) {
            endNap();
            int result = sending.send(this, frame, now, bitTicks);
            frames.tries[frame]++;
            counters.attempted++;
            counters.bits += sending.bits;
            int ticks = (sending.bits + ACKNOWLEDGEMENT_BITS) * bitTicks;
            counters.beeped += ticks;
            now += ticks;
            receive(frame, result, sending.taken);
            settle(frame, result);
        }

        private void endNap() {
            if (now < awakeAt) {
                counters.napped += awakeAt - now;
                now = awakeAt;
            }
        }

        private void receive(int frame, int result, int[] taken) {
            if (result == UNREADABLE) {
                counters.unreadable++;
                return;
            }
            int sequence = taken[0] / 16;
            if (sequence == lastSequence) {
                counters.ignored++;
            } else {
                counters.arrivals++;
                frames.arrive(frame, taken);
            }
            lastSequence = sequence;
            if (result == ACKNOWLEDGEMENT_LOST) {
                counters.unheard++;
            }
        }

        private void settle(int frame, int result) {
            if (result == SUCCESS) {
                frames.states[frame] = ACKNOWLEDGED;
            } else if (frames.tries[frame] >= attemptLimit) {
                frames.states[frame] = LOST;
            } else {
                awakeAt = now + (napBase << frames.tries[frame] - 1);
            }
        }
    }

    /** One frame on its way: its bits on the cable, and the bytes that the receiver takes. */
    private static final class Sending {
        final int[] cable = new int[MOST_BITS];
        final int[] taken = new int[FRAME_ROOM];
        int bits;
        int inverted;
        int burst;

        void putOnCable(Line line, int frame, int tick, int bitTime) {
            bits = line.frames.bitsOf(frame);
            inverted = 0;
            burst = 0;
            int run = 0;
            for (int bit = 0; bit < bits && bit < MOST_BITS; bit++) {
                cable[bit] = line.frames.bitOf(frame, bit);
                if (line.dogs.chewIn(tick + bit * bitTime)) {
                    cable[bit] = 1 - cable[bit];
                    inverted++;
                    run++;
                    burst = Math.max(burst, run);
                } else {
                    run = 0;
                }
            }
        }

        int takenBit(int bit, int drift) {
            int index = takenIndex(bit, drift);
            return index >= 0 && index < bits && index < MOST_BITS ? cable[index] : 0;
        }

        private void take(int drift) {
            for (int i = 0; i < FRAME_ROOM; i++) {
                taken[i] = 0;
            }
            for (int bit = 0; bit < bits && bit < MOST_BITS; bit++) {
                taken[bit / 8] = taken[bit / 8] * 2 + takenBit(bit, drift);
            }
        }

        /** Inverts a bit for each 1 among the digits of the pattern, and takes all bits from the right bits. */
        void takeInverted(Frames frames, int frame, int pattern, int digits, int from) {
            bits = frames.bitsOf(frame);
            for (int bit = 0; bit < bits && bit < MOST_BITS; bit++) {
                int digit = from + digits - 1 - bit;
                int flip = digit >= 0 && digit < digits ? pattern >> digit & 1 : 0;
                cable[bit] = frames.bitOf(frame, bit) ^ flip;
            }
            take(0);
        }

        boolean readable() {
            int last = bits / 8 - 1;
            return last >= 0 && last < FRAME_ROOM
                    && taken[last] == checksumOf(taken, 0, last)
                    && (taken[0] & 15) == last - 1;
        }

        /** Answers SUCCESS, UNREADABLE or ACKNOWLEDGEMENT_LOST. */
        int send(Line line, int frame, int tick, int bitTime) {
            putOnCable(line, frame, tick, bitTime);
            take(line.slowness);
            if (!readable()) {
                return UNREADABLE;
            }
            for (int bit = bits; bit < bits + ACKNOWLEDGEMENT_BITS; bit++) {
                if (line.dogs.chewIn(tick + bit * bitTime)) {
                    return ACKNOWLEDGEMENT_LOST;
                }
            }
            return SUCCESS;
        }
    }

    /** The states before the most recent operations, in a ring of rows. */
    private static final class History {
        int count;
        private int next;
        private final Line[] before = new Line[MOST_UNDO];

        History() {
            for (int i = 0; i < MOST_UNDO; i++) {
                before[i] = new Line();
            }
        }

        void keep(Line line) {
            Line row = before[next];
            if (row != null) {
                row.copyFrom(line);
                next = (next + 1) % MOST_UNDO;
                count = Math.min(count + 1, MOST_UNDO);
            }
        }

        void takeBack(Line line) {
            int last = (next + MOST_UNDO - 1) % MOST_UNDO;
            Line row = before[last];
            if (count > 0 && row != null) {
                line.copyFrom(row);
                next = last;
                count--;
            }
        }

        void forget() {
            count = 0;
        }
    }
}
