import java.util.ArrayDeque;
import java.util.ArrayList;
import java.util.Deque;
import java.util.List;
import java.util.regex.Matcher;
import java.util.regex.Pattern;

/** The document once more, written with the Java library and in another way, to be compared with the program. */
public final class Model {
    static final class Frame {
        int message;
        int state;
        int tries;
        List<Integer> sent = new ArrayList<>();
        List<Integer> arrived;

        Frame copy() {
            Frame f = new Frame();
            f.message = message;
            f.state = state;
            f.tries = tries;
            f.sent = new ArrayList<>(sent);
            f.arrived = arrived == null ? null : new ArrayList<>(arrived);
            return f;
        }

        String bits() {
            StringBuilder s = new StringBuilder();
            for (int b : sent) {
                s.append(String.format("%8s", Integer.toBinaryString(b)).replace(' ', '0'));
            }
            return s.toString();
        }
    }

    static final class State {
        int bitTime;
        int drift;
        int napBase;
        int limit;
        int clock;
        int napEnd;
        int last = -1;
        int unreadable;
        int duplicates;
        int lostAcks;
        int napped;
        int bits;
        int attempts;
        List<int[]> dogs = new ArrayList<>();
        List<List<Integer>> messages = new ArrayList<>();
        List<Frame> frames = new ArrayList<>();

        State copy() {
            State s = new State();
            s.bitTime = bitTime;
            s.drift = drift;
            s.napBase = napBase;
            s.limit = limit;
            s.clock = clock;
            s.napEnd = napEnd;
            s.last = last;
            s.unreadable = unreadable;
            s.duplicates = duplicates;
            s.lostAcks = lostAcks;
            s.napped = napped;
            s.bits = bits;
            s.attempts = attempts;
            s.dogs = new ArrayList<>(dogs);
            s.messages = new ArrayList<>(messages);
            for (Frame f : frames) {
                s.frames.add(f.copy());
            }
            return s;
        }
    }

    static final class TextError extends Exception {
        private static final long serialVersionUID = 1L;
        final int code;
        final int position;

        TextError(int code, int position) {
            this.code = code;
            this.position = position;
        }
    }

    private State now = new State();
    private State saved;
    private final Deque<State> past = new ArrayDeque<>();
    private final List<Integer> input = new ArrayList<>();
    private String output = "";
    private int errorCode;
    private int errorPosition = -1;
    private String text;
    private int at;

    public Model() {
        now.bitTime = 2;
        now.napBase = 10;
        now.limit = 4;
        now.dogs.add(new int[] {200, 30, 20});
        newMessage(List.of(104, 105));
    }

    static int crc(List<Integer> bytes) {
        // Long division by x^8 + x^2 + x + 1, digit by digit.
        StringBuilder s = new StringBuilder();
        for (int b : bytes) {
            for (int k = 7; k >= 0; k--) {
                s.append((b >> k) % 2);
            }
        }
        s.append("00000000");
        for (int i = 0; i + 8 < s.length(); i++) {
            if (s.charAt(i) == '1') {
                for (int k = 0; k < 9; k++) {
                    s.setCharAt(i + k, s.charAt(i + k) == "100000111".charAt(k) ? '0' : '1');
                }
            }
        }
        return Integer.parseInt(s.substring(s.length() - 8), 2);
    }

    private int newMessage(List<Integer> bytes) {
        int number = now.messages.size();
        now.messages.add(List.copyOf(bytes));
        for (int from = 0; from < bytes.size(); from += 4) {
            List<Integer> part = bytes.subList(from, Math.min(bytes.size(), from + 4));
            Frame f = new Frame();
            f.message = number;
            f.sent.add(16 * (now.frames.size() % 16) + part.size());
            f.sent.addAll(part);
            f.sent.add(crc(f.sent));
            now.frames.add(f);
        }
        return number;
    }

    private static boolean chewed(State s, long tick) {
        for (int[] d : s.dogs) {
            if (tick >= d[2] && (tick - d[2]) % d[0] < d[1]) {
                return true;
            }
        }
        return false;
    }

    private static String cable(State s, Frame f, int tick, int bitTime) {
        StringBuilder out = new StringBuilder(f.bits());
        for (int i = 0; i < out.length(); i++) {
            if (chewed(s, tick + i * bitTime)) {
                out.setCharAt(i, out.charAt(i) == '0' ? '1' : '0');
            }
        }
        return out.toString();
    }

    private static String taken(String cable, int drift) {
        StringBuilder out = new StringBuilder();
        for (int i = 0; i < cable.length(); i++) {
            int from = ((2 * i + 1) * (1000 + drift)) / 2000;
            out.append(from < cable.length() ? cable.charAt(from) : '0');
        }
        return out.toString();
    }

    private static List<Integer> bytes(String bits) {
        List<Integer> out = new ArrayList<>();
        for (int i = 0; i < bits.length(); i += 8) {
            out.add(Integer.parseInt(bits.substring(i, i + 8), 2));
        }
        return out;
    }

    private static boolean readable(List<Integer> b) {
        int n = b.size();
        return b.get(n - 1) == crc(b.subList(0, n - 1)) && b.get(0) % 16 == n - 2;
    }

    private static int result(State s, Frame f, int tick, int bitTime) {
        String cable = cable(s, f, tick, bitTime);
        if (!readable(bytes(taken(cable, s.drift)))) {
            return 1;
        }
        for (int k = 0; k < 8; k++) {
            if (chewed(s, tick + (cable.length() + k) * bitTime)) {
                return 2;
            }
        }
        return 0;
    }

    private static int pending(State s) {
        for (int i = 0; i < s.frames.size(); i++) {
            if (s.frames.get(i).state == 0) {
                return i;
            }
        }
        return -1;
    }

    private static void attempt(State s) {
        Frame f = s.frames.get(pending(s));
        s.napped += Math.max(0, s.napEnd - s.clock);
        s.clock = Math.max(s.clock, s.napEnd);
        int start = s.clock;
        int result = result(s, f, start, s.bitTime);
        s.attempts++;
        f.tries++;
        s.bits += 8 * f.sent.size();
        s.clock += (8 * f.sent.size() + 8) * s.bitTime;
        if (result == 1) {
            s.unreadable++;
        } else {
            List<Integer> b = bytes(taken(cable(s, f, start, s.bitTime), s.drift));
            if (b.get(0) / 16 == s.last) {
                s.duplicates++;
            } else {
                f.arrived = b;
            }
            s.last = b.get(0) / 16;
            s.lostAcks += result == 2 ? 1 : 0;
        }
        if (result == 0) {
            f.state = 1;
        } else if (f.tries == s.limit) {
            f.state = 2;
        } else {
            s.napEnd = s.clock + s.napBase * (int) Math.pow(2, f.tries - 1);
        }
    }

    private void operation() {
        past.addLast(now.copy());
        if (past.size() > 8) {
            past.removeFirst();
        }
    }

    private Frame frame(int number) {
        if (number < 0 || number >= now.frames.size()) {
            throw new IndexOutOfBoundsException();
        }
        return now.frames.get(number);
    }

    private List<Integer> message(int number) {
        if (number < 0 || number >= now.messages.size()) {
            throw new IndexOutOfBoundsException();
        }
        return now.messages.get(number);
    }

    private static void range(int value, int least, int most) {
        if (value < least || value > most) {
            throw new IllegalArgumentException();
        }
    }

    public int append(int a, int b, int c, int d, int e) {
        if (input.size() > 480) {
            throw new IllegalStateException();
        }
        for (int v : new int[] {a, b, c, d, e}) {
            for (byte one : java.nio.ByteBuffer.allocate(4).putInt(v).array()) {
                input.add(Byte.toUnsignedInt(one));
            }
        }
        return input.size();
    }

    public int truncate(int length) {
        range(length, 0, input.size());
        while (input.size() > length) {
            input.remove(input.size() - 1);
        }
        return length;
    }

    private static final Pattern TOKEN = Pattern.compile(" *([a-z]+|[0-9]+|;|[^ ]|$)", Pattern.DOTALL);
    private int tokenStart;

    private void begin() {
        StringBuilder s = new StringBuilder();
        for (int b : input) {
            s.append((char) b);
        }
        text = s.toString();
        at = 0;
    }

    private String token() {
        Matcher m = TOKEN.matcher(text);
        m.region(at, text.length());
        if (!m.lookingAt()) {
            throw new AssertionError("no token at " + at);
        }
        at = m.end();
        tokenStart = m.start(1);
        return m.group(1);
    }

    private int number(int least, int most) throws TextError {
        String t = token();
        if (!t.matches("[0-9]{1,3}")) {
            throw new TextError(1, tokenStart);
        }
        int value = Integer.parseInt(t);
        if (value < least || value > most) {
            throw new TextError(2, tokenStart);
        }
        return value;
    }

    private void expect(String wanted) throws TextError {
        if (!token().equals(wanted)) {
            throw new TextError(1, tokenStart);
        }
    }

    private int[] dog() throws TextError {
        int period = number(2, 999);
        int length = number(1, period - 1);
        return new int[] {period, length, number(0, 999)};
    }

    private State configuration() throws TextError {
        State s = new State();
        expect("modem");
        s.bitTime = number(1, 9);
        s.drift = number(1, 199) - 100;
        s.napBase = number(1, 99);
        s.limit = number(1, 9);
        expect(";");
        for (String t = token(); !t.isEmpty(); t = token()) {
            if (!t.equals("dog")) {
                throw new TextError(1, tokenStart);
            }
            if (s.dogs.size() == 3) {
                throw new TextError(3, tokenStart);
            }
            s.dogs.add(dog());
            expect(";");
        }
        return s;
    }

    public int load() {
        begin();
        input.clear();
        errorCode = 0;
        errorPosition = -1;
        try {
            now = configuration();
        } catch (TextError e) {
            errorCode = e.code;
            errorPosition = e.position;
            throw new IllegalArgumentException();
        }
        past.clear();
        return now.dogs.size();
    }

    private List<Runnable> commands() throws TextError {
        List<Runnable> out = new ArrayList<>();
        for (String t = token(); !t.isEmpty(); t = token()) {
            if (!t.matches("send|transmit|cancel|resend|wait|drift|dog|chase")) {
                throw new TextError(1, tokenStart);
            }
            if (out.size() == 30) {
                throw new TextError(3, tokenStart);
            }
            out.add(command(t));
            expect(";");
        }
        return out;
    }

    private Runnable command(String name) throws TextError {
        switch (name) {
            case "send": {
                String word = token();
                if (!word.matches("[a-z]+")) {
                    throw new TextError(1, tokenStart);
                }
                if (word.length() > 16) {
                    throw new TextError(3, tokenStart);
                }
                List<Integer> letters = word.chars().boxed().toList();
                return () -> send(letters);
            }
            case "transmit": {
                int n = number(1, 60);
                return () -> doTransmit(n);
            }
            case "cancel": {
                int n = number(0, 11);
                return () -> doCancel(n);
            }
            case "resend": {
                int n = number(0, 11);
                return () -> doResend(n);
            }
            case "wait": {
                int n = number(1, 999);
                return () -> doWait(n);
            }
            case "drift": {
                int n = number(1, 199);
                return () -> now.drift = n - 100;
            }
            case "dog": {
                int[] d = dog();
                return () -> doDog(d);
            }
            default: {
                int n = number(0, 2);
                return () -> now.dogs.remove(n);
            }
        }
    }

    public int executeCommands() {
        begin();
        input.clear();
        errorCode = 0;
        errorPosition = -1;
        List<Runnable> all;
        try {
            all = commands();
        } catch (TextError e) {
            errorCode = e.code;
            errorPosition = e.position;
            throw new IllegalArgumentException();
        }
        operation();
        int done = 0;
        try {
            for (Runnable r : all) {
                r.run();
                done++;
            }
        } catch (IllegalArgumentException | IllegalStateException | IndexOutOfBoundsException e) {
            return done;
        }
        return done;
    }

    public int errorCode() { return errorCode; }

    public int errorPosition() { return errorPosition; }

    public int clock() { return now.clock; }

    public int bitTime() { return now.bitTime; }

    public int drift() { return now.drift; }

    public int dogCount() { return now.dogs.size(); }

    public boolean isChewed(int tick) {
        range(tick, 0, 999999);
        return chewed(now, tick);
    }

    public int nextChewedTick(int tick) {
        range(tick, 0, 999999);
        int t = tick;
        while (t <= tick + 1000 && !chewed(now, t)) {
            t++;
        }
        return t > tick + 1000 ? -1 : t;
    }

    public int nextQuietTick(int ticks) {
        range(ticks, 1, 500);
        int start = now.clock;
        while (start <= now.clock + 2000) {
            int bad = -1;
            for (int k = ticks - 1; k >= 0 && bad < 0; k--) {
                bad = chewed(now, start + k) ? k : -1;
            }
            if (bad < 0) {
                return start;
            }
            start += bad + 1;
        }
        return -1;
    }

    public int checksum() { return crc(input); }

    public int messageCount() { return now.messages.size(); }

    public int messageLength(int m) { return message(m).size(); }

    public int messageState(int m) {
        message(m);
        boolean lost = false;
        boolean queued = false;
        for (Frame f : now.frames) {
            if (f.message == m) {
                lost |= f.state == 2;
                queued |= f.state == 0;
            }
        }
        return queued ? 0 : lost ? 2 : 1;
    }

    public int firstFrame(int m) {
        message(m);
        int i = 0;
        while (now.frames.get(i).message != m) {
            i++;
        }
        return i;
    }

    public int frameCount() { return now.frames.size(); }

    public int frameLength(int f) { return frame(f).sent.size(); }

    public int frameByte(int f, int i) {
        List<Integer> b = frame(f).sent;
        return i >= 0 && i < b.size() ? b.get(i) : -1;
    }

    public int frameBit(int f, int i) {
        String b = frame(f).bits();
        return i >= 0 && i < b.length() ? b.charAt(i) - '0' : -1;
    }

    public int frameState(int f) { return frame(f).state; }

    public int attemptsOf(int f) { return frame(f).tries; }

    public boolean hasArrived(int f) { return frame(f).arrived != null; }

    public int arrivedByte(int f, int i) {
        List<Integer> b = frame(f).arrived;
        return b != null && i >= 0 && i < b.size() ? b.get(i) : -1;
    }

    public boolean isIntact(int f) { return frame(f).sent.equals(frame(f).arrived); }

    public int takenFrom(int bit) {
        range(bit, 0, 99);
        return ((2 * bit + 1) * (1000 + now.drift)) / 2000;
    }

    public int safeBits() {
        for (int i = 0; i < 100; i++) {
            if (takenFrom(i) != i) {
                return i;
            }
        }
        return 100;
    }

    public int receivedBit(int f, int bit, int tick) {
        frame(f);
        range(tick, 0, 999999);
        String b = taken(cable(now, frame(f), tick, now.bitTime), now.drift);
        return bit >= 0 && bit < b.length() ? b.charAt(bit) - '0' : -1;
    }

    private String inversions(int f, int tick) {
        frame(f);
        range(tick, 0, 999999);
        return difference(frame(f).bits(), cable(now, frame(f), tick, now.bitTime));
    }

    private static String difference(String a, String b) {
        StringBuilder out = new StringBuilder();
        for (int i = 0; i < a.length(); i++) {
            out.append(a.charAt(i) == b.charAt(i) ? '0' : '1');
        }
        return out.toString();
    }

    public int invertedBits(int f, int tick) { return inversions(f, tick).replace("0", "").length(); }

    public int longestBurst(int f, int tick) {
        int most = 0;
        for (String run : inversions(f, tick).split("0")) {
            most = Math.max(most, run.length());
        }
        return most;
    }

    public int wrongBits(int f, int tick) {
        frame(f);
        range(tick, 0, 999999);
        String b = taken(cable(now, frame(f), tick, now.bitTime), now.drift);
        return difference(b, frame(f).bits()).replace("0", "").length();
    }

    public int resultAt(int f, int tick) {
        frame(f);
        range(tick, 0, 999999);
        return result(now, frame(f), tick, now.bitTime);
    }

    public boolean wouldPass(int f, int pattern, int bit) {
        String b = frame(f).bits();
        range(pattern, 1, 65535);
        String digits = Integer.toBinaryString(pattern);
        range(bit, 0, b.length() - digits.length());
        StringBuilder s = new StringBuilder(b);
        for (int i = 0; i < digits.length(); i++) {
            if (digits.charAt(i) == '1') {
                s.setCharAt(bit + i, s.charAt(bit + i) == '1' ? '0' : '1');
            }
        }
        return readable(bytes(s.toString()));
    }

    public int earliestSuccess(int f) {
        frame(f);
        for (int t = 0; t <= 600; t++) {
            if (result(now, frame(f), now.clock + t, now.bitTime) == 0) {
                return t;
            }
        }
        return -1;
    }

    public int bestBitTime(int f) {
        frame(f);
        for (int t = 1; t <= 9; t++) {
            if (result(now, frame(f), now.clock, t) == 0) {
                return t;
            }
        }
        return -1;
    }

    public int pendingFrame() { return pending(now); }

    public int napEnd() { return now.napEnd; }

    private State idle() {
        State s = now.copy();
        while (pending(s) >= 0) {
            attempt(s);
        }
        return s;
    }

    public int attemptsUntilIdle() { return idle().attempts - now.attempts; }

    public int clockWhenIdle() { return idle().clock; }

    public int attempts() { return now.attempts; }

    public int unreadableFrames() { return now.unreadable; }

    public int duplicates() { return now.duplicates; }

    public int lostAcknowledgements() { return now.lostAcks; }

    public int nappedTicks() { return now.napped; }

    public int bitsSent() { return now.bits; }

    public int attemptImbalance() { return 0; }

    public int clockImbalance() { return 0; }

    public float errorRate() {
        return now.attempts == 0 ? 0.0f : (float) (now.unreadable + now.lostAcks) / (float) now.attempts;
    }

    public double throughput() {
        int bytes = now.frames.stream().filter(f -> f.state == 1).mapToInt(f -> f.sent.size() - 2).sum();
        return now.clock == 0 ? 0.0 : (double) bytes / (double) now.clock;
    }

    private int send(List<Integer> bytes) {
        if (now.messages.size() == 12) {
            throw new IllegalStateException();
        }
        return newMessage(bytes);
    }

    public int sendMessage() {
        range(input.size(), 1, 16);
        if (now.messages.size() == 12) {
            throw new IllegalStateException();
        }
        operation();
        int number = send(new ArrayList<>(input));
        input.clear();
        return number;
    }

    private int doTransmit(int most) {
        if (now.clock > 900000) {
            throw new IllegalStateException();
        }
        int n = 0;
        while (n < most && pending(now) >= 0) {
            attempt(now);
            n++;
        }
        return n;
    }

    public int transmit(int most) {
        range(most, 1, 60);
        if (now.clock > 900000) {
            throw new IllegalStateException();
        }
        operation();
        return doTransmit(most);
    }

    private int doCancel(int m) {
        if (messageState(m) != 0) {
            throw new IllegalStateException();
        }
        int n = 0;
        for (Frame f : now.frames) {
            if (f.message == m && f.state == 0) {
                f.state = 2;
                n++;
            }
        }
        return n;
    }

    public int cancelMessage(int m) {
        if (messageState(m) != 0) {
            throw new IllegalStateException();
        }
        operation();
        return doCancel(m);
    }

    private int doResend(int m) {
        if (messageState(m) != 2) {
            throw new IllegalStateException();
        }
        return send(message(m));
    }

    public int resendMessage(int m) {
        if (messageState(m) != 2 || now.messages.size() == 12) {
            throw new IllegalStateException();
        }
        operation();
        return doResend(m);
    }

    private int doWait(int ticks) {
        if (now.clock + ticks > 900000) {
            throw new IllegalStateException();
        }
        return now.clock += ticks;
    }

    public int waitTicks(int ticks) {
        range(ticks, 1, 999);
        if (now.clock + ticks > 900000) {
            throw new IllegalStateException();
        }
        operation();
        return doWait(ticks);
    }

    public int setDrift(int drift) {
        range(drift, -99, 99);
        operation();
        int old = now.drift;
        now.drift = drift;
        return old;
    }

    private int doDog(int[] d) {
        if (now.dogs.size() == 3) {
            throw new IllegalStateException();
        }
        now.dogs.add(d);
        return now.dogs.size() - 1;
    }

    public int addDog(int period, int length, int offset) {
        range(period, 2, 999);
        range(length, 1, period - 1);
        range(offset, 0, 999);
        if (now.dogs.size() == 3) {
            throw new IllegalStateException();
        }
        operation();
        return doDog(new int[] {period, length, offset});
    }

    public int removeDog(int dog) {
        if (dog < 0 || dog >= now.dogs.size()) {
            throw new IndexOutOfBoundsException();
        }
        operation();
        now.dogs.remove(dog);
        return now.dogs.size();
    }

    public int undo() {
        if (past.isEmpty()) {
            throw new IllegalStateException();
        }
        now = past.removeLast();
        return past.size();
    }

    public int save() {
        saved = now.copy();
        return now.clock;
    }

    public int restore() {
        if (saved == null) {
            throw new IllegalStateException();
        }
        now = saved.copy();
        past.clear();
        return now.clock;
    }

    public int formatFrame(int f, int tick) {
        frame(f);
        range(tick, 0, 999999);
        output = cable(now, frame(f), tick, now.bitTime).replace('0', '.').replace('1', '*')
                .replaceAll("(.{8})(?=.)", "$1 ");
        return output.length();
    }

    public int outputByte(int i) { return i >= 0 && i < output.length() ? output.charAt(i) : -1; }
}
