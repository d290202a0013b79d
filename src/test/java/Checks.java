import java.util.function.LongSupplier;
import java.util.function.ToLongFunction;

/** What the tests written by hand have in common. */
abstract class Checks {
    static final Class<? extends RuntimeException> ARGUMENT = IllegalArgumentException.class;
    static final Class<? extends RuntimeException> STATE = IllegalStateException.class;
    static final Class<? extends RuntimeException> INDEX = IndexOutOfBoundsException.class;
    static final int NONE = MatchboxModem.NONE;

    /** Both dogs together chew in every tick: no frame is readable. */
    static final String ALWAYS_CHEWED = "dog 2 1 0;dog 2 1 1;";

    /** What the checks that follow are about. */
    static String topic = "";

    private static int wrong;
    private static int checks;

    static void due(long got, long want) {
        checks++;
        if (got != want) {
            fail("answered " + got + ", due is " + want);
        }
    }

    static void due(boolean got, boolean want) {
        due(got ? 1 : 0, want ? 1 : 0);
    }

    static void due(String got, String want) {
        checks++;
        if (!got.equals(want)) {
            fail("is " + got + ", due is " + want);
        }
    }

    /** The call throws exactly this, and nothing that can be seen changes. */
    static void refused(Taped x, Class<? extends RuntimeException> what, LongSupplier call) {
        checks++;
        String before = seen(x);
        String got = thrownBy(call);
        String after = seen(x);
        if (!got.equals(what.getSimpleName())) {
            fail("threw " + got + ", due is " + what.getSimpleName());
        } else if (!after.equals(before)) {
            fail("was refused, but changed something; before: " + before + " after: " + after);
        }
    }

    /** The call answers this, and nothing that can be seen changes. */
    static void asked(Taped x, long want, LongSupplier call) {
        checks++;
        String before = seen(x);
        long got = call.getAsLong();
        String after = seen(x);
        if (got != want) {
            fail("answered " + got + ", due is " + want);
        } else if (!after.equals(before)) {
            fail("is a question, but changed something; before: " + before + " after: " + after);
        }
    }

    static void fail(String what) {
        wrong++;
        StringBuilder where = new StringBuilder();
        for (StackTraceElement line : new Throwable().getStackTrace()) {
            if (!line.getClassName().matches("(Checks|Taped|Boundaries)(\\$.*)?")) {
                where.append(" < ").append(line.getFileName()).append(':').append(line.getLineNumber());
            }
        }
        System.out.println(topic + ": " + what + where);
    }

    static void end(String test) {
        System.out.println(test + (wrong == 0 ? ": all " + checks + " checks hold" : ": " + wrong + " checks fail"));
        System.exit(wrong == 0 ? 0 : 1);
    }

    static String thrownBy(LongSupplier call) {
        try {
            call.getAsLong();
        } catch (RuntimeException e) {
            return e.getClass().getSimpleName();
        }
        return "nothing";
    }

    /** Looks at new objects with the same past, so that the one of the test keeps its calls, and to look changes nothing. */
    private static final class Probe {
        private final Taped past;
        private Taped copy;
        private final StringBuilder seen = new StringBuilder();

        Probe(Taped past) {
            this.past = past;
            copy = past.again();
        }

        /** Answers the same as the question, and puts it down. */
        long ask(ToLongFunction<Taped> question) {
            if (!copy.hasRoomFor(1)) {
                copy = past.again();
            }
            long answer = question.applyAsLong(copy);
            seen.append(answer).append(' ');
            return answer;
        }

        boolean works(ToLongFunction<Taped> call) {
            String thrown = thrownBy(() -> ask(call));
            seen.append(thrown).append(' ');
            return thrown.equals("nothing");
        }

        void tell(String what) {
            seen.append(what).append(' ');
        }

        public String toString() {
            return seen.toString();
        }
    }

    /** Everything that can be seen. */
    static String seen(Taped x) {
        return state(x) + kept(x) + input(x) + error(x);
    }

    static String error(Taped x) {
        Probe p = new Probe(x);
        p.tell("error");
        p.ask(Taped::errorCode);
        p.ask(Taped::errorPosition);
        return p.toString();
    }

    static String input(Taped x) {
        Probe p = new Probe(x);
        p.tell("input");
        p.ask(Taped::checksum);
        // Where 20 more bytes have no room, the length is one of the last 20.
        if (!p.works(y -> y.append(0, 0, 0, 0, 0))) {
            for (int i = 500; i > 480; i--) {
                int length = i;
                p.works(y -> y.truncate(length));
            }
        }
        return p.toString();
    }

    /** What a change of the state or of the input leaves: the operations to undo, the saved state and the output. */
    static String kept(Taped x) {
        return past(x) + saved(x) + output(x);
    }

    static String past(Taped x) {
        Probe p = new Probe(x);
        p.tell("past");
        for (int i = 0; i < 10 && p.works(Taped::undo); i++) {
            p.ask(Taped::clock);
            p.ask(Taped::drift);
            p.ask(Taped::dogCount);
            p.ask(Taped::messageCount);
            p.ask(Taped::attempts);
        }
        return p.toString();
    }

    static String saved(Taped x) {
        Taped y = x.again();
        return "saved " + (thrownBy(y::restore).equals("nothing") ? state(y) : "nothing ");
    }

    static String output(Taped x) {
        Probe p = new Probe(x);
        p.tell("output");
        for (int i = 0; i < 54; i++) {
            int index = i;
            p.ask(y -> y.outputByte(index));
        }
        return p.toString();
    }

    /** What save saves and undo takes back. */
    static String state(Taped x) {
        Probe p = new Probe(x);
        p.tell("settings");
        p.ask(Taped::clock);
        p.ask(Taped::bitTime);
        p.ask(Taped::drift);
        p.tell("dogs");
        p.ask(Taped::dogCount);
        for (int i = 0; i < 150; i++) {
            int tick = i * 7;
            p.ask(y -> y.isChewed(tick) ? 1 : 0);
        }
        p.tell("messages");
        long messages = p.ask(Taped::messageCount);
        for (int i = 0; i < messages; i++) {
            int message = i;
            p.ask(y -> y.messageLength(message));
            p.ask(y -> y.messageState(message));
            p.ask(y -> y.firstFrame(message));
        }
        p.tell("frames");
        long frames = p.ask(Taped::frameCount);
        for (int i = 0; i < frames; i++) {
            frame(p, i);
        }
        counters(p);
        return p.toString();
    }

    private static void frame(Probe p, int frame) {
        p.ask(y -> y.frameState(frame));
        p.ask(y -> y.attemptsOf(frame));
        p.ask(y -> y.hasArrived(frame) ? 1 : 0);
        p.ask(y -> y.isIntact(frame) ? 1 : 0);
        long length = p.ask(y -> y.frameLength(frame));
        for (int i = 0; i < length; i++) {
            int index = i;
            p.ask(y -> y.frameByte(frame, index));
            p.ask(y -> y.arrivedByte(frame, index));
        }
    }

    private static void counters(Probe p) {
        p.tell("counters");
        p.ask(Taped::napEnd);
        p.ask(Taped::pendingFrame);
        p.ask(Taped::attempts);
        p.ask(Taped::unreadableFrames);
        p.ask(Taped::duplicates);
        p.ask(Taped::lostAcknowledgements);
        p.ask(Taped::nappedTicks);
        p.ask(Taped::bitsSent);
        p.ask(Taped::attemptImbalance);
        p.ask(Taped::clockImbalance);
        p.ask(y -> Float.floatToRawIntBits(y.errorRate()));
        p.ask(y -> Double.doubleToRawLongBits(y.throughput()));
        // The nap base, the attempt limit and the sequence number of the receiver can only be seen in what comes.
        p.ask(Taped::clockWhenIdle);
        p.ask(Taped::attemptsUntilIdle);
    }

    /** Puts a text into the input buffer, which is empty. */
    static void put(Taped x, String text) {
        for (int from = 0; from < text.length(); from += 20) {
            int[] v = new int[5];
            for (int i = 0; i < 20; i++) {
                v[i / 4] = v[i / 4] << 8 | (from + i < text.length() ? text.charAt(from + i) : 32);
            }
            x.append(v[0], v[1], v[2], v[3], v[4]);
        }
        x.truncate(text.length());
    }

    static Taped with(String configuration) {
        Taped x = new Taped();
        put(x, configuration);
        x.load();
        return x;
    }

    /** A modem without drift and dogs on which each bit lasts for one tick. */
    static Taped plain() {
        return with("modem 1 100 1 9;");
    }

    static int send(Taped x, String text) {
        x.truncate(0);
        put(x, text);
        return x.sendMessage();
    }

    static int commands(Taped x, String text) {
        x.truncate(0);
        put(x, text);
        return x.executeCommands();
    }

    static void goodConfiguration(String text, int dogs) {
        Taped x = new Taped();
        put(x, text);
        due(x.load(), dogs);
        due(x.errorCode(), 0);
        due(x.errorPosition(), NONE);
    }

    static void goodCommands(String text, int executed) {
        Taped x = new Taped();
        put(x, text);
        due(x.executeCommands(), executed);
        due(x.errorCode(), 0);
        due(x.errorPosition(), NONE);
    }

    static void badConfiguration(String text, int code, int position) {
        bad(text, code, position, false);
    }

    static void badCommands(String text, int code, int position) {
        bad(text, code, position, true);
    }

    /** The text is refused with this error, and nothing changes but the input buffer, which is empty, and the error. */
    private static void bad(String text, int code, int position, boolean commands) {
        Taped x = new Taped();
        x.save();
        x.transmit(1);
        x.formatFrame(0, 0);
        String before = state(x) + kept(x);
        put(x, text);
        due(thrownBy(commands ? x::executeCommands : x::load), "IllegalArgumentException");
        due(x.errorCode(), code);
        due(x.errorPosition(), position);
        due(input(x), input(new Taped()));
        due(state(x) + kept(x), before);
    }

    /** A frame of 3 bytes whose first acknowledgement is chewed, at tick 24. */
    static Taped withLostAcknowledgement() {
        Taped x = with("modem 1 100 1 3;dog 999 1 24;");
        send(x, "a");
        return x;
    }

    /** The clock is a tick from 894000 to 900000; frames 0 to 29 are lost, and two more are pending. */
    static Taped atTick(int tick) {
        Taped x = with("modem 9 100 99 9;" + ALWAYS_CHEWED);
        commands(x, "send abcdefghijklmnop;".repeat(8));
        // Each lost frame has lasted for 9 times 504 ticks, and for naps of 255 times 99: together 29781.
        for (int i = 0; i < 4; i++) {
            x.transmit(60);
        }
        x.transmit(30);
        for (int at = 30 * 29781; at < tick; at += Math.min(999, tick - at)) {
            x.waitTicks(Math.min(999, tick - at));
        }
        return x;
    }
}
