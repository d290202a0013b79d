import java.util.stream.IntStream;

/** The promises 1, 8 to 52, 64 and 65: a new object, and all that is only asked. */
final class QuestionBoundaries extends Boundaries {
    private static final int LEAST = Integer.MIN_VALUE;
    private static final int MOST = Integer.MAX_VALUE;
    private static final String NO_FRAME = "Throws `IndexOutOfBoundsException` if there is no such frame";
    private static final String NO_MESSAGE = "Throws `IndexOutOfBoundsException` if there is no such message";
    private static final String TICKS = "- `tick`: a tick, 0 to 999999";
    private static final String NO_TICK = "Throws `IllegalArgumentException` if tick is out of range";

    /** A call with a number. */
    private interface Question {
        long ask(Taped x, int number);
    }

    static void run() {
        newObject();
        settings();
        chewed();
        quiet();
        checksum();
        messages();
        noSuchFrame();
        noSuchTick();
        framesAndBytes();
        arrivals();
        taken();
        receivedBits();
        invertedBits();
        results();
        wrongBits();
        patterns();
        successes();
        bitTimes();
        queue();
        simulations();
        counters();
        balances();
        rates();
        output();
    }

    private static void newObject() {
        about(1, "Creates the modem of the configuration \"modem 2 100 10 4;dog 200 30 20;\" with the message of the bytes 104 105 (the letters h and i) at tick 0, an empty input buffer, an empty output and no saved state.");
        Taped x = new Taped();
        Taped y = with("modem 2 100 10 4;dog 200 30 20;");
        send(y, "hi");
        due(state(x), state(y));
        due(x.frameByte(0, 1), 104);
        due(x.frameByte(0, 2), 105);
        due(x.messageLength(0), 2);
        due(x.checksum(), 0);
        refused(x, ARGUMENT, () -> x.truncate(1));
        due(x.append(0, 0, 0, 0, 0), 20);
        due(x.outputByte(0), NONE);
        refused(x, STATE, x::restore);
        refused(x, STATE, x::undo);
        // The dog, the nap base and the attempt limit.
        due(x.nextChewedTick(0), 20);
        due(x.nextChewedTick(50), 220);
        x.addDog(2, 1, 0);
        x.addDog(2, 1, 1);
        due(x.transmit(60), 4);
        due(x.nappedTicks(), 10 + 20 + 40);
    }

    private static void settings() {
        about(9, "Returns 1 to 9 ticks.");
        due(with("modem 1 100 1 1;").bitTime(), 1);
        due(with("modem 9 100 1 1;").bitTime(), 9);

        about(10, "Returns -99 to 99 thousandths.");
        due(with("modem 1 1 1 1;").drift(), -99);
        due(with("modem 1 199 1 1;").drift(), 99);

        about(11, "Returns 0 to 3.");
        Taped x = plain();
        due(x.dogCount(), 0);
        for (int dogs = 1; dogs <= 3; dogs++) {
            x.addDog(9, 1, 0);
            due(x.dogCount(), dogs);
        }
        for (int dogs = 2; dogs >= 0; dogs--) {
            x.removeDog(0);
            due(x.dogCount(), dogs);
        }
    }

    private static void chewed() {
        ticks(12, (x, tick) -> x.isChewed(tick) ? 1 : 0);
        Taped x = with("modem 1 100 1 1;dog 999 1 0;");
        due(x.isChewed(0), true);
        due(x.isChewed(999999), true);
        due(x.isChewed(999998), false);

        ticks(13, Taped::nextChewedTick);
        about(13, "Returns the smallest tick that is not less than the given one, at most 1000 ticks after it, or NONE if there is none.");
        Taped y = with("modem 1 100 1 1;dog 999 1 999;");
        due(y.nextChewedTick(998), 999);
        due(y.nextChewedTick(999), 999);
        due(y.nextChewedTick(1000), 1998);
        // No dog can be farther than 999 ticks away.
        due(y.nextChewedTick(0), 999);
        due(y.nextChewedTick(999999), 999999);
        due(plain().nextChewedTick(0), NONE);
        due(plain().nextChewedTick(999999), NONE);
        due(with("modem 1 100 1 1;dog 999 1 1;").nextChewedTick(999999), 1000000);
        due(with("modem 1 100 1 1;dog 999 1 998;").nextChewedTick(999999), 999999 + 998);
        due(with("modem 1 100 1 1;dog 999 1 500;dog 999 1 400;").nextChewedTick(7), 400);
        due(with("modem 1 100 1 1;dog 999 1 400;dog 999 1 500;").nextChewedTick(401), 500);
    }

    private static void quiet() {
        about(14, "Finds the next tick from which on the cable is not chewed for a number of ticks.");
        // Quiet are 0 to 4, 6 to 10, 12 to 16 and so on.
        Taped x = with("modem 1 100 1 1;dog 6 1 5;");
        due(x.nextQuietTick(5), 0);
        due(x.nextQuietTick(6), NONE);
        x.waitTicks(1);
        due(x.nextQuietTick(4), 1);
        due(x.nextQuietTick(5), 6);
        x.waitTicks(4);
        due(x.nextQuietTick(1), 6);

        about(14, "- `ticks`: number of ticks, 1 to 500");
        Taped y = with("modem 1 100 1 1;dog 999 499 0;");
        due(y.nextQuietTick(1), 499);
        due(y.nextQuietTick(500), 499);
        due(with("modem 1 100 1 1;dog 999 500 0;").nextQuietTick(500), NONE);
        due(plain().nextQuietTick(1), 0);
        due(plain().nextQuietTick(500), 0);

        about(14, "Throws `IllegalArgumentException` if ticks is out of range");
        for (int ticks : new int[] {0, 501, -1, LEAST, MOST}) {
            refused(y, ARGUMENT, () -> y.nextQuietTick(ticks));
        }

        about(14, "Returns the smallest tick that is not less than the clock, at most 2000 ticks after it, or NONE if there is none.");
        Taped w = plain();
        w.waitTicks(7);
        due(w.nextQuietTick(500), 7);
        // Quiet only where both dogs pause: in the multiples of 667 and of 87, less 1, together first in 2000.
        due(with("modem 1 100 1 1;dog 667 666 0;dog 87 86 0;").nextQuietTick(1), 2000);
        // In those of 91 and of 22: first in 2001.
        Taped z = with("modem 1 100 1 1;dog 91 90 0;dog 22 21 0;");
        due(z.nextQuietTick(1), NONE);
        z.waitTicks(1);
        due(z.nextQuietTick(1), 2001);
        // The quiet ticks themselves may be more than 2000 ticks after the clock.
        due(with("modem 1 100 1 1;dog 667 665 1;dog 87 85 1;").nextQuietTick(2), 2000);
        due(with("modem 1 100 1 1;dog 667 665 1;dog 87 85 1;").nextQuietTick(3), NONE);
        due(with("modem 1 100 1 1;dog 91 89 1;dog 22 20 1;").nextQuietTick(2), NONE);
        due(with("modem 1 100 1 1;" + ALWAYS_CHEWED).nextQuietTick(1), NONE);
    }

    private static void checksum() {
        about(15, "Computes the checksum of the bytes in the input buffer, which does not change.");
        Taped x = plain();
        put(x, "hi");
        asked(x, 69, x::checksum);

        about(15, "Returns 0 to 255, 0 for an empty input buffer.");
        Taped y = plain();
        due(y.checksum(), 0);
        boolean[] seen = new boolean[256];
        for (int b = 0; b < 256; b++) {
            Taped z = plain();
            put(z, String.valueOf((char) b));
            int sum = z.checksum();
            due(sum >= 0 && sum <= 255, true);
            seen[sum & 255] = true;
        }
        due(seen[0] && seen[1] && seen[254] && seen[255], true);
        put(y, "hi");
        y.truncate(0);
        due(y.checksum(), 0);
        // All 500 bytes count.
        Taped w = plain();
        put(w, "a".repeat(499) + "b");
        int full = w.checksum();
        due(full, Model.crc(IntStream.range(0, 500).mapToObj(i -> i < 499 ? 97 : 98).toList()));
    }

    private static void messages() {
        about(16, "Returns 0 to 12.");
        Taped x = plain();
        due(x.messageCount(), 0);
        for (int i = 1; i <= 12; i++) {
            send(x, "a");
            due(x.messageCount(), i);
        }

        about(17, "Returns 1 to 16.");
        for (int length = 1; length <= 16; length++) {
            Taped y = plain();
            send(y, "abcdefghijklmnop".substring(0, length));
            due(y.messageLength(0), length);
        }

        about(18, "Returns PENDING, DELIVERED or LOST.");
        Taped z = with("modem 1 100 1 1;dog 999 1 50;");
        send(z, "abcde");
        send(z, "f");
        send(z, "abcde");
        z.transmit(4);
        // Of message 0 the first frame is lost by its acknowledgement alone; of message 2 the last one still waits.
        due(z.messageState(0), MatchboxModem.LOST);
        due(z.messageState(1), MatchboxModem.DELIVERED);
        due(z.messageState(2), MatchboxModem.PENDING);

        about(19, "Returns the first frame of a message.");
        due(z.firstFrame(0), 0);
        due(z.firstFrame(1), 2);
        due(z.firstFrame(2), 3);
        due(x.firstFrame(11), 11);
        noMessage(17, Taped::messageLength);
        noMessage(18, Taped::messageState);
        noMessage(19, Taped::firstFrame);
    }

    private static void noMessage(int promise, Question question) {
        about(promise, NO_MESSAGE);
        Taped x = plain();
        refused(x, INDEX, () -> question.ask(x, 0));
        send(x, "a");
        send(x, "abcde");
        for (int message : new int[] {-1, 2, 12, LEAST, MOST}) {
            refused(x, INDEX, () -> question.ask(x, message));
        }
        due(thrownBy(() -> question.ask(x, 0)), "nothing");
        due(thrownBy(() -> question.ask(x, 1)), "nothing");
        Taped y = plain();
        commands(y, "send a;".repeat(12));
        due(thrownBy(() -> question.ask(y, 11)), "nothing");
        refused(y, INDEX, () -> question.ask(y, 12));
    }

    private static void noSuchFrame() {
        noFrame(21, Taped::frameLength);
        noFrame(22, (x, frame) -> x.frameByte(frame, 0));
        noFrame(23, (x, frame) -> x.frameBit(frame, 0));
        noFrame(24, Taped::frameState);
        noFrame(25, Taped::attemptsOf);
        noFrame(26, (x, frame) -> x.hasArrived(frame) ? 1 : 0);
        noFrame(27, (x, frame) -> x.arrivedByte(frame, 0));
        noFrame(28, (x, frame) -> x.isIntact(frame) ? 1 : 0);
        noFrame(31, (x, frame) -> x.receivedBit(frame, 0, 0));
        noFrame(32, (x, frame) -> x.invertedBits(frame, 0));
        noFrame(33, (x, frame) -> x.longestBurst(frame, 0));
        noFrame(34, (x, frame) -> x.wrongBits(frame, 0));
        noFrame(35, (x, frame) -> x.resultAt(frame, 0));
        noFrame(36, (x, frame) -> x.wouldPass(frame, 1, 0) ? 1 : 0);
        noFrame(37, Taped::earliestSuccess);
        noFrame(38, Taped::bestBitTime);
        noFrame(64, (x, frame) -> x.formatFrame(frame, 0));
    }

    private static void noFrame(int promise, Question question) {
        about(promise, NO_FRAME);
        Taped x = plain();
        refused(x, INDEX, () -> question.ask(x, 0));
        send(x, "abcde");
        for (int frame : new int[] {-1, 2, 48, LEAST, MOST}) {
            refused(x, INDEX, () -> question.ask(x, frame));
        }
        due(thrownBy(() -> question.ask(x, 0)), "nothing");
        due(thrownBy(() -> question.ask(x, 1)), "nothing");
        Taped y = plain();
        commands(y, "send abcdefghijklmnop;".repeat(12));
        due(thrownBy(() -> question.ask(y, 47)), "nothing");
        due(thrownBy(() -> question.ask(y, 48)), "IndexOutOfBoundsException");
        // A frame that was taken back is none any more.
        x.undo();
        refused(x, INDEX, () -> question.ask(x, 0));
    }

    private static void noSuchTick() {
        ticks(31, (x, tick) -> x.receivedBit(0, 0, tick));
        ticks(32, (x, tick) -> x.invertedBits(0, tick));
        ticks(33, (x, tick) -> x.longestBurst(0, tick));
        ticks(34, (x, tick) -> x.wrongBits(0, tick));
        ticks(35, (x, tick) -> x.resultAt(0, tick));
        ticks(64, (x, tick) -> x.formatFrame(0, tick));
    }

    private static void ticks(int promise, Question question) {
        about(promise, TICKS);
        Taped x = new Taped();
        for (int tick : new int[] {0, 1, 999998, 999999}) {
            due(thrownBy(() -> question.ask(x, tick)), "nothing");
        }
        about(promise, NO_TICK);
        for (int tick : new int[] {-1, 1000000, LEAST, MOST}) {
            refused(x, ARGUMENT, () -> question.ask(x, tick));
        }
    }

    private static void framesAndBytes() {
        about(20, "Returns 0 to 48.");
        Taped x = plain();
        due(x.frameCount(), 0);
        for (int i = 1; i <= 12; i++) {
            send(x, "abcdefghijklmnop");
            due(x.frameCount(), 4 * i);
        }

        about(21, "Returns 3 to 6.");
        for (int length = 1; length <= 4; length++) {
            Taped y = plain();
            send(y, "abcd".substring(0, length));
            due(y.frameLength(0), length + 2);
        }

        about(22, "- `index`: 0 for the header");
        due(x.frameByte(0, 0), 4);
        due(x.frameByte(47, 0), 244);

        about(22, "Returns 0 to 255, or NONE if there is no such byte.");
        Taped z = plain();
        send(z, "\u0000\u00ff\u0080\u007f");
        send(z, "\u0001");
        int[] bytes = {4, 0, 255, 128, 127};
        for (int i = 0; i < 5; i++) {
            due(z.frameByte(0, i), bytes[i]);
        }
        due(z.frameByte(0, 5) >= 0, true);
        for (int index : new int[] {-1, 6, LEAST, MOST}) {
            due(z.frameByte(0, index), NONE);
        }
        // Frame 1 has fewer bytes.
        due(z.frameByte(1, 2) >= 0, true);
        due(z.frameByte(1, 3), NONE);

        about(23, "Returns 0 or 1, or NONE if there is no such bit.");
        due(z.frameBit(0, 0), 0);
        due(z.frameBit(0, 5), 1);
        due(z.frameBit(0, 15), 0);
        due(z.frameBit(0, 16), 1);
        due(z.frameBit(0, 23), 1);
        due(z.frameBit(0, 24), 1);
        due(z.frameBit(0, 25), 0);
        due(z.frameBit(0, 47) >= 0, true);
        for (int bit : new int[] {-1, 48, LEAST, MOST}) {
            due(z.frameBit(0, bit), NONE);
        }
        due(z.frameBit(1, 23) >= 0, true);
        due(z.frameBit(1, 24), NONE);

        about(24, "Returns QUEUED, ACKNOWLEDGED or LOST.");
        Taped v = with("modem 1 100 1 1;dog 999 1 50;");
        send(v, "abcdefghijkl");
        v.transmit(2);
        due(v.frameState(0), MatchboxModem.LOST);
        due(v.frameState(1), MatchboxModem.ACKNOWLEDGED);
        due(v.frameState(2), MatchboxModem.QUEUED);

        about(25, "Returns 0 to the attempt limit.");
        for (int limit = 1; limit <= 9; limit++) {
            Taped w = with("modem 1 100 1 " + limit + ";" + ALWAYS_CHEWED);
            send(w, "a");
            due(w.attemptsOf(0), 0);
            w.transmit(60);
            due(w.attemptsOf(0), limit);
            w.transmit(60);
            due(w.attemptsOf(0), limit);
        }
    }

    private static void arrivals() {
        about(26, "Returns whether it has, at least once.");
        Taped x = withLostAcknowledgement();
        due(x.hasArrived(0), false);
        x.transmit(1);
        due(x.hasArrived(0), true);
        // A duplicate does not arrive, but the first time counts.
        x.transmit(1);
        due(x.duplicates(), 1);
        due(x.hasArrived(0), true);
        // An unreadable frame does not arrive.
        Taped y = with("modem 1 100 1 2;dog 999 1 0;");
        send(y, "a");
        y.transmit(1);
        due(y.hasArrived(0), false);
        y.transmit(1);
        due(y.hasArrived(0), true);
        // Nor does one that is only taken for a duplicate.
        Taped z = with("modem 1 100 1 2;dog 999 1 59;dog 999 3 65;");
        send(z, "abcdefgh");
        z.transmit(2);
        due(z.frameState(1), MatchboxModem.ACKNOWLEDGED);
        due(z.hasArrived(1), false);

        about(27, "- `index`: 0 for the header");
        due(x.arrivedByte(0, 0), 1);

        about(27, "Returns 0 to 255, or NONE if the frame has not arrived, or there is no such byte.");
        due(z.arrivedByte(1, 0), NONE);
        due(withLostAcknowledgement().arrivedByte(0, 0), NONE);
        Taped w = plain();
        send(w, "\u0000\u00ff\u0080");
        w.transmit(1);
        int[] bytes = {3, 0, 255, 128, w.frameByte(0, 4)};
        for (int i = 0; i < 5; i++) {
            due(w.arrivedByte(0, i), bytes[i]);
        }
        for (int index : new int[] {-1, 5, 6, LEAST, MOST}) {
            due(w.arrivedByte(0, index), NONE);
        }

        about(28, "Tells whether a frame has arrived, most recently with the bytes that were sent.");
        due(withLostAcknowledgement().isIntact(0), false);
        due(w.isIntact(0), true);
        due(z.isIntact(1), false);
        Taped other = with("modem 1 100 1 2;dog 999 1 3;dog 999 3 9;dog 999 1 24;");
        send(other, "a");
        other.transmit(1);
        due(other.isIntact(0), false);
        other.transmit(1);
        due(other.isIntact(0), true);
    }

    private static void taken() {
        about(29, "- `bit`: number of the bit, 0 to 99");
        Taped x = plain();
        due(x.takenFrom(0), 0);
        due(x.takenFrom(99), 99);

        about(29, "Throws `IllegalArgumentException` if bit is out of range");
        for (int bit : new int[] {-1, 100, LEAST, MOST}) {
            refused(x, ARGUMENT, () -> x.takenFrom(bit));
        }

        about(29, "Returns the index, also if the frame has fewer bits.");
        // There is not even a frame.
        x.setDrift(99);
        due(x.takenFrom(0), 0);
        due(x.takenFrom(50), 55);
        due(x.takenFrom(99), 109);
        x.setDrift(-99);
        due(x.takenFrom(0), 0);
        due(x.takenFrom(50), 45);
        due(x.takenFrom(99), 89);

        about(30, "Returns the smallest bit for which takenFrom is another bit, or 100 if there is none below 100.");
        int[][] safe = {{0, 100}, {5, 100}, {-5, 100}, {6, 83}, {-6, 83}, {8, 62}, {-8, 63}, {40, 12}, {-40, 13}, {99, 5},
            {-99, 5}};
        for (int[] row : safe) {
            x.setDrift(row[0]);
            due(x.safeBits(), row[1]);
        }
    }

    private static void receivedBits() {
        about(31, "Returns 0 or 1, or NONE if the frame has no such bit.");
        Taped x = plain();
        send(x, "a");
        send(x, "abcd");
        String first = "00000001" + "01100001";
        for (int bit = 0; bit < 16; bit++) {
            due(x.receivedBit(0, bit, 0), first.charAt(bit) - '0');
        }
        due(x.receivedBit(0, 23, 0), x.frameBit(0, 23));
        due(x.receivedBit(1, 47, 0), x.frameBit(1, 47));
        for (int bit : new int[] {-1, 24, 47, 48, LEAST, MOST}) {
            due(x.receivedBit(0, bit, 0), NONE);
        }
        due(x.receivedBit(1, 48, 0), NONE);
        // A bit that the receiver takes from behind the frame is a bit of the frame all the same.
        x.setDrift(99);
        due(x.receivedBit(0, 23, 0), 0);
    }

    private static void invertedBits() {
        about(32, "Counts the bits that would be inverted on the cable if a frame was sent beginning at a tick.");
        Taped x = with("modem 1 100 1 1;dog 99 5 10;dog 99 2 24;");
        send(x, "a");
        due(x.invertedBits(0, 0), 5);
        due(x.invertedBits(0, 1), 6);
        due(x.invertedBits(0, 2), 7);
        due(x.invertedBits(0, 14), 3);
        due(x.invertedBits(0, 26), 0);
        due(x.invertedBits(0, 85), 0);
        due(x.invertedBits(0, 86), 1);
        Taped y = with("modem 1 100 1 1;" + ALWAYS_CHEWED);
        send(y, "a");
        send(y, "abcd");
        due(y.invertedBits(0, 0), 24);
        due(y.invertedBits(1, 999999), 48);

        about(33, "Returns the length of the longest sequence of consecutive bits that would be inverted on the cable");
        due(x.longestBurst(0, 0), 5);
        due(x.longestBurst(0, 13), 2);
        due(x.longestBurst(0, 14), 2);
        due(x.longestBurst(0, 25), 1);
        due(x.longestBurst(0, 26), 0);
        // Only the part that lies in the frame counts, at its beginning and at its end.
        due(x.longestBurst(0, 11), 4);
        due(x.longestBurst(0, 86), 1);
        due(x.longestBurst(0, 87), 2);
        due(y.longestBurst(0, 0), 24);
        due(y.longestBurst(1, 0), 48);
        // Bits beside each other may be far apart in ticks.
        Taped z = with("modem 9 100 1 1;dog 9 1 0;");
        send(z, "a");
        due(z.longestBurst(0, 0), 24);
        due(z.longestBurst(0, 1), 0);
    }

    private static void results() {
        about(35, "Returns SUCCESS, UNREADABLE or ACKNOWLEDGEMENT_LOST.");
        Taped x = with("modem 2 100 1 1;dog 999 1 100;");
        send(x, "a");
        // The frame lasts for 48 ticks, and its acknowledgement for 16; every second tick is the first one of a bit.
        for (int tick = 30; tick <= 110; tick++) {
            int after = 100 - tick;
            due(x.resultAt(0, tick), after < 0 || after % 2 == 1 || after > 62 ? MatchboxModem.SUCCESS
                    : after < 48 ? MatchboxModem.UNREADABLE : MatchboxModem.ACKNOWLEDGEMENT_LOST);
        }
        // A frame that would be a duplicate has a result like any other one.
        Taped y = withLostAcknowledgement();
        y.transmit(1);
        due(y.resultAt(0, 33), MatchboxModem.SUCCESS);
        // As has one that has been delivered.
        y.transmit(1);
        due(y.resultAt(0, 0), MatchboxModem.ACKNOWLEDGEMENT_LOST);
    }

    private static void wrongBits() {
        about(34, "Returns the number of bits that are not equal to the bits of the frame with the same numbers.");
        Taped x = with("modem 1 100 1 1;" + ALWAYS_CHEWED);
        send(x, "a");
        due(x.wrongBits(0, 0), 24);
        Taped y = plain();
        send(y, "a");
        due(y.wrongBits(0, 0), 0);
        // 1s are the bits 7, 19, 21 and 23; with this drift bit 10 and the ones after it come from the next bit.
        Taped z = with("modem 1 150 1 1;");
        send(z, "\u0000");
        due(z.wrongBits(0, 0), 6);
        // Bit 18 is right again if bit 19, from which it comes, is inverted.
        z.addDog(999, 1, 19);
        due(z.wrongBits(0, 0), 5);
        due(z.invertedBits(0, 0), 1);
    }

    private static void patterns() {
        about(36, "- `pattern`: 1 to 65535; each 1 in its binary digits stands for an inverted bit");
        Taped x = plain();
        send(x, "ab");
        due(x.wouldPass(0, 1, 0), false);
        due(x.wouldPass(0, 65535, 0), false);
        // 263 times 2, 3, and 128 + 1: the checksum holds as well.
        for (int pattern : new int[] {263, 526, 263 ^ 526, 263 << 7, 263 << 7 ^ 263}) {
            due(x.wouldPass(0, pattern, 8), true);
            due(x.wouldPass(0, pattern ^ 1, 8), false);
        }

        about(36, "- `bit`: number of the bit of the frame for the first binary digit of the pattern, which is a 1; the others follow");
        due(x.wouldPass(0, 263, 2), true);
        due(x.wouldPass(0, 263, 4), false);
        due(x.wouldPass(0, 263, 23), true);
        // The zeros at the end of a pattern stand for bits as well.
        due(x.wouldPass(0, 263 << 1, 22), true);
        due(x.wouldPass(0, 263 << 7, 16), true);

        about(36, "Throws `IllegalArgumentException` if pattern is out of range, or the frame does not have all these bits");
        for (int pattern : new int[] {0, 65536, -1, LEAST, MOST}) {
            refused(x, ARGUMENT, () -> x.wouldPass(0, pattern, 0) ? 1 : 0);
        }
        int[][] digits = {{1, 1}, {2, 2}, {3, 2}, {4, 3}, {255, 8}, {256, 9}, {263, 9}, {32767, 15}, {32768, 16}, {65535, 16}};
        for (int[] row : digits) {
            int last = 32 - row[1];
            due(thrownBy(() -> x.wouldPass(0, row[0], 0) ? 1 : 0), "nothing");
            due(thrownBy(() -> x.wouldPass(0, row[0], last) ? 1 : 0), "nothing");
            due(thrownBy(() -> x.wouldPass(0, row[0], last + 1) ? 1 : 0), "IllegalArgumentException");
            due(thrownBy(() -> x.wouldPass(0, row[0], -1) ? 1 : 0), "IllegalArgumentException");
        }
        for (int bit : new int[] {-1, 32, 33, LEAST, MOST}) {
            refused(x, ARGUMENT, () -> x.wouldPass(0, 1, bit) ? 1 : 0);
        }

        about(36, "Tells whether a frame would be readable if certain bits of it were inverted, and the receiver took all bits from the right bits.");
        x.setDrift(99);
        commands(x, ALWAYS_CHEWED);
        due(x.resultAt(0, 0), MatchboxModem.UNREADABLE);
        due(x.wouldPass(0, 263, 8), true);
        due(x.wouldPass(0, 1, 8), false);
    }

    private static void successes() {
        about(37, "Returns the smallest number of ticks from the clock, 0 to 600, after which resultAt would be SUCCESS if the frame was sent beginning then, or NONE if there is none.");
        Taped x = plain();
        send(x, "a");
        due(x.earliestSuccess(0), 0);
        due(with24BitsAfter(1).earliestSuccess(0), 1);
        due(with24BitsAfter(599).earliestSuccess(0), 599);
        due(with24BitsAfter(600).earliestSuccess(0), 600);
        due(with24BitsAfter(601).earliestSuccess(0), NONE);
        Taped y = with24BitsAfter(601);
        y.waitTicks(1);
        due(y.earliestSuccess(0), 600);
        y.waitTicks(600);
        due(y.earliestSuccess(0), 0);
        y.setDrift(99);
        due(y.earliestSuccess(0), NONE);
        // The nap does not count, nor whether the frame is pending.
        Taped z = with("modem 1 100 99 9;dog 999 1 0;dog 999 1 135;");
        send(z, "a");
        z.transmit(1);
        due(z.napEnd(), 131);
        due(z.earliestSuccess(0), 0);
        z.cancelMessage(0);
        due(z.earliestSuccess(0), 0);
        // An acknowledgement that is lost is no success.
        Taped w = with("modem 1 100 1 1;dog 999 1 31;");
        send(w, "a");
        due(w.earliestSuccess(0), 32);
    }

    /** The cable is chewed in all ticks before this one. */
    private static Taped with24BitsAfter(int tick) {
        Taped x = with("modem 1 100 1 9;dog 999 " + tick + " 0;");
        send(x, "a");
        return x;
    }

    private static void bitTimes() {
        about(38, "Finds the smallest bit time with which sending a frame at the clock would succeed.");
        // The smallest one counts, whatever the bit time of the modem is.
        Taped v = with("modem 7 100 1 9;dog 999 1 45;");
        send(v, "a");
        due(v.bestBitTime(0), 1);
        v.waitTicks(20);
        // Tick 45 is 25 ticks later: in the acknowledgement of bit time 1, and bit 12 and a half of bit time 2.
        due(v.bestBitTime(0), 2);
        asked(v, 2, () -> v.bestBitTime(0));

        about(38, "Returns 1 to 9, or NONE if there is none.");
        Taped x = plain();
        send(x, "a");
        due(x.bestBitTime(0), 1);
        // Chewed in all ticks but the multiples of the bit time.
        for (int ticks = 2; ticks <= 9; ticks++) {
            Taped y = with("modem 5 100 1 9;dog " + ticks + " " + (ticks - 1) + " 1;");
            send(y, "a");
            due(y.bestBitTime(0), ticks);
            due(y.bitTime(), 5);
        }
        Taped z = with("modem 1 100 1 9;dog 10 9 1;");
        send(z, "a");
        due(z.bestBitTime(0), NONE);
        x.setDrift(99);
        due(x.bestBitTime(0), NONE);
        // It is about the clock, not about the end of the nap.
        Taped w = with("modem 1 100 98 9;dog 999 1 0;dog 9 8 33;");
        send(w, "a");
        w.transmit(1);
        due(w.clock(), 32);
        due(w.bestBitTime(0), 9);
    }

    private static void queue() {
        about(39, "Returns the number of the frame, or NONE if there is none.");
        Taped x = plain();
        due(x.pendingFrame(), NONE);
        commands(x, "send abcdefghijklmnop;".repeat(12));
        for (int message = 0; message < 12; message++) {
            due(x.pendingFrame(), 4 * message);
            x.cancelMessage(message);
        }
        due(x.pendingFrame(), NONE);

        about(40, "Returns the tick; it may be less than the clock.");
        Taped y = with("modem 1 100 10 9;dog 999 1 0;");
        send(y, "a");
        due(y.napEnd(), 0);
        y.transmit(1);
        due(y.napEnd(), 42);
        y.waitTicks(500);
        due(y.clock(), 532);
        due(y.napEnd(), 42);
        y.transmit(1);
        due(y.napEnd(), 42);
    }

    private static void simulations() {
        about("Simulations do not change anything and may go beyond tick 999999.");
        Taped late = atTick(900000);
        asked(late, 18, late::attemptsUntilIdle);
        asked(late, 900000 + 2 * 29781, late::clockWhenIdle);
        Taped x = with("modem 9 100 99 9;" + ALWAYS_CHEWED);
        commands(x, "send abcdefghijklmnop;".repeat(12));
        asked(x, 48 * 9, x::attemptsUntilIdle);
        asked(x, 48 * 29781, x::clockWhenIdle);
        Taped y = with("modem 9 100 1 1;dog 999 1 0;");
        send(y, "a");
        // 999999 is a multiple of 999: the frame beginning then meets the dog, and the ones after it go on.
        asked(y, MatchboxModem.UNREADABLE, () -> y.resultAt(0, 999999));
        asked(y, 1, () -> y.invertedBits(0, 999999));
        asked(y, 1, () -> y.longestBurst(0, 999999));
        asked(y, 1, () -> y.wrongBits(0, 999999));
        asked(y, 1, () -> y.receivedBit(0, 0, 999999));
        asked(y, 1, () -> y.earliestSuccess(0));
        asked(y, NONE, () -> y.bestBitTime(0));
        asked(y, 0, () -> y.wouldPass(0, 1, 0) ? 1 : 0);
        asked(y, 999999, () -> y.nextChewedTick(999999));
        asked(y, 1, () -> y.nextQuietTick(1));
        Taped z = with("modem 9 100 1 1;dog 999 1 215;");
        send(z, "a");
        due(z.resultAt(0, 999999), MatchboxModem.SUCCESS);
        due(z.resultAt(0, 999998), MatchboxModem.ACKNOWLEDGEMENT_LOST);

        about(41, "Simulates attempts until no frame is pending.");
        due(plain().attemptsUntilIdle(), 0);
        due(new Taped().attemptsUntilIdle(), 2);
        Taped w = withLostAcknowledgement();
        due(w.attemptsUntilIdle(), 2);
        w.cancelMessage(0);
        due(w.attemptsUntilIdle(), 0);

        about(42, "Simulates attempts until no frame is pending.");
        due(plain().clockWhenIdle(), 0);
        due(new Taped().clockWhenIdle(), 170);
        due(withLostAcknowledgement().clockWhenIdle(), 65);
        // Without a pending frame no nap is slept.
        Taped v = with("modem 1 100 10 9;dog 999 1 0;");
        send(v, "a");
        v.transmit(1);
        v.cancelMessage(0);
        due(v.napEnd(), 42);
        due(v.clockWhenIdle(), 32);
    }

    private static void counters() {
        about(44, "Returns how often a frame was not readable.");
        Taped x = withLostAcknowledgement();
        due(x.unreadableFrames(), 0);
        x.transmit(1);
        due(x.unreadableFrames(), 0);
        x.addDog(999, 1, 40);
        x.transmit(1);
        due(x.unreadableFrames(), 1);

        about(47, "Returns by how many ticks the clock was increased in step 1 of all attempts.");
        due(x.nappedTicks(), 1);
        x.transmit(1);
        due(x.nappedTicks(), 1 + 2);
        // To wait is not to nap.
        x.waitTicks(9);
        due(x.nappedTicks(), 3);

        about(48, "Returns the number of bits, without acknowledgements.");
        due(plain().bitsSent(), 0);
        due(x.bitsSent(), 3 * 24);
        Taped y = plain();
        commands(y, "send abcde;transmit 9;");
        due(y.bitsSent(), 48 + 24);
    }

    private static void balances() {
        about(49, "Checks the attempts: their number should be that of the unreadable frames, the duplicates and the arrivals together");
        about(49, "Returns the absolute values of both differences plus the number of ACKNOWLEDGED frames without an attempt, which is always 0.");
        about(50, "Returns the difference, which is always 0.");
        Taped x = new Taped();
        balanced(x);
        x.transmit(1);
        balanced(x);
        x.transmit(1);
        balanced(x);
        // Lost, given up, sent again, waited, taken for a duplicate and arrived twice.
        put(x, "modem 3 100 2 3;dog 59 1 3;dog 59 3 9;dog 59 8 48;");
        x.load();
        balanced(x);
        commands(x, "send abcdefgh;send abcdefghijklmnop;send xyz;wait 7;");
        x.save();
        for (int i = 0; i < 6; i++) {
            x.transmit(3);
            balanced(x);
        }
        x.cancelMessage(send(x, "abc"));
        balanced(x);
        x.waitTicks(100);
        balanced(x);
        x.undo();
        balanced(x);
        x.undo();
        x.undo();
        balanced(x);
        x.restore();
        balanced(x);
        commands(x, "cancel 0;resend 0;transmit 60;wait 999;transmit 60;");
        balanced(x);
        Taped first = plain();
        commands(first, "send abcdefgh;transmit 1;");
        balanced(first);
        first.transmit(1);
        balanced(first);
        Taped late = atTick(900000);
        balanced(late);
        late.transmit(60);
        balanced(late);
    }

    private static void balanced(Taped x) {
        due(x.attemptImbalance(), 0);
        due(x.clockImbalance(), 0);
    }

    private static void rates() {
        about(51, "Returns the number of unreadable frames plus the number of lost acknowledgements, converted to float, divided by the number of attempts, converted to float, or 0.0f without attempts.");
        Taped x = new Taped();
        due(Float.floatToRawIntBits(x.errorRate()), Float.floatToRawIntBits(0.0f));
        x.waitTicks(1);
        due(Float.floatToRawIntBits(x.errorRate()), Float.floatToRawIntBits(0.0f));
        x.transmit(1);
        due(Float.floatToRawIntBits(x.errorRate()), Float.floatToRawIntBits(1.0f));
        x.transmit(1);
        due(Float.floatToRawIntBits(x.errorRate()), Float.floatToRawIntBits(0.5f));
        // One unreadable, one unheard, one heard.
        Taped y = withLostAcknowledgement();
        y.addDog(999, 1, 40);
        y.transmit(3);
        due(Float.floatToRawIntBits(y.errorRate()), Float.floatToRawIntBits(2.0f / 3.0f));
        Taped z = plain();
        commands(z, "send a;transmit 1;");
        due(Float.floatToRawIntBits(z.errorRate()), Float.floatToRawIntBits(0.0f));

        about(52, "Returns the number of bytes of the message in all ACKNOWLEDGED frames, converted to double, divided by the clock, converted to double, or 0.0 if the clock is 0.");
        due(Double.doubleToRawLongBits(new Taped().throughput()), Double.doubleToRawLongBits(0.0));
        due(Double.doubleToRawLongBits(plain().throughput()), Double.doubleToRawLongBits(0.0));
        due(Double.doubleToRawLongBits(x.throughput()), Double.doubleToRawLongBits(2.0 / 171.0));
        Taped w = plain();
        w.waitTicks(1);
        due(Double.doubleToRawLongBits(w.throughput()), Double.doubleToRawLongBits(0.0));
        // Only frames that are ACKNOWLEDGED count, even if others have arrived.
        Taped v = with("modem 1 100 1 1;dog 999 1 31;");
        commands(v, "send a;send bcdef;transmit 2;");
        due(v.hasArrived(0), true);
        due(v.frameState(1), MatchboxModem.ACKNOWLEDGED);
        due(Double.doubleToRawLongBits(v.throughput()), Double.doubleToRawLongBits(4.0 / 88.0));
    }

    private static void output() {
        about(64, "for each bit a full stop (byte 46) for 0 and an asterisk (byte 42) for 1, with a space (byte 32) between two bytes.");
        Taped x = plain();
        String[] messages = {"a", "\u0000\u00ff", "abc", "\u00ff\u00ff\u00ff\u00ff"};
        int[] lengths = {26, 35, 44, 53};
        for (int i = 0; i < 4; i++) {
            send(x, messages[i]);
            due(x.formatFrame(i, 0), lengths[i]);
            for (int at = 0; at < lengths[i]; at++) {
                int bit = at - at / 9;
                due(x.outputByte(at), at % 9 == 8 ? 32 : x.frameBit(i, bit) == 1 ? 42 : 46);
            }
            due(x.outputByte(lengths[i]), NONE);
        }
        // The output that is replaced may be longer than the new one.
        due(x.formatFrame(0, 999999), 26);
        due(x.outputByte(25) == 42 || x.outputByte(25) == 46, true);
        due(x.outputByte(26), NONE);
        // The bits are those on the cable: only a dog inverts them, no drift moves them.
        Taped y = with("modem 2 199 1 1;dog 999 1 4;");
        send(y, "a");
        y.formatFrame(0, 0);
        due(y.outputByte(1), 46);
        due(y.outputByte(2), 42);
        due(y.outputByte(3), 46);
        due(y.outputByte(7), 42);
        y.formatFrame(0, 1);
        due(y.outputByte(2), 46);

        about(65, "- `index`: index of the byte, from 0");
        due(y.outputByte(0), 46);

        about(65, "Returns the byte, or NONE if there is no such byte.");
        for (int index : new int[] {-1, 26, 53, LEAST, MOST}) {
            due(y.outputByte(index), NONE);
        }
        due(y.outputByte(25) == 42 || y.outputByte(25) == 46, true);
        due(new Taped().outputByte(0), NONE);
    }
}
