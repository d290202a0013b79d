import java.util.List;
import java.util.function.Consumer;

/** The section "Undo" of the terms, and the promises 53 to 63. */
final class OperationBoundaries extends Boundaries {
    private static final int LEAST = Integer.MIN_VALUE;
    private static final int MOST = Integer.MAX_VALUE;
    private static final String NO_MESSAGE = "Throws `IndexOutOfBoundsException` if there is no such message";

    static void run() {
        whatIsAnOperation();
        howManyAreKept();
        whatThrows();
        whatIsCheckedFirst();
        sendMessage();
        transmit();
        cancelMessage();
        resendMessage();
        waitTicks();
        setDrift();
        addDog();
        removeDog();
        undo();
        save();
        restore();
    }

    /** A dog, a lost message, a delivered one, a pending one, and "abc" in the input buffer; nothing can be undone. */
    private static Taped busy() {
        Taped x = with("modem 1 100 5 2;dog 999 1 60;");
        commands(x, "send abcde;cancel 0;send fghi;transmit 1;send jklmnopq;");
        x.save();
        x.restore();
        put(x, "abc");
        return x;
    }

    private static final List<Consumer<Taped>> OPERATIONS = List.of(Taped::sendMessage, x -> x.transmit(1),
            x -> x.cancelMessage(2), x -> x.resendMessage(0), x -> x.waitTicks(1), x -> x.setDrift(7),
            x -> x.addDog(50, 1, 3), x -> x.removeDog(0));

    private static void whatIsAnOperation() {
        about("The methods in the section \"Operations\", and executeCommands, are operations;");
        String before = state(busy());
        for (Consumer<Taped> operation : OPERATIONS) {
            Taped x = busy();
            operation.accept(x);
            due(state(x).equals(before), false);
            due(x.undo(), 0);
            due(state(x), before);
            refused(x, STATE, x::undo);
        }
        // Those that have nothing to do are operations all the same.
        Taped y = plain();
        due(y.transmit(1), 0);
        due(y.setDrift(0), 0);
        due(commands(y, ""), 0);
        due(commands(y, "cancel 0;"), 0);
        due(y.undo(), 3);
        due(y.undo(), 2);
        due(y.undo(), 1);
        due(y.undo(), 0);
        refused(y, STATE, y::undo);
        // What is not in that section is no operation.
        Taped z = busy();
        z.waitTicks(1);
        z.append(1, 2, 3, 4, 5);
        z.truncate(0);
        z.formatFrame(0, 0);
        z.save();
        z.attemptsUntilIdle();
        z.clockWhenIdle();
        z.checksum();
        due(z.undo(), 0);

        about("a call of executeCommands is one operation, whatever its commands call.");
        for (String text : List.of("", "wait 1;", "wait 1;drift 1;dog 9 1 0;send a;transmit 2;cancel 2;resend 0;chase 0;",
                "wait 1;cancel 11;wait 1;", "wait 1;".repeat(30))) {
            Taped x = busy();
            commands(x, text);
            due(x.undo(), 0);
            due(state(x), before);
        }
    }

    private static void howManyAreKept() {
        about("The 8 most recent operations can be undone, together with all counters.");
        for (int operations = 1; operations <= 20; operations++) {
            Taped x = busy();
            String[] states = new String[operations];
            for (int i = 0; i < operations; i++) {
                states[i] = state(x);
                OPERATIONS.get(new int[] {4, 1, 5, 0}[i % 4]).accept(x);
                if (i % 4 == 3) {
                    put(x, "xyz");
                }
            }
            int kept = Math.min(operations, 8);
            for (int i = 1; i <= kept; i++) {
                due(x.undo(), kept - i);
                due(state(x), states[operations - i]);
            }
            refused(x, STATE, x::undo);
            // What follows can be undone again.
            x.waitTicks(2);
            due(x.undo(), 0);
            due(state(x), states[operations - kept]);
        }
        countersAreUndone();
        all48Frames();
    }

    private static void countersAreUndone() {
        Taped y = with("modem 1 100 5 3;dog 999 1 0;dog 999 1 50;");
        commands(y, "send a;transmit 1;");
        due(y.transmit(2), 2);
        due(y.attempts() + y.unreadableFrames() + y.duplicates() + y.lostAcknowledgements() + y.nappedTicks()
                + y.bitsSent() > 0, true);
        y.undo();
        due(y.attempts(), 1);
        due(y.unreadableFrames(), 1);
        due(y.nappedTicks(), 0);
        due(y.bitsSent(), 24);
        due(y.napEnd(), 37);
        due(y.undo(), 0);
        due(y.attempts() + y.unreadableFrames() + y.bitsSent() + y.clock() + y.napEnd(), 0);
        Taped x = withLostAcknowledgement();
        x.transmit(1);
        String before = state(x);
        x.transmit(1);
        due(x.duplicates(), 1);
        due(x.undo(), 2);
        due(state(x), before);
        due(x.duplicates(), 0);
        due(x.lostAcknowledgements(), 1);
        due(x.nappedTicks(), 0);
        due(x.undo(), 1);
        due(x.lostAcknowledgements(), 0);
        due(x.attempts(), 0);
    }

    /** The largest state there is comes back as well, up to its last byte. */
    private static void all48Frames() {
        Taped x = plain();
        commands(x, "send abcdefghijklmnop;".repeat(12));
        String queued = state(x);
        due(x.transmit(60), 48);
        String delivered = state(x);
        x.save();
        due(x.undo(), 1);
        due(state(x), queued);
        x.restore();
        due(state(x), delivered);
        for (int frame = 0; frame < 48; frame++) {
            due(x.isIntact(frame), true);
        }
        x.setDrift(1);
        x.waitTicks(1);
        put(x, "modem 2 100 1 1;");
        x.load();
        commands(x, "send zyxwvutsrqponmlk;".repeat(11) + "send z;transmit 50;cancel 11;");
        x.restore();
        due(state(x), delivered);
        put(x, "modem 1 100 1 9;");
        x.load();
        commands(x, "send z;send zyx;".repeat(6));
        x.restore();
        due(state(x), delivered);
    }

    private static void whatThrows() {
        about("An operation that throws an exception changes nothing, unless its description says otherwise.");
        // To look for no change includes the input buffer and what can be undone.
        Taped x = busy();
        x.waitTicks(1);
        refused(x, ARGUMENT, () -> x.transmit(0));
        refused(x, INDEX, () -> x.cancelMessage(3));
        refused(x, STATE, () -> x.cancelMessage(0));
        refused(x, INDEX, () -> x.resendMessage(3));
        refused(x, STATE, () -> x.resendMessage(1));
        refused(x, ARGUMENT, () -> x.waitTicks(0));
        refused(x, ARGUMENT, () -> x.setDrift(100));
        refused(x, ARGUMENT, () -> x.addDog(9, 9, 0));
        refused(x, INDEX, () -> x.removeDog(1));
        x.append(1, 2, 3, 4, 5);
        refused(x, ARGUMENT, x::sendMessage);
        due(x.undo(), 0);
        refused(x, STATE, x::undo);
    }

    private static void whatIsCheckedFirst() {
        about("If a method throws several exceptions, the condition of the exception that is listed first is checked first.");
        Taped x = new Taped();
        refused(x, INDEX, () -> x.receivedBit(1, -1, -1));
        refused(x, INDEX, () -> x.invertedBits(1, -1));
        refused(x, INDEX, () -> x.longestBurst(1, -1));
        refused(x, INDEX, () -> x.wrongBits(1, -1));
        refused(x, INDEX, () -> x.resultAt(1, -1));
        refused(x, INDEX, () -> x.formatFrame(1, -1));
        refused(x, INDEX, () -> x.wouldPass(1, 0, 0) ? 1 : 0);
        refused(x, INDEX, () -> x.wouldPass(1, 1, -1) ? 1 : 0);
        refused(x, INDEX, () -> x.wouldPass(-1, 0, -1) ? 1 : 0);
        // A bit that the frame does not have is no reason to throw, but the tick is.
        refused(x, ARGUMENT, () -> x.receivedBit(0, -1, -1));
        refused(x, ARGUMENT, () -> x.receivedBit(0, 32, 1000000));
        Taped full = plain();
        commands(full, "send a;".repeat(12) + "dog 9 1 0;dog 9 1 0;dog 9 1 0;");
        refused(full, ARGUMENT, full::sendMessage);
        refused(full, INDEX, () -> full.resendMessage(12));
        refused(full, INDEX, () -> full.resendMessage(-1));
        refused(full, INDEX, () -> full.cancelMessage(12));
        refused(full, ARGUMENT, () -> full.addDog(9, 9, 0));
        refused(full, STATE, () -> full.addDog(9, 8, 0));
        put(full, "abcdefghijklmnopq");
        refused(full, ARGUMENT, full::sendMessage);
        full.truncate(16);
        refused(full, STATE, full::sendMessage);
        Taped late = atTick(900000);
        late.transmit(1);
        refused(late, ARGUMENT, () -> late.transmit(0));
        refused(late, ARGUMENT, () -> late.transmit(61));
        refused(late, STATE, () -> late.transmit(60));
        refused(late, ARGUMENT, () -> late.waitTicks(0));
        refused(late, ARGUMENT, () -> late.waitTicks(1000));
        refused(late, STATE, () -> late.waitTicks(999));
    }

    private static void sendMessage() {
        about(53, "The input buffer is empty afterwards, but not after an exception.");
        Taped x = plain();
        put(x, "abc");
        due(x.sendMessage(), 0);
        due(input(x), input(plain()));
        put(x, "abcdefghijklmnopq");
        refused(x, ARGUMENT, x::sendMessage);
        due(x.truncate(17), 17);
        Taped full = plain();
        commands(full, "send a;".repeat(12));
        put(full, "abc");
        refused(full, STATE, full::sendMessage);
        due(full.truncate(3), 3);

        about(53, "Throws `IllegalArgumentException` if the input buffer does not contain 1 to 16 bytes");
        Taped y = plain();
        refused(y, ARGUMENT, y::sendMessage);
        put(y, "abcdefghijklmnopqrst");
        refused(y, ARGUMENT, y::sendMessage);
        y.truncate(17);
        refused(y, ARGUMENT, y::sendMessage);
        y.truncate(16);
        due(y.sendMessage(), 0);
        due(y.messageLength(0), 16);
        put(y, "a");
        due(y.sendMessage(), 1);
        due(y.messageLength(1), 1);
        refused(y, ARGUMENT, y::sendMessage);
        for (int i = 0; i < 25; i++) {
            y.append(1, 2, 3, 4, 5);
        }
        refused(y, ARGUMENT, y::sendMessage);

        about(53, "Throws `IllegalStateException` if there are 12 messages");
        Taped z = plain();
        for (int i = 0; i < 12; i++) {
            put(z, "a");
            due(z.sendMessage(), i);
        }
        put(z, "a");
        refused(z, STATE, z::sendMessage);
        z.undo();
        due(z.sendMessage(), 11);
    }

    private static void transmit() {
        about(54, "Operation: makes attempts until no frame is pending, but not more than a number of them.");
        Taped x = plain();
        due(x.transmit(60), 0);
        send(x, "abcdefghijklmnop");
        due(x.transmit(3), 3);
        due(x.pendingFrame(), 3);
        due(x.transmit(1), 1);
        due(x.transmit(1), 0);
        send(x, "abcdefgh");
        due(x.transmit(2), 2);
        due(x.pendingFrame(), NONE);
        send(x, "abcdefgh");
        due(x.transmit(3), 2);

        about(54, "- `most`: 1 to 60");
        Taped y = with("modem 1 100 1 9;" + ALWAYS_CHEWED);
        commands(y, "send abcdefghijklmnop;send abcdefghijklmnop;");
        due(y.transmit(1), 1);
        due(y.transmit(60), 60);
        due(y.transmit(60), 72 - 61);

        about(54, "Throws `IllegalArgumentException` if most is out of range");
        for (int most : new int[] {0, 61, -1, LEAST, MOST}) {
            refused(y, ARGUMENT, () -> y.transmit(most));
        }

        about(54, "Throws `IllegalStateException` if the clock is greater than 900000");
        Taped z = atTick(900000);
        due(z.transmit(2), 2);
        due(z.clock(), 900000 + 504 + 99 + 504);
        refused(z, STATE, () -> z.transmit(1));
        z.undo();
        due(z.transmit(60), 18);
        refused(z, STATE, () -> z.transmit(1));
        // The least that is too late, also if no frame is pending: 24 bits and 8 more, from 899969 on.
        Taped w = atTick(899969);
        commands(w, "cancel 7;send a;chase 0;chase 0;");
        put(w, "send a;transmit 1;");
        due(w.executeCommands(), 2);
        due(w.clock(), 899969 + 9 * 32);
        Taped v = atTick(900000 - 287);
        commands(v, "cancel 7;chase 0;chase 0;send a;transmit 1;");
        due(v.clock(), 900001);
        due(v.pendingFrame(), NONE);
        refused(v, STATE, () -> v.transmit(1));
        Taped u = atTick(900000 - 288);
        commands(u, "cancel 7;chase 0;chase 0;send a;transmit 1;");
        due(u.clock(), 900000);
        due(u.transmit(1), 0);
    }

    private static void cancelMessage() {
        about(55, NO_MESSAGE);
        Taped none = plain();
        refused(none, INDEX, () -> none.cancelMessage(0));
        Taped x = busy();
        for (int message : new int[] {-1, 3, 12, LEAST, MOST}) {
            refused(x, INDEX, () -> x.cancelMessage(message));
        }
        due(x.cancelMessage(2), 2);

        about(55, "Throws `IllegalStateException` if the message is not PENDING");
        refused(x, STATE, () -> x.cancelMessage(2));
        refused(x, STATE, () -> x.cancelMessage(0));
        refused(x, STATE, () -> x.cancelMessage(1));

        about(55, "Operation: gives a message up: all its QUEUED frames become LOST.");
        Taped y = with("modem 1 100 1 1;dog 999 1 0;");
        send(y, "abcdefghijklm");
        send(y, "n");
        y.transmit(2);
        due(y.cancelMessage(0), 2);
        int[] states = {MatchboxModem.LOST, MatchboxModem.ACKNOWLEDGED, MatchboxModem.LOST, MatchboxModem.LOST,
            MatchboxModem.QUEUED};
        for (int frame = 0; frame < 5; frame++) {
            due(y.frameState(frame), states[frame]);
        }
        due(y.attemptsOf(2), 0);
        due(y.messageState(0), MatchboxModem.LOST);
        due(y.messageState(1), MatchboxModem.PENDING);
        // The messages before it and after it stay as they are.
        Taped z = plain();
        commands(z, "send abcdefgh;send ijklmnop;send qrstuvwx;");
        due(z.cancelMessage(1), 2);
        for (int frame = 0; frame < 6; frame++) {
            due(z.frameState(frame), frame == 2 || frame == 3 ? MatchboxModem.LOST : MatchboxModem.QUEUED);
        }
    }

    private static void resendMessage() {
        about(56, NO_MESSAGE);
        Taped none = plain();
        refused(none, INDEX, () -> none.resendMessage(0));
        Taped x = busy();
        for (int message : new int[] {-1, 3, 12, LEAST, MOST}) {
            refused(x, INDEX, () -> x.resendMessage(message));
        }

        about(56, "Throws `IllegalStateException` if the message is not LOST, or there are 12 messages");
        // Message 1 is DELIVERED, and message 2 PENDING.
        refused(x, STATE, () -> x.resendMessage(1));
        refused(x, STATE, () -> x.resendMessage(2));
        for (int number = 3; number < 12; number++) {
            due(x.resendMessage(0), number);
        }
        refused(x, STATE, () -> x.resendMessage(0));
        due(x.messageCount(), 12);
        // PENDING, although one of its frames is LOST.
        Taped y = with("modem 1 100 1 1;dog 999 1 0;");
        send(y, "abcde");
        y.transmit(1);
        due(y.frameState(0), MatchboxModem.LOST);
        refused(y, STATE, () -> y.resendMessage(0));
        y.transmit(1);
        due(y.resendMessage(0), 1);

        about(56, "Operation: the bytes of a message that is LOST become a new message.");
        for (int length = 1; length <= 16; length++) {
            String text = "abcdefghijklmnop".substring(0, length);
            Taped z = plain();
            send(z, text);
            z.cancelMessage(0);
            put(z, "xyz");
            due(z.resendMessage(0), 1);
            due(z.truncate(3), 3);
            due(z.messageLength(1), length);
            for (int i = 0; i < length; i++) {
                due(z.frameByte(z.firstFrame(1) + i / 4, 1 + i % 4), text.charAt(i));
            }
            due(z.frameState(z.firstFrame(1)), MatchboxModem.QUEUED);
            due(z.messageState(0), MatchboxModem.LOST);
            Taped again = plain();
            send(again, text);
            again.cancelMessage(0);
            send(again, text);
            due(state(z), state(again));
        }
        // There are messages before it and after it.
        Taped w = plain();
        commands(w, "send abcdefgh;send ijklmno;send qrstuvwx;cancel 1;");
        due(w.resendMessage(1), 3);
        due(w.messageLength(3), 7);
        due(w.firstFrame(3), 6);
        due(w.frameCount(), 8);
        for (int i = 0; i < 7; i++) {
            due(w.frameByte(6 + i / 4, 1 + i % 4), 'i' + i);
        }
        // What counts is what was sent, even if other bytes have arrived.
        Taped v = with("modem 1 100 1 1;dog 999 1 8;dog 999 3 14;dog 999 1 24;");
        send(v, "a");
        v.transmit(1);
        due(v.arrivedByte(0, 1), 'a' ^ 0x83);
        due(v.resendMessage(0), 1);
        due(v.frameByte(1, 1), 'a');
    }

    private static void waitTicks() {
        about(57, "- `ticks`: 1 to 999");
        Taped x = plain();
        due(x.waitTicks(1), 1);
        due(x.waitTicks(999), 1000);
        due(x.clock(), 1000);

        about(57, "Throws `IllegalArgumentException` if ticks is out of range");
        for (int ticks : new int[] {0, 1000, -1, LEAST, MOST}) {
            refused(x, ARGUMENT, () -> x.waitTicks(ticks));
        }

        about(57, "Throws `IllegalStateException` if the clock would exceed 900000");
        Taped y = atTick(899001);
        due(y.waitTicks(999), 900000);
        refused(y, STATE, () -> y.waitTicks(1));
        Taped z = atTick(899002);
        refused(z, STATE, () -> z.waitTicks(999));
        due(z.waitTicks(998), 900000);
        Taped w = atTick(899999);
        refused(w, STATE, () -> w.waitTicks(2));
        due(w.waitTicks(1), 900000);
        Taped v = atTick(900000);
        v.transmit(1);
        refused(v, STATE, () -> v.waitTicks(1));
    }

    private static void setDrift() {
        about(58, "- `drift`: -99 to 99");
        Taped x = plain();
        due(x.setDrift(99), 0);
        due(x.setDrift(-99), 99);
        due(x.setDrift(0), -99);
        due(x.drift(), 0);

        about(58, "Throws `IllegalArgumentException` if drift is out of range");
        for (int drift : new int[] {-100, 100, LEAST, MOST}) {
            refused(x, ARGUMENT, () -> x.setDrift(drift));
        }
    }

    private static void addDog() {
        about(59, "- `period`: 2 to 999");
        added(2, 1, 0);
        added(999, 1, 0);
        about(59, "- `length`: 1 to period minus 1");
        added(3, 1, 0);
        added(3, 2, 0);
        added(999, 998, 0);
        about(59, "- `offset`: 0 to 999");
        added(9, 1, 0);
        added(9, 1, 999);

        about(59, "Throws `IllegalArgumentException` if a parameter is out of range");
        Taped x = plain();
        for (int[] bad : new int[][] {{1, 1, 0}, {1000, 1, 0}, {0, 1, 0}, {-1, 1, 0}, {9, 0, 0}, {9, 9, 0}, {9, 10, 0},
            {9, -1, 0}, {9, 1, -1}, {9, 1, 1000}, {LEAST, LEAST, LEAST}, {MOST, MOST, MOST}, {LEAST, 1, 0}, {MOST, 1, 0},
            {9, LEAST, 0}, {9, MOST, 0}, {9, 1, LEAST}, {9, 1, MOST}}) {
            refused(x, ARGUMENT, () -> x.addDog(bad[0], bad[1], bad[2]));
        }

        about(59, "Throws `IllegalStateException` if there are 3 dogs");
        for (int dog = 0; dog < 3; dog++) {
            due(x.addDog(9, 1, dog), dog);
        }
        refused(x, STATE, () -> x.addDog(9, 1, 3));
        x.removeDog(1);
        due(x.addDog(9, 1, 3), 2);
        refused(x, STATE, () -> x.addDog(9, 1, 4));
    }

    private static void added(int period, int length, int offset) {
        Taped x = plain();
        due(x.addDog(period, length, offset), 0);
        due(state(x), state(with("modem 1 100 1 9;dog " + period + " " + length + " " + offset + ";")));
    }

    private static void removeDog() {
        about(60, "The numbers of the dogs after it decrease by 1.");
        String[] dogs = {"dog 100 1 11;", "dog 200 2 22;", "dog 300 3 33;"};
        for (int dog = 0; dog < 3; dog++) {
            Taped x = with("modem 1 100 1 9;" + dogs[0] + dogs[1] + dogs[2]);
            due(x.removeDog(dog), 2);
            Taped two = with("modem 1 100 1 9;" + dogs[dog == 0 ? 1 : 0] + dogs[dog == 2 ? 1 : 2]);
            due(state(x), state(two));
            due(x.removeDog(0), 1);
            due(state(x), state(with("modem 1 100 1 9;" + dogs[dog == 2 ? 1 : 2])));
            due(x.removeDog(0), 0);
            due(state(x), state(plain()));
        }

        about(60, "Throws `IndexOutOfBoundsException` if there is no such dog");
        for (int count = 0; count <= 3; count++) {
            Taped y = plain();
            commands(y, "dog 9 1 0;".repeat(count));
            for (int dog : new int[] {-1, count, 3, LEAST, MOST}) {
                refused(y, INDEX, () -> y.removeDog(dog));
            }
            if (count > 0) {
                due(y.removeDog(count - 1), count - 1);
            }
        }
    }

    private static void undo() {
        about(61, "Undoes the most recent operation that was not undone.");
        Taped x = plain();
        x.waitTicks(1);
        x.waitTicks(10);
        x.waitTicks(100);
        due(x.undo(), 2);
        due(x.clock(), 11);
        due(x.undo(), 1);
        due(x.clock(), 1);
        x.waitTicks(500);
        due(x.undo(), 1);
        due(x.clock(), 1);
        due(x.undo(), 0);
        due(x.clock(), 0);

        about(61, "The input buffer, the error code, the error position, the output and the saved state do not change.");
        Taped y = plain();
        send(y, "a");
        put(y, "wait 0;");
        due(thrownBy(y::executeCommands), "IllegalArgumentException");
        y.save();
        y.formatFrame(0, 0);
        put(y, "abcdef");
        String before = input(y) + error(y) + output(y) + saved(y);
        due(y.undo(), 0);
        due(input(y) + error(y) + output(y) + saved(y), before);
        due(y.messageCount(), 0);
        // The bytes of a message that is taken back do not come back into the input buffer.
        Taped z = plain();
        send(z, "abc");
        z.undo();
        due(input(z), input(plain()));

        about(61, "Throws `IllegalStateException` if there is no operation to undo");
        for (Taped one : List.of(new Taped(), plain(), x, y, z)) {
            refused(one, STATE, one::undo);
        }
        Taped w = busy();
        w.waitTicks(1);
        w.restore();
        refused(w, STATE, w::undo);
        // An undone operation can't be undone again.
        w.waitTicks(1);
        w.undo();
        refused(w, STATE, w::undo);
    }

    private static void save() {
        about(62, "Saves everything except the input buffer, the error code, the error position, the output and the operations that can be undone, replacing an earlier saved state.");
        Taped x = busy();
        x.transmit(1);
        String first = state(x);
        String others = past(x) + input(x) + error(x) + output(x);
        due(x.save(), x.clock());
        due(past(x) + input(x) + error(x) + output(x), others);
        due(saved(x), "saved " + first);
        // What comes after it does not change what is saved.
        x.waitTicks(5);
        x.transmit(60);
        x.setDrift(9);
        x.addDog(9, 1, 0);
        x.sendMessage();
        due(saved(x), "saved " + first);
        x.undo();
        due(saved(x), "saved " + first);
        String second = state(x);
        x.save();
        due(saved(x), "saved " + second);
        put(x, "modem 9 199 99 9;");
        x.load();
        due(saved(x), "saved " + second);
        due(thrownBy(x::load), "IllegalArgumentException");
        x.truncate(0);
        put(x, "wxyz");
        x.restore();
        due(state(x), second);
        // The input buffer and the error are those of now.
        due(x.truncate(4), 4);
        due(x.errorCode(), MatchboxModem.SYNTAX_ERROR);
        due(x.errorPosition(), 0);
    }

    private static void restore() {
        about(63, "Replaces everything that save saves by the saved state, which is kept.");
        Taped x = busy();
        x.transmit(2);
        x.save();
        String want = state(x);
        for (int i = 0; i < 3; i++) {
            x.waitTicks(7);
            x.sendMessage();
            x.removeDog(0);
            due(x.restore(), x.clock());
            due(state(x), want);
            put(x, "abc");
        }
        // The sequence number of the receiver is a part of it.
        Taped y = withLostAcknowledgement();
        y.save();
        y.transmit(1);
        y.restore();
        y.transmit(1);
        due(y.duplicates(), 0);
        y.save();
        put(y, "modem 1 100 1 1;");
        y.load();
        y.restore();
        y.transmit(1);
        due(y.duplicates(), 1);

        about(63, "Nothing can be undone afterwards.");
        refused(x, STATE, x::undo);
        x.waitTicks(1);
        x.restore();
        refused(x, STATE, x::undo);
        x.waitTicks(1);
        due(x.undo(), 0);

        about(63, "Throws `IllegalStateException` if there is no saved state");
        for (Taped one : List.of(new Taped(), plain(), withLostAcknowledgement())) {
            refused(one, STATE, one::restore);
            one.waitTicks(1);
            refused(one, STATE, one::restore);
            one.save();
            due(one.restore(), 1);
        }
    }
}
