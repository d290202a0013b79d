import java.util.ArrayList;
import java.util.List;

/** The section "Terms", from the time to the attempts. */
final class SendingBoundaries extends Boundaries {
    static void run() {
        timeAndSettings();
        dogs();
        messages();
        frames();
        checksums();
        bitsOnTheCable();
        bitsTaken();
        readable();
        duplicates();
        acknowledgements();
        pending();
        attemptSteps();
        attemptEnds();
        messageStates();
        rareCases();
    }

    private static void timeAndSettings() {
        about("The clock counts ticks from 0.");
        due(new Taped().clock(), 0);
        due(plain().clock(), 0);
        due(plain().waitTicks(1), 1);

        about("A bit lasts for the bit time (1 to 9 ticks).");
        for (int ticks = 1; ticks <= 9; ticks++) {
            Taped x = with("modem " + ticks + " 100 1 1;");
            due(x.bitTime(), ticks);
            send(x, "a");
            x.transmit(1);
            due(x.clock(), 32 * ticks);
        }
        badConfiguration("modem 0 100 1 1;", MatchboxModem.RANGE_ERROR, 6);
        badConfiguration("modem 10 100 1 1;", MatchboxModem.RANGE_ERROR, 6);

        about("The drift (-99 to 99) tells in thousandths");
        for (int drift = -99; drift <= 99; drift += 11) {
            due(with("modem 1 " + (drift + 100) + " 1 1;").drift(), drift);
            Taped x = plain();
            x.setDrift(drift);
            due(x.drift(), drift);
        }
        badConfiguration("modem 1 0 1 1;", MatchboxModem.RANGE_ERROR, 8);
        badConfiguration("modem 1 200 1 1;", MatchboxModem.RANGE_ERROR, 8);
        Taped settled = plain();
        refused(settled, ARGUMENT, () -> settled.setDrift(-100));
        refused(settled, ARGUMENT, () -> settled.setDrift(100));

        about("The nap base is 1 to 99 ticks, and a frame is sent in at most the attempt limit (1 to 9) of attempts.");
        for (int base = 1; base <= 99; base += 14) {
            Taped x = neverReadable(base, 9);
            x.transmit(1);
            due(x.napEnd(), 32 + base);
        }
        badConfiguration("modem 1 100 0 1;", MatchboxModem.RANGE_ERROR, 12);
        badConfiguration("modem 1 100 100 1;", MatchboxModem.RANGE_ERROR, 12);
        for (int limit = 1; limit <= 9; limit++) {
            Taped x = neverReadable(1, limit);
            due(x.transmit(60), limit);
            due(x.attemptsOf(0), limit);
            due(x.frameState(0), MatchboxModem.LOST);
        }
        badConfiguration("modem 1 100 1 0;", MatchboxModem.RANGE_ERROR, 14);
        badConfiguration("modem 1 100 1 10;", MatchboxModem.RANGE_ERROR, 14);
    }

    /** A frame of 24 bits of one tick waits, and no attempt will succeed. */
    private static Taped neverReadable(int base, int limit) {
        Taped x = with("modem 1 100 " + base + " " + limit + ";" + ALWAYS_CHEWED);
        send(x, "a");
        return x;
    }

    /** A frame of 24 bits waits at tick 0, and the cable is chewed in one tick of 999. */
    private static Taped chewedOnce(int bitTime, int tick) {
        Taped x = with("modem " + bitTime + " 100 1 3;dog 999 1 " + tick + ";");
        send(x, "a");
        return x;
    }

    private static void dogs() {
        about("There are at most 3 dogs, numbered from 0.");
        Taped x = plain();
        due(x.addDog(9, 1, 0), 0);
        due(x.addDog(9, 1, 0), 1);
        due(x.addDog(9, 1, 0), 2);
        refused(x, STATE, () -> x.addDog(9, 1, 0));
        due(x.dogCount(), 3);
        due(with("modem 1 1 1 1;dog 9 1 0;dog 9 1 0;dog 9 1 0;").dogCount(), 3);
        badConfiguration("modem 1 1 1 1;dog 9 1 0;dog 9 1 0;dog 9 1 0;dog 9 1 0;", MatchboxModem.LIMIT_ERROR, 44);
        due(x.removeDog(2), 2);
        due(x.removeDog(0), 1);
        due(x.removeDog(0), 0);

        about("A dog has a period (2 to 999 ticks), a length (1 to the period minus 1) and an offset (0 to 999).");
        dogIsFine(2, 1, 0);
        dogIsFine(999, 1, 0);
        dogIsFine(999, 998, 999);
        for (int[] bad : new int[][] {{1, 1, 0}, {1, 0, 0}, {0, 0, 0}, {1000, 1, 0}, {-2, -3, 0}, {2, 0, 0}, {2, 2, 0},
            {999, 999, 0}, {9, -1, 0}, {9, 1, -1}, {9, 1, 1000}, {Integer.MIN_VALUE, 1, 0}, {Integer.MAX_VALUE, 1, 0}}) {
            Taped y = plain();
            refused(y, ARGUMENT, () -> y.addDog(bad[0], bad[1], bad[2]));
        }

        about("A dog chews in a tick if the tick is at least its offset and the remainder of (tick - offset)");
        chews("dog 10 3 5;", ".....***.......***.......***..");
        chews("dog 2 1 0;", "*.*.*.*.");
        chews("dog 2 1 1;", ".*.*.*.*");
        chews("dog 3 2 4;", "....**.**.**");
        Taped z = with("modem 1 1 1 1;dog 999 998 999;");
        for (int tick : new int[] {0, 1, 997, 998, 1997, 2996}) {
            due(z.isChewed(tick), false);
        }
        for (int tick : new int[] {999, 1000, 1996, 1998, 2995}) {
            due(z.isChewed(tick), true);
        }

        about("The cable is chewed in a tick if at least one dog chews in it.");
        chews("", "..........");
        chews("dog 9 2 1;dog 9 2 2;", ".***......***.");
        chews("dog 9 1 1;dog 9 1 3;dog 9 1 5;", ".*.*.*....*.*.*.");
        chews("dog 9 1 1;dog 9 1 1;dog 9 1 1;", ".*........*.");
    }

    private static void dogIsFine(int period, int length, int offset) {
        Taped x = plain();
        due(x.addDog(period, length, offset), 0);
        Taped y = with("modem 1 100 1 9;dog " + period + " " + length + " " + offset + ";");
        Taped z = plain();
        due(commands(z, "dog " + period + " " + length + " " + offset + ";"), 1);
        for (Taped one : List.of(x, y, z)) {
            due(one.nextChewedTick(0), offset);
            due(one.isChewed(offset + length - 1), true);
            due(one.isChewed(offset + length), false);
            due(one.isChewed(offset + period - 1), false);
            due(one.isChewed(offset + period), true);
        }
    }

    /** A star for each chewed tick from 0 on. */
    private static void chews(String dogs, String want) {
        Taped x = with("modem 1 1 1 1;" + dogs);
        StringBuilder got = new StringBuilder();
        for (int tick = 0; tick < want.length(); tick++) {
            got.append(x.isChewed(tick) ? '*' : '.');
        }
        due(got.toString(), want);
    }

    private static void messages() {
        about("There are at most 12 messages, numbered from 0 in the order in which they were sent;");
        Taped x = plain();
        for (int i = 0; i < 12; i++) {
            due(send(x, "abcdefghijklmnop".substring(0, i + 5)), i);
        }
        for (int i = 0; i < 12; i++) {
            due(x.messageLength(i), i + 5);
        }
        put(x, "a");
        refused(x, STATE, x::sendMessage);
        due(x.messageCount(), 12);

        about("a message has 1 to 16 bytes.");
        for (int length = 1; length <= 16; length++) {
            Taped y = plain();
            due(send(y, "abcdefghijklmnop".substring(0, length)), 0);
            due(y.messageLength(0), length);
        }
        Taped y = plain();
        refused(y, ARGUMENT, y::sendMessage);
        put(y, "abcdefghijklmnopq");
        refused(y, ARGUMENT, y::sendMessage);

        about("A message is divided into frames with 4 bytes of the message each; the last frame has 1 to 4 bytes.");
        int[] frames = {1, 1, 1, 1, 2, 2, 2, 2, 3, 3, 3, 3, 4, 4, 4, 4};
        int[] inLast = {1, 2, 3, 4, 1, 2, 3, 4, 1, 2, 3, 4, 1, 2, 3, 4};
        for (int length = 1; length <= 16; length++) {
            Taped z = plain();
            send(z, "abcdefghijklmnop".substring(0, length));
            due(z.frameCount(), frames[length - 1]);
            for (int frame = 0; frame < z.frameCount(); frame++) {
                int bytes = frame == frames[length - 1] - 1 ? inLast[length - 1] : 4;
                due(z.frameLength(frame), bytes + 2);
                for (int i = 0; i < bytes; i++) {
                    due(z.frameByte(frame, i + 1), 'a' + 4 * frame + i);
                }
            }
        }
    }

    private static void frames() {
        about("All frames are numbered from 0 in the order of the messages and of their bytes.");
        Taped x = plain();
        send(x, "abcde");
        send(x, "f");
        send(x, "ghijk");
        int[] firstBytes = {'a', 'e', 'f', 'g', 'k'};
        for (int frame = 0; frame < 5; frame++) {
            due(x.frameByte(frame, 1), firstBytes[frame]);
        }
        due(x.firstFrame(0), 0);
        due(x.firstFrame(1), 2);
        due(x.firstFrame(2), 3);
        due(x.frameCount(), 5);

        about("The header is 16 times the sequence number, plus the number of bytes of the message in the frame;");
        for (int bytes = 1; bytes <= 4; bytes++) {
            Taped y = plain();
            send(y, "abcd".substring(0, bytes));
            due(y.frameByte(0, 0), bytes);
            send(y, "abcd".substring(0, bytes));
            due(y.frameByte(1, 0), 16 + bytes);
        }

        about("the sequence number is the number of the frame modulo 16.");
        Taped z = plain();
        commands(z, "send abcdefghijklmnop;".repeat(12));
        for (int frame = 0; frame < 48; frame++) {
            due(z.frameByte(frame, 0), frame % 16 * 16 + 4);
        }
        due(z.frameByte(15, 0), 244);
        due(z.frameByte(16, 0), 4);
        due(z.frameByte(31, 0), 244);
        due(z.frameByte(32, 0), 4);
        due(z.frameByte(47, 0), 244);
        // All of them can be sent, and arrive as they were sent.
        due(z.transmit(60), 48);
        for (int frame = 0; frame < 48; frame++) {
            due(z.isIntact(frame), true);
            due(z.arrivedByte(frame, 0), frame % 16 * 16 + 4);
        }
        due(z.duplicates(), 0);
    }

    private static void checksums() {
        about("it is 0 at first; for each byte, the exclusive or of the checksum and the byte becomes the checksum");
        // The usual table of this checksum has these values; 128 is where the two cases of the step meet.
        int[][] table = {{0, 0}, {1, 0x07}, {2, 0x0e}, {0x0f, 0x2d}, {0x10, 0x70}, {0x40, 0xc7}, {0x7f, 0x7a}, {0x80, 0x89},
            {0xff, 0xf3}};
        for (int[] row : table) {
            Taped x = plain();
            put(x, String.valueOf((char) row[0]));
            due(x.checksum(), row[1]);
        }
        Taped y = plain();
        put(y, "123456789");
        due(y.checksum(), 0xf4);
        Taped z = plain();
        put(z, "\u0001\u0007");
        due(z.checksum(), 0);

        about("The checksum of a frame is that of its header and its bytes of the message.");
        for (int length = 1; length <= 4; length++) {
            Taped x = plain();
            send(x, "pqrs");
            send(x, "abcd".substring(0, length));
            put(x, (char) (16 + length) + "abcd".substring(0, length));
            due(x.frameByte(1, length + 1), x.checksum());
        }
    }

    private static void bitsOnTheCable() {
        about("the most significant bit of each byte first; they are numbered from 0.");
        Taped x = plain();
        send(x, "\u0080\u0001\u00ff\u0000");
        String want = "00000100" + "10000000" + "00000001" + "11111111" + "00000000";
        for (int bit = 0; bit < want.length(); bit++) {
            due(x.frameBit(0, bit), want.charAt(bit) - '0');
        }

        about("bit i of the frame lasts from tick S + i * bit time on.");
        for (int bitTime = 1; bitTime <= 9; bitTime += 4) {
            // Only the first tick of each bit counts, and none behind the last bit.
            int[] ticks = {0, 1, bitTime - 1, bitTime, bitTime + 1, 23 * bitTime - 1, 23 * bitTime, 23 * bitTime + 1,
                24 * bitTime};
            for (int tick : ticks) {
                Taped y = chewedOnce(bitTime, tick);
                int bit = tick % bitTime == 0 && tick < 24 * bitTime ? tick / bitTime : NONE;
                due(y.invertedBits(0, 0), bit == NONE ? 0 : 1);
                for (int i = 0; i < 24; i++) {
                    due(y.receivedBit(0, i, 0), i == bit ? 1 - y.frameBit(0, i) : y.frameBit(0, i));
                }
            }
        }
        due(chewedOnce(3, 40).invertedBits(0, 40), 1);
        due(chewedOnce(3, 40).invertedBits(0, 41), 0);
        due(chewedOnce(3, 40).invertedBits(0, 39), 0);
        due(chewedOnce(1, 40).invertedBits(0, 17), 1);
        due(chewedOnce(1, 40).invertedBits(0, 16), 0);

        about("On the cable it is inverted if the cable is chewed in that tick.");
        Taped z = with("modem 1 100 1 3;" + ALWAYS_CHEWED);
        send(z, "a");
        due(z.invertedBits(0, 0), 24);
        for (int i = 0; i < 24; i++) {
            due(z.receivedBit(0, i, 0), 1 - z.frameBit(0, i));
        }
    }

    private static void bitsTaken() {
        about("The receiver takes bit i from the bit on the cable with the index ((2 * i + 1) * (1000 + drift)) / 2000, rounded down");
        Taped x = plain();
        x.setDrift(8);
        // 125 * 1008 is 63 times 2000, and 123 * 1008 a little less than 62 times 2000.
        due(x.takenFrom(61), 61);
        due(x.takenFrom(62), 63);
        x.setDrift(-8);
        // 125 * 992 is 62 times 2000, and 127 * 992 a little less than 63 times 2000.
        due(x.takenFrom(62), 62);
        due(x.takenFrom(63), 62);
        x.setDrift(0);
        due(x.takenFrom(0), 0);
        due(x.takenFrom(99), 99);

        about("or takes 0 if that index is n or more.");
        // 32 bits, of which the last is a 1: bit 30 is taken from bit 31, and bit 31 from bit 32.
        Taped y = with("modem 1 120 1 1;");
        send(y, "hi");
        due(y.takenFrom(30), 31);
        due(y.takenFrom(31), 32);
        due(y.receivedBit(0, 30, 0), 1);
        due(y.receivedBit(0, 31, 0), 0);
        y.setDrift(99);
        due(y.takenFrom(31), 34);
        due(y.receivedBit(0, 31, 0), 0);
        // Behind the frame nothing is inverted.
        y.setDrift(20);
        commands(y, ALWAYS_CHEWED);
        due(y.receivedBit(0, 30, 0), 0);
        due(y.receivedBit(0, 31, 0), 0);
        // Nor is anything left there of a longer frame that was asked for before.
        send(y, "\u00ff\u00ff\u00ff\u00ff");
        y.setDrift(20);
        y.removeDog(0);
        due(y.receivedBit(1, 31, 0), 1);
        due(y.receivedBit(0, 31, 0), 0);
        // What is taken as 0 makes the bits of a frame wrong, but not its number of bits.
        due(y.receivedBit(0, 32, 0), NONE);
    }

    private static void readable() {
        about("The frame is readable if the last one of these bytes is the checksum of those before it, and the lowest 4 bits of the first one are the number of bytes minus 2.");
        for (int length = 1; length <= 4; length++) {
            Taped x = plain();
            send(x, "abcd".substring(0, length));
            due(x.resultAt(0, 0), MatchboxModem.SUCCESS);
            int bits = 8 * length + 16;
            for (int bit = 0; bit < bits; bit++) {
                int one = bit;
                due(x.wouldPass(0, 1, one), false);
            }
        }
        // The pattern 100000111 keeps the checksum right: then only the lowest 4 bits of the header decide.
        for (int length = 1; length <= 4; length++) {
            Taped y = plain();
            send(y, "abcd".substring(0, length));
            for (int bit = 0; bit <= 8 * length + 7; bit++) {
                due(y.wouldPass(0, 263, bit), bit == 2 || bit == 3 || bit >= 8);
            }
        }

        about("(A readable frame may have other bytes than the frame that was sent.)");
        Taped z = with("modem 1 100 1 1;dog 999 1 8;dog 999 3 14;");
        send(z, "a");
        due(z.resultAt(0, 0), MatchboxModem.SUCCESS);
        z.transmit(1);
        due(z.frameState(0), MatchboxModem.ACKNOWLEDGED);
        due(z.arrivedByte(0, 1), 'a' ^ 0x83);
        due(z.isIntact(0), false);
    }

    private static void duplicates() {
        about("If the frame is readable, the receiver looks at the sequence number (the upper 4 bits of the first byte).");
        // Bit 3, with bits 9 to 11 for the checksum: frame 1 is taken for one of the sequence number 0.
        Taped v = with("modem 1 100 1 2;dog 999 1 59;dog 999 3 65;");
        send(v, "abcdefgh");
        v.transmit(2);
        due(v.duplicates(), 1);
        // Bit 2, with bits 8 to 10: it is taken for one of the sequence number 3.
        Taped w = with("modem 1 100 1 2;dog 999 1 58;dog 999 3 64;");
        send(w, "abcdefgh");
        w.transmit(2);
        due(w.duplicates(), 0);
        due(w.arrivedByte(1, 0), 3 * 16 + 4);
        // The lower 4 bits do not matter: 16 frames later the number is the same, whatever the number of bytes.
        for (int number = 0; number < 16; number++) {
            for (String second : new String[] {"a", "abcd"}) {
                due(sixteenLater(number, "abcd", second).duplicates(), 1);
                due(sixteenLater(number, "a", second).duplicates(), 1);
            }
        }

        about("If it is equal to that of the readable frame before it, the frame is a duplicate and is ignored; otherwise it arrives, with the bytes that were taken.");
        // There is no frame before the first one, whose sequence number is 0.
        Taped x = plain();
        send(x, "a");
        x.transmit(1);
        due(x.duplicates(), 0);
        due(x.hasArrived(0), true);
        // The frame before frame 16 is frame 15, not frame 0.
        commands(x, "send abcdefghijklmnop;".repeat(4));
        due(x.transmit(60), 16);
        due(x.duplicates(), 0);
        due(x.hasArrived(16), true);
        // An unreadable frame in between does not matter.
        Taped y = withLostAcknowledgement();
        y.addDog(999, 1, 40);
        due(y.transmit(60), 3);
        due(y.unreadableFrames(), 1);
        due(y.duplicates(), 1);
        due(y.frameState(0), MatchboxModem.ACKNOWLEDGED);
        // What has arrived at first stays, as the duplicate is ignored.
        Taped z = with("modem 1 100 1 3;dog 999 1 8;dog 999 3 14;dog 999 1 24;");
        send(z, "a");
        due(z.transmit(60), 2);
        due(z.duplicates(), 1);
        due(z.lostAcknowledgements(), 1);
        due(z.arrivedByte(0, 1), 'a' ^ 0x83);
        due(z.isIntact(0), false);
        // The third one in a row is a duplicate as well.
        Taped u = with("modem 1 100 1 9;dog 33 1 24;");
        send(u, "a");
        due(u.transmit(2), 2);
        due(u.duplicates(), 1);
        u.removeDog(0);
        due(u.transmit(60), 1);
        due(u.duplicates(), 2);
    }

    /** A frame is sent, 15 are given up, and the next one is sent. */
    private static Taped sixteenLater(int number, String first, String second) {
        Taped x = plain();
        for (int frames = 0; frames < number; frames += 4) {
            x.cancelMessage(send(x, "abcdefghijklmnop".substring(0, 4 * Math.min(4, number - frames))));
        }
        due(x.frameCount(), number);
        send(x, first);
        due(x.transmit(60), 1);
        for (int length : new int[] {16, 16, 16, 12}) {
            x.cancelMessage(send(x, "abcdefghijklmnop".substring(0, length)));
        }
        send(x, second);
        due(x.transmit(60), 1);
        due(x.hasArrived(number), true);
        due(x.hasArrived(number + 16), false);
        return x;
    }

    private static void acknowledgements() {
        about("it lasts for 8 bit times, beginning when the last bit of the frame is over; it is lost if the cable is chewed in the first tick of one of these 8 bits.");
        for (int tick = 66; tick <= 99; tick++) {
            int want = tick % 3 != 0 || tick > 93 ? MatchboxModem.SUCCESS
                    : tick < 72 ? MatchboxModem.UNREADABLE : MatchboxModem.ACKNOWLEDGEMENT_LOST;
            Taped x = chewedOnce(3, tick);
            due(x.resultAt(0, 0), want);
            x.transmit(1);
            due(x.lostAcknowledgements(), want == MatchboxModem.ACKNOWLEDGEMENT_LOST ? 1 : 0);
            due(x.unreadableFrames(), want == MatchboxModem.UNREADABLE ? 1 : 0);
            due(x.frameState(0), want == MatchboxModem.SUCCESS ? MatchboxModem.ACKNOWLEDGED : MatchboxModem.QUEUED);
        }

        about("In both cases an acknowledgement is sent:");
        // The dog chews the first bit of both acknowledgements, also of that of the duplicate.
        Taped y = with("modem 1 100 1 3;dog 33 1 24;");
        send(y, "a");
        due(y.transmit(2), 2);
        due(y.duplicates(), 1);
        due(y.lostAcknowledgements(), 2);
        due(y.frameState(0), MatchboxModem.QUEUED);
        y.removeDog(0);
        due(y.transmit(2), 1);
        due(y.duplicates(), 2);
        due(y.frameState(0), MatchboxModem.ACKNOWLEDGED);
    }

    private static void pending() {
        about("A frame is QUEUED, ACKNOWLEDGED or LOST.");
        Taped x = with("modem 1 100 1 1;dog 999 1 0;");
        send(x, "abcdefghijkl");
        x.transmit(2);
        due(x.frameState(0), MatchboxModem.LOST);
        due(x.frameState(1), MatchboxModem.ACKNOWLEDGED);
        due(x.frameState(2), MatchboxModem.QUEUED);

        about("The pending frame is the QUEUED frame with the smallest number.");
        due(x.pendingFrame(), 2);
        send(x, "m");
        due(x.pendingFrame(), 2);
        x.cancelMessage(0);
        due(x.pendingFrame(), 3);
        x.transmit(1);
        due(x.frameState(3), MatchboxModem.ACKNOWLEDGED);
        due(x.pendingFrame(), NONE);
        x.resendMessage(0);
        due(x.pendingFrame(), 4);
        due(new Taped().pendingFrame(), 0);
    }

    private static void attemptSteps() {
        about("If the clock is less than the end of the nap, it becomes the end of the nap.");
        // After the first attempt the clock is 32, and the nap ends at tick 42.
        int[][] waits = {{0, 74, 10}, {9, 74, 1}, {10, 74, 0}, {11, 75, 0}, {500, 564, 0}};
        for (int[] wait : waits) {
            Taped x = neverReadable(10, 9);
            x.transmit(1);
            due(x.clock(), 32);
            due(x.napEnd(), 42);
            if (wait[0] > 0) {
                x.waitTicks(wait[0]);
            }
            x.transmit(1);
            due(x.clock(), wait[1]);
            due(x.nappedTicks(), wait[2]);
        }

        about("The pending frame is sent beginning at the clock.");
        // The second attempt begins at tick 42: its acknowledgement ends before tick 74.
        for (int tick : new int[] {41, 42, 65, 66, 73, 74}) {
            Taped x = with("modem 1 100 10 9;dog 999 1 0;dog 999 1 " + tick + ";");
            send(x, "a");
            x.transmit(2);
            due(x.unreadableFrames(), tick == 42 || tick == 65 ? 2 : 1);
            due(x.lostAcknowledgements(), tick == 66 || tick == 73 ? 1 : 0);
            due(x.frameState(0), tick == 41 || tick == 74 ? MatchboxModem.ACKNOWLEDGED : MatchboxModem.QUEUED);
        }

        about("Its attempts increase by 1.");
        Taped y = neverReadable(10, 9);
        for (int i = 0; i < 9; i++) {
            due(y.attemptsOf(0), i);
            y.transmit(1);
        }
        due(y.attemptsOf(0), 9);

        about("The clock increases by the time of the frame and 8 bit times.");
        for (int length = 1; length <= 4; length++) {
            Taped x = with("modem 7 100 1 9;");
            send(x, "abcd".substring(0, length));
            x.transmit(1);
            due(x.clock(), (8 * length + 24) * 7);
            Taped z = with("modem 7 100 1 9;" + ALWAYS_CHEWED);
            send(z, "abcd".substring(0, length));
            z.transmit(1);
            due(z.clock(), (8 * length + 24) * 7);
        }
    }

    private static void attemptEnds() {
        about("If the frame was readable and the acknowledgement was not lost, the frame becomes ACKNOWLEDGED.");
        Taped x = with("modem 1 100 1 1;");
        send(x, "a");
        x.transmit(1);
        due(x.frameState(0), MatchboxModem.ACKNOWLEDGED);
        // Also in the last attempt that the limit allows.
        Taped y = with("modem 1 100 1 2;dog 999 1 0;");
        send(y, "a");
        due(y.transmit(60), 2);
        due(y.attemptsOf(0), 2);
        due(y.frameState(0), MatchboxModem.ACKNOWLEDGED);
        // After a success no nap begins.
        due(y.napEnd(), 33);
        due(y.clock(), 65);

        about("Otherwise, if its attempts are equal to the attempt limit, it becomes LOST.");
        for (int limit = 1; limit <= 9; limit++) {
            Taped z = neverReadable(1, limit);
            if (limit > 1) {
                z.transmit(limit - 1);
                due(z.frameState(0), MatchboxModem.QUEUED);
            }
            z.transmit(1);
            due(z.frameState(0), MatchboxModem.LOST);
        }
        Taped w = with("modem 1 100 1 2;dog 33 1 24;");
        send(w, "a");
        w.transmit(1);
        due(w.frameState(0), MatchboxModem.QUEUED);
        w.transmit(1);
        due(w.frameState(0), MatchboxModem.LOST);
        due(w.lostAcknowledgements(), 2);

        about("Otherwise a nap begins: its end is the clock plus the nap base times 2 to the power of (its attempts - 1).");
        Taped z = neverReadable(99, 9);
        int[] naps = {99, 198, 396, 792, 1584, 3168, 6336, 12672};
        int clock = 0;
        int napEnd = 0;
        for (int nap : naps) {
            z.transmit(1);
            clock = Math.max(clock, napEnd) + 32;
            napEnd = clock + nap;
            due(z.clock(), clock);
            due(z.napEnd(), napEnd);
        }
        // The ninth attempt is the last one, and no nap begins.
        z.transmit(1);
        due(z.clock(), napEnd + 32);
        due(z.napEnd(), napEnd);
        // A lost acknowledgement is followed by a nap as well.
        Taped v = withLostAcknowledgement();
        v.transmit(1);
        due(v.napEnd(), 33);
    }

    private static void messageStates() {
        about("A message is PENDING if it has a QUEUED frame.");
        List<Taped> pending = new ArrayList<>(List.of(with("modem 1 100 1 1;"), with("modem 1 100 1 1;dog 999 1 0;")));
        for (Taped x : pending) {
            send(x, "abcdefgh");
            due(x.messageState(0), MatchboxModem.PENDING);
            x.transmit(1);
            due(x.messageState(0), MatchboxModem.PENDING);
        }

        about("Otherwise it is LOST if it has a LOST frame, and DELIVERED if it has none.");
        for (Taped x : pending) {
            x.transmit(1);
        }
        due(pending.get(0).messageState(0), MatchboxModem.DELIVERED);
        due(pending.get(1).frameState(1), MatchboxModem.ACKNOWLEDGED);
        due(pending.get(1).messageState(0), MatchboxModem.LOST);
        // Only the last frame is lost.
        Taped y = with("modem 1 100 1 1;dog 999 1 56;");
        send(y, "abcde");
        send(y, "f");
        y.transmit(2);
        due(y.frameState(0), MatchboxModem.ACKNOWLEDGED);
        due(y.frameState(1), MatchboxModem.LOST);
        due(y.messageState(0), MatchboxModem.LOST);
        // The frames of the next message are not its own.
        due(y.messageState(1), MatchboxModem.PENDING);
        y.transmit(1);
        due(y.messageState(1), MatchboxModem.DELIVERED);
    }

    private static void rareCases() {
        about("(A frame may have arrived although it is LOST, if only acknowledgements were lost.");
        Taped x = with("modem 1 100 1 1;dog 999 1 31;");
        send(x, "a");
        x.transmit(1);
        due(x.frameState(0), MatchboxModem.LOST);
        due(x.messageState(0), MatchboxModem.LOST);
        due(x.hasArrived(0), true);
        due(x.isIntact(0), true);

        about("Because of inverted bits, a frame may rarely arrive twice or be taken for a duplicate.)");
        // At first with the sequence number 1, then, as the acknowledgement is lost, with its own.
        Taped y = with("modem 1 100 1 2;dog 999 1 3;dog 999 3 9;dog 999 1 24;");
        send(y, "a");
        due(y.transmit(1), 1);
        due(y.arrivedByte(0, 0), 17);
        due(y.transmit(1), 1);
        due(y.duplicates(), 0);
        due(y.arrivedByte(0, 0), 1);
        due(y.isIntact(0), true);
        due(y.attemptImbalance(), 0);
    }
}
