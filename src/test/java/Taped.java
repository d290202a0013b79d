import java.util.ArrayList;
import java.util.List;

/**
 * A modem for the tests: what it is called is put on a tape, so that a new object with the same past can be looked at
 * instead. No object of the program is called more than 512 times, as what it answers then is free.
 */
final class Taped {
    static final int MOST_CALLS = 512;

    private interface Call<T> {
        T on(MatchboxModem x);
    }

    private final MatchboxModem modem = new MatchboxModem();
    private final List<Call<?>> tape = new ArrayList<>();

    private <T> T play(Call<T> call) {
        if (!hasRoomFor(1)) {
            throw new AssertionError("a test calls one object more than " + MOST_CALLS + " times");
        }
        tape.add(call);
        return call.on(modem);
    }

    boolean hasRoomFor(int calls) {
        return tape.size() + calls <= MOST_CALLS;
    }

    /** A new object after the same calls. */
    Taped again() {
        Taped other = new Taped();
        for (Call<?> call : tape) {
            try {
                other.play(call);
            } catch (IllegalArgumentException | IllegalStateException | IndexOutOfBoundsException e) {
                // It has thrown the first time, too, and the test has seen it then.
                continue;
            }
        }
        return other;
    }

    int append(int a, int b, int c, int d, int e) {
        return play(x -> x.append(a, b, c, d, e));
    }

    int truncate(int length) {
        return play(x -> x.truncate(length));
    }

    int load() {
        return play(x -> x.load());
    }

    int executeCommands() {
        return play(x -> x.executeCommands());
    }

    int errorCode() {
        return play(x -> x.errorCode());
    }

    int errorPosition() {
        return play(x -> x.errorPosition());
    }

    int clock() {
        return play(x -> x.clock());
    }

    int bitTime() {
        return play(x -> x.bitTime());
    }

    int drift() {
        return play(x -> x.drift());
    }

    int dogCount() {
        return play(x -> x.dogCount());
    }

    boolean isChewed(int tick) {
        return play(x -> x.isChewed(tick));
    }

    int nextChewedTick(int tick) {
        return play(x -> x.nextChewedTick(tick));
    }

    int nextQuietTick(int ticks) {
        return play(x -> x.nextQuietTick(ticks));
    }

    int checksum() {
        return play(x -> x.checksum());
    }

    int messageCount() {
        return play(x -> x.messageCount());
    }

    int messageLength(int message) {
        return play(x -> x.messageLength(message));
    }

    int messageState(int message) {
        return play(x -> x.messageState(message));
    }

    int firstFrame(int message) {
        return play(x -> x.firstFrame(message));
    }

    int frameCount() {
        return play(x -> x.frameCount());
    }

    int frameLength(int frame) {
        return play(x -> x.frameLength(frame));
    }

    int frameByte(int frame, int index) {
        return play(x -> x.frameByte(frame, index));
    }

    int frameBit(int frame, int bit) {
        return play(x -> x.frameBit(frame, bit));
    }

    int frameState(int frame) {
        return play(x -> x.frameState(frame));
    }

    int attemptsOf(int frame) {
        return play(x -> x.attemptsOf(frame));
    }

    boolean hasArrived(int frame) {
        return play(x -> x.hasArrived(frame));
    }

    int arrivedByte(int frame, int index) {
        return play(x -> x.arrivedByte(frame, index));
    }

    boolean isIntact(int frame) {
        return play(x -> x.isIntact(frame));
    }

    int takenFrom(int bit) {
        return play(x -> x.takenFrom(bit));
    }

    int safeBits() {
        return play(x -> x.safeBits());
    }

    int receivedBit(int frame, int bit, int tick) {
        return play(x -> x.receivedBit(frame, bit, tick));
    }

    int invertedBits(int frame, int tick) {
        return play(x -> x.invertedBits(frame, tick));
    }

    int longestBurst(int frame, int tick) {
        return play(x -> x.longestBurst(frame, tick));
    }

    int wrongBits(int frame, int tick) {
        return play(x -> x.wrongBits(frame, tick));
    }

    int resultAt(int frame, int tick) {
        return play(x -> x.resultAt(frame, tick));
    }

    boolean wouldPass(int frame, int pattern, int bit) {
        return play(x -> x.wouldPass(frame, pattern, bit));
    }

    int earliestSuccess(int frame) {
        return play(x -> x.earliestSuccess(frame));
    }

    int bestBitTime(int frame) {
        return play(x -> x.bestBitTime(frame));
    }

    int pendingFrame() {
        return play(x -> x.pendingFrame());
    }

    int napEnd() {
        return play(x -> x.napEnd());
    }

    int attemptsUntilIdle() {
        return play(x -> x.attemptsUntilIdle());
    }

    int clockWhenIdle() {
        return play(x -> x.clockWhenIdle());
    }

    int attempts() {
        return play(x -> x.attempts());
    }

    int unreadableFrames() {
        return play(x -> x.unreadableFrames());
    }

    int duplicates() {
        return play(x -> x.duplicates());
    }

    int lostAcknowledgements() {
        return play(x -> x.lostAcknowledgements());
    }

    int nappedTicks() {
        return play(x -> x.nappedTicks());
    }

    int bitsSent() {
        return play(x -> x.bitsSent());
    }

    int attemptImbalance() {
        return play(x -> x.attemptImbalance());
    }

    int clockImbalance() {
        return play(x -> x.clockImbalance());
    }

    float errorRate() {
        return play(x -> x.errorRate());
    }

    double throughput() {
        return play(x -> x.throughput());
    }

    int sendMessage() {
        return play(x -> x.sendMessage());
    }

    int transmit(int most) {
        return play(x -> x.transmit(most));
    }

    int cancelMessage(int message) {
        return play(x -> x.cancelMessage(message));
    }

    int resendMessage(int message) {
        return play(x -> x.resendMessage(message));
    }

    int waitTicks(int ticks) {
        return play(x -> x.waitTicks(ticks));
    }

    int setDrift(int drift) {
        return play(x -> x.setDrift(drift));
    }

    int addDog(int period, int length, int offset) {
        return play(x -> x.addDog(period, length, offset));
    }

    int removeDog(int dog) {
        return play(x -> x.removeDog(dog));
    }

    int undo() {
        return play(x -> x.undo());
    }

    int save() {
        return play(x -> x.save());
    }

    int restore() {
        return play(x -> x.restore());
    }

    int formatFrame(int frame, int tick) {
        return play(x -> x.formatFrame(frame, tick));
    }

    int outputByte(int index) {
        return play(x -> x.outputByte(index));
    }
}
