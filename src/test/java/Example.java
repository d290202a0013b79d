/** How the class is used, as README.md shows it. */
public final class Example {
    public static void main(String[] arguments) {
        // At first a message of the letters h and i waits, and a dog chews the ticks 20 to 49 of each 200.
        MatchboxModem modem = new MatchboxModem();
        System.out.println("attempts: " + modem.transmit(60) + ", clock: " + modem.clock());
        System.out.println("delivered: " + (modem.messageState(0) == MatchboxModem.DELIVERED));

        // A text is a configuration, or the bytes of a message, or commands: the call behind it tells which.
        put(modem, "modem 3 100 10 4; dog 250 40 20;");
        System.out.println("dogs: " + modem.load() + ", bit time: " + modem.bitTime());
        put(modem, "hello");
        int message = modem.sendMessage();
        System.out.println("ticks to wait: " + modem.earliestSuccess(modem.firstFrame(message)));
        put(modem, "wait 60; transmit 9; drift 103;");
        System.out.println("commands: " + modem.executeCommands() + ", clock: " + modem.clock());
        System.out.println("to undo: " + modem.undo() + ", clock: " + modem.clock());

        put(modem, "transmit 61;");
        try {
            modem.executeCommands();
        } catch (IllegalArgumentException e) {
            System.out.println("error: " + modem.errorCode() + ", position: " + modem.errorPosition());
        }

        // The frame with the letter o, sent now: the dog inverts the bits 7 to 19.
        StringBuilder bits = new StringBuilder();
        int length = modem.formatFrame(1, modem.clock());
        for (int i = 0; i < length; i++) {
            bits.append((char) modem.outputByte(i));
        }
        System.out.println(bits);
    }

    /** Puts a text into the empty input buffer, 20 bytes at once. */
    private static void put(MatchboxModem modem, String text) {
        for (int i = 0; i < text.length(); i += 20) {
            modem.append(four(text, i), four(text, i + 4), four(text, i + 8), four(text, i + 12), four(text, i + 16));
        }
        modem.truncate(text.length());
    }

    private static int four(String text, int from) {
        int value = 0;
        for (int i = from; i < from + 4; i++) {
            value = value * 256 + (i < text.length() ? text.charAt(i) : 0);
        }
        return value;
    }
}
