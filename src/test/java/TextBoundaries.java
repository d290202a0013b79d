import java.util.ArrayList;
import java.util.List;

/** The sections "Configuration text" and "Commands" of the terms, and the promises 2 to 7. */
final class TextBoundaries extends Boundaries {
    private static final int SYNTAX = MatchboxModem.SYNTAX_ERROR;
    private static final int RANGE = MatchboxModem.RANGE_ERROR;
    private static final int LIMIT = MatchboxModem.LIMIT_ERROR;
    private static final String MODEM = "modem 1 1 1 1;";
    private static final String DOG = "dog 2 1 0;";
    private static final String LONGEST = "abcdefghijklmnop";
    private static final List<String> COMMANDS = List.of("send", "transmit", "cancel", "resend", "wait", "drift", "dog",
            "chase");

    static void run() {
        configuration();
        tokens();
        spaces();
        positions();
        codes();
        commandCount();
        commandArguments();
        execution();
        stops();
        append();
        truncate();
        load();
        executeCommands();
        errors();
    }

    private static void configuration() {
        about("A configuration is \"modem B D N L;\" (bit time; drift plus 100, 1 to 199; nap base; attempt limit), followed by up to 3 statements \"dog P L O;\" (period, length and offset).");
        for (int dogs = 0; dogs <= 3; dogs++) {
            goodConfiguration(MODEM + DOG.repeat(dogs), dogs);
        }
        goodConfiguration("modem 9 199 99 9;dog 999 998 999;", 1);
        due(with("modem 1 1 1 1;").drift(), -99);
        due(with("modem 1 100 1 1;").drift(), 0);
        due(with("modem 1 199 1 1;").drift(), 99);
        badConfiguration("", SYNTAX, 0);
        badConfiguration(DOG, SYNTAX, 0);
        badConfiguration(MODEM + MODEM, SYNTAX, 14);
        badConfiguration("modem;", SYNTAX, 5);
        badConfiguration("modem 1;", SYNTAX, 7);
        badConfiguration("modem 1 1;", SYNTAX, 9);
        badConfiguration("modem 1 1 1;", SYNTAX, 11);
        badConfiguration("modem 1 1 1 1 1;", SYNTAX, 14);
        badConfiguration(MODEM + "dog;", SYNTAX, 17);
        badConfiguration(MODEM + "dog 2;", SYNTAX, 19);
        badConfiguration(MODEM + "dog 2 1;", SYNTAX, 21);
        badConfiguration(MODEM + "dog 2 1 0 0;", SYNTAX, 24);
        badConfiguration(MODEM + ";", SYNTAX, 14);
        badConfiguration(MODEM + DOG + ";", SYNTAX, 24);
        badConfiguration("modem 1 1 1 1 dog 2 1 0;", SYNTAX, 14);
    }

    private static void tokens() {
        about("The tokens are words (maximal sequences of the letters a to z), numbers (maximal sequences of digits) and semicolons.");
        // The first and the last letter and digit, and the signs next to them.
        goodCommands("send az;send za;", 2);
        goodConfiguration("modem 9 90 09 9;", 0);
        for (char sign : "`{/:<@[AZ!\"\t\n\r\u0000\u001f\u007f\u0080\u00a0\u00ff".toCharArray()) {
            badConfiguration("modem 1 1 1 1" + sign, SYNTAX, 13);
            badConfiguration(MODEM + sign, SYNTAX, 14);
            badConfiguration(sign + MODEM, SYNTAX, 0);
            badCommands("wait" + sign + "1;", SYNTAX, 4);
            badCommands("wait 1" + sign + ";", SYNTAX, 6);
            badCommands("send a" + sign + "b;", SYNTAX, 6);
        }
        badConfiguration("modemx 1 1 1 1;", SYNTAX, 0);
        badConfiguration("xmodem 1 1 1 1;", SYNTAX, 0);
        badConfiguration("mode 1 1 1 1;", SYNTAX, 0);
        badConfiguration("mod em 1 1 1 1;", SYNTAX, 0);
        badConfiguration(MODEM + "do g 2 1 0;", SYNTAX, 14);
        badConfiguration("modem 1 1 1 1;dogs 2 1 0;", SYNTAX, 14);
        for (int letter = 0; letter < 5; letter++) {
            badConfiguration(otherLetter("modem", letter) + " 1 1 1 1;", SYNTAX, 0);
        }
        for (int letter = 0; letter < 3; letter++) {
            badConfiguration(MODEM + otherLetter("dog", letter) + " 2 1 0;", SYNTAX, 14);
        }
        for (String name : COMMANDS) {
            for (int letter = 0; letter < name.length(); letter++) {
                badCommands(otherLetter(name, letter) + " 1;", SYNTAX, 0);
            }
            badCommands(name.substring(1) + " 1;", SYNTAX, 0);
            badCommands(name + "s 1;", SYNTAX, 0);
            badCommands(name.substring(0, name.length() - 1) + " 1;", SYNTAX, 0);
        }
        due(commands(plain(), "send wait;send dog;send x;"), 3);
    }

    private static String otherLetter(String word, int place) {
        char letter = word.charAt(place) == 'a' ? 'z' : 'a';
        return word.substring(0, place) + letter + word.substring(place + 1);
    }

    private static void spaces() {
        about("Spaces (byte 32) may stand before and after each token.");
        goodConfiguration("   modem   1   1   1   1   ;   dog   2   1   0   ;   ", 1);
        goodConfiguration("modem1 1 1 1;dog2 1 0;", 1);
        goodConfiguration(" ".repeat(486) + MODEM, 0);
        goodConfiguration(MODEM + " ".repeat(486), 0);
        goodCommands("  send   a  ;  wait  1  ;  ", 2);
        goodCommands("wait1;wait2 ;send a ;", 3);
        goodCommands(" ".repeat(500), 0);
        badConfiguration(" ".repeat(500), SYNTAX, 500);

        about("Two words, or two numbers, must be separated by a space.");
        badConfiguration("modem 11 1 1;", RANGE, 6);
        badConfiguration("modem 1 111 1;", SYNTAX, 13);
        badConfiguration(MODEM + "dog 21 1;", SYNTAX, 22);
        badCommands("senda;", SYNTAX, 0);
        badCommands("send a b;", SYNTAX, 7);
        goodCommands("send a;", 1);
    }

    private static void positions() {
        about("The text is parsed from left to right, and parsing stops at the first error.");
        badConfiguration("modem 0 x 0 0", RANGE, 6);
        badConfiguration("modem x 0 0 0", SYNTAX, 6);
        badConfiguration("modem 1 0 1 1;" + DOG.repeat(4), RANGE, 8);
        badConfiguration(MODEM + DOG.repeat(3) + "dog 1 x !", LIMIT, 44);
        badConfiguration(MODEM + "dog 2 2 0;dog 1 1 1;", RANGE, 20);
        badCommands("wait 0;send " + LONGEST + "q;", RANGE, 5);
        badCommands("send " + LONGEST + "q;wait 0;", LIMIT, 5);
        badCommands("wait !;wait 0;", SYNTAX, 5);

        about("The position of an error is the index of the first byte of the token that causes it, or the length of the text if the text ends too early.");
        String whole = MODEM + DOG;
        for (int length = 0; length < whole.length(); length++) {
            String text = whole.substring(0, length);
            if (length == 14) {
                goodConfiguration(text, 0);
            } else {
                // A part of a word is a token that is not expected; all else ends too early.
                int position = length < 5 ? 0 : length == 15 || length == 16 ? 14 : length;
                badConfiguration(text, SYNTAX, position);
                if (position == length || length == 0) {
                    badConfiguration(text + "   ", SYNTAX, length + 3);
                }
            }
        }
        badConfiguration("  ", SYNTAX, 2);
        badConfiguration("modem   10", RANGE, 8);
        badConfiguration("modem   1000", SYNTAX, 8);
        badConfiguration("modem   abc", SYNTAX, 8);
        badCommands("wait", SYNTAX, 4);
        badCommands("wait ", SYNTAX, 5);
        badCommands("wait 1", SYNTAX, 6);
        badCommands("wait 1;send", SYNTAX, 11);
        badCommands("wait 1;send a  ", SYNTAX, 15);
        badCommands("wait 1;  bark;", SYNTAX, 9);
        badCommands(" ".repeat(494) + "wait 1", SYNTAX, 500);
    }

    private static void codes() {
        about("If several errors apply to one token, the error with the smallest code is reported.");
        // More than 3 digits, and outside the range.
        badConfiguration("modem 1000 1 1 1;", SYNTAX, 6);
        badConfiguration("modem 0000 1 1 1;", SYNTAX, 6);
        badConfiguration(MODEM + "dog 2 1 1000;", SYNTAX, 22);
        badCommands("transmit 1000;", SYNTAX, 9);
        // Not the expected token, and one too many.
        badConfiguration(MODEM + DOG.repeat(3) + "cat 2 1 0;", SYNTAX, 44);
        badConfiguration(MODEM + DOG.repeat(3) + "modem 1 1 1 1;", SYNTAX, 44);
        badCommands("wait " + LONGEST + "q;", SYNTAX, 5);
        badCommands("wait 1;".repeat(30) + LONGEST + "q", SYNTAX, 210);

        about("SYNTAX_ERROR: an invalid byte, a token that is not expected at its place, or a number with more than 3 digits.");
        goodConfiguration("modem 001 001 001 001;dog 002 001 000;", 1);
        badConfiguration("modem 0001 1 1 1;", SYNTAX, 6);
        badConfiguration("modem 1 0001 1 1;", SYNTAX, 8);
        badConfiguration("modem 1 1 0001 1;", SYNTAX, 10);
        badConfiguration("modem 1 1 1 0001;", SYNTAX, 12);
        badConfiguration(MODEM + "dog 0002 1 0;", SYNTAX, 18);
        badConfiguration(MODEM + "dog 2 0001 0;", SYNTAX, 20);
        badConfiguration(MODEM + "dog 2 1 0000;", SYNTAX, 22);
        badConfiguration("modem 99999999999999999999 1 1 1;", SYNTAX, 6);
        badConfiguration("modem 4294967297 1 1 1;", SYNTAX, 6);
        badConfiguration("1 1 1 1;", SYNTAX, 0);
        badConfiguration("modem a 1 1 1;", SYNTAX, 6);
        badConfiguration("modem 1 1 1 1 1", SYNTAX, 14);
        badConfiguration("modem 1 1 1 1 a", SYNTAX, 14);

        about("RANGE_ERROR: a number outside its range.");
        goodConfiguration("modem 1 1 1 1;dog 2 1 0;dog 999 1 0;dog 999 998 999;", 3);
        goodConfiguration("modem 9 199 99 9;", 0);
        badConfiguration("modem 0 1 1 1;", RANGE, 6);
        badConfiguration("modem 10 1 1 1;", RANGE, 6);
        badConfiguration("modem 1 0 1 1;", RANGE, 8);
        badConfiguration("modem 1 200 1 1;", RANGE, 8);
        badConfiguration("modem 1 1 0 1;", RANGE, 10);
        badConfiguration("modem 1 1 100 1;", RANGE, 10);
        badConfiguration("modem 1 1 1 0;", RANGE, 12);
        badConfiguration("modem 1 1 1 10;", RANGE, 12);
        badConfiguration(MODEM + "dog 0 1 0;", RANGE, 18);
        badConfiguration(MODEM + "dog 1 1 0;", RANGE, 18);
        badConfiguration(MODEM + "dog 2 0 0;", RANGE, 20);
        badConfiguration(MODEM + "dog 2 2 0;", RANGE, 20);
        badConfiguration(MODEM + "dog 999 999 0;", RANGE, 22);
        goodConfiguration(MODEM + "dog 999 998 0;", 1);

        about("LIMIT_ERROR: the word dog of a fourth dog.");
        goodConfiguration(MODEM + DOG.repeat(3) + "   ", 3);
        badConfiguration(MODEM + DOG.repeat(4), LIMIT, 44);
        badConfiguration(MODEM + DOG.repeat(3) + "  dog", LIMIT, 46);
        badConfiguration(MODEM + DOG.repeat(3) + "dog!", LIMIT, 44);
        badConfiguration(MODEM + DOG.repeat(3) + "do", SYNTAX, 44);
        badConfiguration(MODEM + DOG.repeat(3) + "dogs", SYNTAX, 44);
        badConfiguration(MODEM + DOG.repeat(3) + ";", SYNTAX, 44);
        badConfiguration(MODEM + DOG.repeat(3) + "1", SYNTAX, 44);
    }

    private static void commandCount() {
        about("A command text has at most 30 commands, each followed by a semicolon:");
        goodCommands("", 0);
        goodCommands("wait 1;", 1);
        goodCommands("wait 1;".repeat(29), 29);
        goodCommands("wait 1;".repeat(30), 30);
        goodCommands("wait 1;".repeat(30) + "  ", 30);
        badCommands("wait 1;".repeat(31), LIMIT, 210);
        badCommands("wait 1", SYNTAX, 6);
        badCommands("wait 1 wait 1;", SYNTAX, 7);
        badCommands("wait 1;;", SYNTAX, 7);
        badCommands(";", SYNTAX, 0);
        badCommands("wait 1;".repeat(29) + "wait 1", SYNTAX, 209);

        about("The first word of a 31st command is a LIMIT_ERROR if it is the name of a command.");
        String thirty = "wait 1;".repeat(30);
        for (String name : COMMANDS) {
            badCommands(thirty + name, LIMIT, 210);
            badCommands(thirty + " " + name + "!", LIMIT, 211);
            badCommands(thirty + name + "x", SYNTAX, 210);
        }
        badCommands(thirty + "modem", SYNTAX, 210);
        badCommands(thirty + "1", SYNTAX, 210);
        badCommands(thirty + ";", SYNTAX, 210);
        badCommands(thirty + "!", SYNTAX, 210);
        // An error before it is the first one.
        badCommands("wait 0;" + thirty, RANGE, 5);
        badCommands("wait 1;".repeat(29) + "wait 0;wait 1;", RANGE, 208);
    }

    private static void commandArguments() {
        about("\"send WORD\" (a message of the letters of a word; a word with more than 16 letters is a LIMIT_ERROR), \"transmit N\" (1 to 60), \"cancel K\" and \"resend K\" (a message, 0 to 11), \"wait N\" (1 to 999), \"drift D\" (drift plus 100, 1 to 199), \"dog P L O\" and \"chase N\" (0 to 2).");
        goodCommands("send a;send " + LONGEST + ";", 2);
        badCommands("send " + LONGEST + "q;", LIMIT, 5);
        badCommands("send " + LONGEST + "q", LIMIT, 5);
        badCommands("send;", SYNTAX, 4);
        badCommands("send 5;", SYNTAX, 5);
        badCommands("send send", SYNTAX, 9);
        goodCommands("transmit 1;transmit 60;", 2);
        badCommands("transmit 0;", RANGE, 9);
        badCommands("transmit 61;", RANGE, 9);
        goodCommands("cancel 0;", 1);
        goodCommands("cancel 11;", 0);
        badCommands("cancel 12;", RANGE, 7);
        goodCommands("cancel 0;resend 0;", 2);
        goodCommands("resend 11;", 0);
        badCommands("resend 12;", RANGE, 7);
        goodCommands("wait 1;wait 999;", 2);
        badCommands("wait 0;", RANGE, 5);
        badCommands("wait 1000;", SYNTAX, 5);
        badCommands("drift 0;", RANGE, 6);
        badCommands("drift 200;", RANGE, 6);
        for (int drift : new int[] {1, 99, 100, 101, 199}) {
            Taped x = plain();
            due(commands(x, "drift " + drift + ";"), 1);
            due(x.drift(), drift - 100);
        }
        goodCommands("dog 2 1 0;dog 999 998 999;", 2);
        badCommands("dog 1 1 0;", RANGE, 4);
        badCommands("dog 2 0 0;", RANGE, 6);
        badCommands("dog 2 2 0;", RANGE, 6);
        badCommands("dog 1000 1 0;", SYNTAX, 4);
        badCommands("dog 2 1 1000;", SYNTAX, 8);
        badCommands("dog 2 1;", SYNTAX, 7);
        goodCommands("chase 0;", 1);
        goodCommands("chase 2;", 0);
        goodCommands("dog 2 1 0;dog 2 1 0;chase 2;chase 1;chase 0;", 5);
        badCommands("chase 3;", RANGE, 6);
        for (String name : COMMANDS) {
            badCommands(name + ";", SYNTAX, name.length());
            badCommands(name + " 1 1 1 1;", name.equals("send") ? SYNTAX : name.equals("dog") ? RANGE : SYNTAX,
                    name.equals("send") ? 5 : name.equals("dog") ? 4 : name.length() + 3);
        }

        about("The tokens, SYNTAX_ERROR and RANGE_ERROR are those of the configuration.");
        goodCommands("  wait001 ;wait 099;", 2);
        badCommands("wait 0001;", SYNTAX, 5);
        badCommands("wait 1,", SYNTAX, 6);
        // The fourth dog of a command text is no error of the text: addDog refuses it.
        goodCommands("dog 9 1 0;dog 9 1 0;dog 9 1 0;dog 9 1 0;", 2);
    }

    private static void execution() {
        about("The command send sends a message like sendMessage, but with the letters of the word;");
        Taped x = plain();
        due(commands(x, "send a;send " + LONGEST + ";"), 2);
        due(x.messageLength(0), 1);
        due(x.frameByte(0, 1), 'a');
        due(x.messageLength(1), 16);
        due(x.frameByte(1, 1), 'a');
        due(x.frameByte(4, 4), 'p');
        due(x.frameCount(), 5);

        about("They are executed one after the other.");
        Taped y = plain();
        due(commands(y, "wait 5;send abc;transmit 1;wait 2;drift 1;dog 9 1 3;dog 9 1 4;chase 0;send d;cancel 1;resend 1;"), 11);
        due(y.clock(), 5 + 48 + 2);
        due(y.drift(), -99);
        due(y.dogCount(), 1);
        due(y.isChewed(3), false);
        due(y.isChewed(4), true);
        due(y.messageState(0), MatchboxModem.DELIVERED);
        due(y.messageState(1), MatchboxModem.LOST);
        due(y.messageState(2), MatchboxModem.PENDING);
    }

    private static void stops() {
        about("Execution stops at the first command whose method would throw an exception; the commands before it keep their effect.");
        Taped x = plain();
        due(commands(x, "wait 1;" + "send a;".repeat(13) + "wait 1;"), 13);
        due(x.messageCount(), 12);
        due(x.clock(), 1);
        stopsAt("cancel 1;", 0);
        stopsAt("cancel 0;cancel 0;", 1);
        stopsAt("transmit 60;cancel 0;", 1);
        stopsAt("resend 0;", 0);
        stopsAt("resend 1;", 0);
        stopsAt("transmit 60;resend 0;", 1);
        stopsAt("cancel 0;" + "send a;".repeat(11) + "resend 0;", 12);
        stopsAt("chase 1;", 0);
        stopsAt("chase 0;chase 0;", 1);
        stopsAt("dog 9 1 0;dog 9 1 0;dog 9 1 0;", 2);
        Taped late = atTick(899999);
        due(commands(late, "wait 1;wait 1;wait 1;"), 1);
        due(late.clock(), 900000);
        due(commands(late, "transmit 1;transmit 1;drift 1;"), 1);
        due(late.clock(), 900504);
        due(late.drift(), 0);
        due(commands(late, "transmit 1;"), 0);
        due(commands(late, "wait 1;"), 0);
        due(commands(late, "send a;drift 1;"), 2);
    }

    /** The last one of these commands is not executed any more, nor is one behind it. */
    private static void stopsAt(String text, int executed) {
        Taped x = new Taped();
        due(commands(x, text + "drift 1;"), executed);
        due(x.drift(), 0);
        due(x.errorCode(), 0);
        due(x.errorPosition(), NONE);
        due(input(x), input(new Taped()));
        Taped y = new Taped();
        int end = 0;
        for (int i = 0; i < executed; i++) {
            end = text.indexOf(';', end) + 1;
        }
        due(commands(y, text.substring(0, end)), executed);
        due(state(x), state(y));
    }

    private static void append() {
        about(2, "Appends 20 bytes to the input buffer: the four bytes of each parameter, the most significant byte first.");
        bytesAreAppended(new int[] {0x80010203, 0x7f0506ff, 0xff090a0b, 0x000d0e80, 0x10111200});
        bytesAreAppended(new int[] {-1, -1, -1, -1, -1});
        bytesAreAppended(new int[] {0, 0, 0, 0, 0});
        bytesAreAppended(new int[] {Integer.MIN_VALUE, Integer.MAX_VALUE, 1, 256, 65536});
        String[] places = {"- `a`: bytes 0 to 3", "- `b`: bytes 4 to 7", "- `c`: bytes 8 to 11", "- `d`: bytes 12 to 15",
            "- `e`: bytes 16 to 19"};
        for (int i = 0; i < 5; i++) {
            about(2, places[i]);
            int[] parameters = new int[5];
            parameters[i] = 0x81020304;
            bytesAreAppended(parameters);
        }

        about(2, "Throws `IllegalStateException` if the new length would exceed 500");
        Taped x = plain();
        for (int i = 1; i <= 25; i++) {
            due(x.append(i, i, i, i, i), 20 * i);
        }
        refused(x, STATE, () -> x.append(1, 2, 3, 4, 5));
        x.truncate(481);
        refused(x, STATE, () -> x.append(1, 2, 3, 4, 5));
        x.truncate(480);
        due(x.append(1, 2, 3, 4, 5), 500);
        x.truncate(3);
        due(x.append(1, 2, 3, 4, 5), 23);
    }

    private static void bytesAreAppended(int[] p) {
        Taped x = plain();
        due(x.append(p[0], p[1], p[2], p[3], p[4]), 20);
        List<Integer> want = new ArrayList<>();
        for (int four : p) {
            for (int shift = 24; shift >= 0; shift -= 8) {
                want.add(four >> shift & 255);
            }
        }
        // The checksum of the first bytes tells each byte, one after the other.
        for (int length = 20; length > 0; length--) {
            x.truncate(length);
            due(x.checksum(), Model.crc(want.subList(0, length)));
        }
    }

    private static void truncate() {
        about(3, "Throws `IllegalArgumentException` if length is negative or greater than the current length");
        Taped x = plain();
        due(x.truncate(0), 0);
        refused(x, ARGUMENT, () -> x.truncate(1));
        refused(x, ARGUMENT, () -> x.truncate(-1));
        x.append(1, 2, 3, 4, 5);
        refused(x, ARGUMENT, () -> x.truncate(21));
        refused(x, ARGUMENT, () -> x.truncate(-1));
        refused(x, ARGUMENT, () -> x.truncate(Integer.MIN_VALUE));
        refused(x, ARGUMENT, () -> x.truncate(Integer.MAX_VALUE));
        due(x.truncate(20), 20);
        due(x.truncate(19), 19);
        refused(x, ARGUMENT, () -> x.truncate(20));
        due(x.truncate(0), 0);
        refused(x, ARGUMENT, () -> x.truncate(1));
        Taped y = plain();
        for (int i = 1; i <= 25; i++) {
            y.append(i, i, i, i, i);
        }
        refused(y, ARGUMENT, () -> y.truncate(501));
        due(y.truncate(500), 500);
        due(y.truncate(499), 499);
    }

    /** A modem on which nothing is as in a new one. */
    private static Taped used() {
        Taped x = with("modem 2 105 7 5;dog 97 3 11;dog 50 4 0;");
        commands(x, "send abcdefgh;transmit 5;wait 3;send ij;");
        x.setDrift(2);
        x.transmit(1);
        x.save();
        x.waitTicks(9);
        x.formatFrame(0, 3);
        return x;
    }

    private static void load() {
        about(4, "On success the configuration replaces everything: the clock and the end of the nap are 0, there are no messages, all counters are 0, and nothing can be undone.");
        for (String text : List.of("modem 3 90 8 4;dog 60 5 2;", MODEM, "modem 9 199 99 9;" + DOG.repeat(3))) {
            Taped x = used();
            put(x, text);
            x.load();
            due(state(x), state(with(text)));
            due(x.clock() + x.napEnd() + x.messageCount() + x.frameCount(), 0);
            due(x.attempts() + x.unreadableFrames() + x.duplicates() + x.lostAcknowledgements(), 0);
            due(x.nappedTicks() + x.bitsSent() + x.clockImbalance() + x.attemptImbalance(), 0);
            refused(x, STATE, x::undo);
            // No sequence number is left of the frames before: the first frame is no duplicate.
            Taped fresh = with(text);
            for (Taped one : List.of(x, fresh)) {
                one.setDrift(0);
                send(one, "a");
                one.transmit(60);
            }
            due(state(x), state(fresh));
        }
        Taped y = plain();
        send(y, "a");
        y.transmit(1);
        put(y, "modem 1 100 1 1;");
        y.load();
        send(y, "a");
        y.transmit(1);
        due(y.duplicates(), 0);
        due(y.hasArrived(0), true);

        nothingOfBefore();

        about(4, "The input buffer is empty afterwards, also after an error.");
        Taped z = new Taped();
        put(z, MODEM);
        z.load();
        due(input(z), input(new Taped()));
        put(z, MODEM + "x");
        due(thrownBy(z::load), "IllegalArgumentException");
        due(input(z), input(new Taped()));
        due(thrownBy(z::load), "IllegalArgumentException");
        due(input(z), input(new Taped()));

        about(4, "The output and the saved state do not change.");
        for (String text : List.of(MODEM, MODEM + "x")) {
            Taped x = used();
            String before = output(x) + saved(x);
            put(x, text);
            due(thrownBy(x::load), text.equals(MODEM) ? "nothing" : "IllegalArgumentException");
            due(output(x) + saved(x), before);
        }

        about(4, "Returns the number of dogs.");
        for (int dogs = 0; dogs <= 3; dogs++) {
            goodConfiguration(MODEM + DOG.repeat(dogs), dogs);
        }

        about(4, "Throws `IllegalArgumentException` if the text has an error; nothing but the input buffer, the error code and the error position changes");
        for (String text : List.of("x", "modem 9 9 9 9", "modem 9 9 9 9;x", "modem 9 9 9 9;" + DOG.repeat(4))) {
            Taped x = used();
            String before = state(x) + kept(x);
            put(x, text);
            due(thrownBy(x::load), "IllegalArgumentException");
            due(state(x) + kept(x), before);
        }
    }

    /** What was sent before a configuration, or was only simulated, is not found again in what comes after it. */
    private static void nothingOfBefore() {
        Taped x = with("modem 1 100 3 9;dog 97 1 50;");
        commands(x, ("send " + LONGEST + ";").repeat(12) + "wait 9;");
        x.save();
        x.transmit(60);
        due(x.isIntact(0), true);
        due(x.frameState(0), MatchboxModem.ACKNOWLEDGED);
        due(x.unreadableFrames() > 0 && x.duplicates() > 0 && x.lostAcknowledgements() > 0, true);
        x.clockWhenIdle();
        put(x, "modem 1 100 1 9;");
        x.load();
        due(state(x), state(plain()));
        for (int message = 0; message < 12; message++) {
            due(commands(x, "cancel " + message + ";"), 0);
            due(commands(x, "resend " + message + ";"), 0);
        }
        Taped fresh = plain();
        x.waitTicks(1);
        fresh.waitTicks(1);
        due(state(x), state(fresh));
        for (String text : List.of(LONGEST, "a", "abcdefghijklmno", LONGEST, "abcdef")) {
            send(x, text);
            send(fresh, text);
            due(state(x), state(fresh));
        }
        for (int i = 0; i < 12; i++) {
            due(x.transmit(1), fresh.transmit(1));
            due(state(x), state(fresh));
        }
    }

    private static void executeCommands() {
        about(5, "The input buffer is empty afterwards, also after an error.");
        for (String text : List.of("", "wait 1;", "send a;", "cancel 11;wait 1;", "wait 1;x", "x", "wait 1")) {
            Taped x = new Taped();
            put(x, text);
            thrownBy(x::executeCommands);
            due(input(x), input(new Taped()));
        }

        about(5, "Returns the number of commands that were executed.");
        for (int count = 0; count <= 30; count++) {
            Taped x = new Taped();
            due(commands(x, "wait 1;".repeat(count)), count);
            due(x.clock(), count);
        }

        about(5, "Throws `IllegalArgumentException` if the text has an error; nothing but the input buffer, the error code and the error position changes");
        for (String text : List.of("wait 1;send a;dog 9 1 0;drift 1;transmit 9;x", "cancel 2;wait 0;", "wait 1;".repeat(31),
                "wait 1", "send " + LONGEST + "q;")) {
            Taped x = used();
            String before = state(x) + kept(x);
            put(x, text);
            due(thrownBy(x::executeCommands), "IllegalArgumentException");
            due(state(x) + kept(x), before);
        }
    }

    private static void errors() {
        about(6, "Returns the error code, or 0 if that call had no error or there was no such call.");
        about(7, "Returns the position, or NONE if that call had no error or there was no such call.");
        Taped x = new Taped();
        errorIs(x, 0, NONE);
        put(x, "wait 0;");
        due(thrownBy(x::executeCommands), "IllegalArgumentException");
        errorIs(x, RANGE, 5);
        // Only load and executeCommands change it, whatever else is called or refused.
        x.append(1, 2, 3, 4, 5);
        x.truncate(0);
        x.waitTicks(1);
        due(thrownBy(() -> x.waitTicks(0)), "IllegalArgumentException");
        x.save();
        x.undo();
        x.restore();
        errorIs(x, RANGE, 5);
        commands(x, "");
        errorIs(x, 0, NONE);
        put(x, "send " + LONGEST + "q;");
        due(thrownBy(x::executeCommands), "IllegalArgumentException");
        errorIs(x, LIMIT, 5);
        put(x, MODEM);
        x.load();
        errorIs(x, 0, NONE);
        put(x, "x");
        due(thrownBy(x::load), "IllegalArgumentException");
        errorIs(x, SYNTAX, 0);
        // To execute no command at all is no error of the text.
        due(commands(x, "cancel 0;"), 0);
        errorIs(x, 0, NONE);
    }

    private static void errorIs(Taped x, int code, int position) {
        due(x.errorCode(), code);
        due(x.errorPosition(), position);
    }
}
