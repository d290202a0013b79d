/** For each promise of the document: ordinary inputs, the edges that it names, and wrong inputs. */
public final class PromiseTest extends Checks {
    public static void main(String[] arguments) {
        inputAndTexts();
        dogsAndTime();
        messagesAndFrames();
        receiver();
        simulations();
        queueAndCounters();
        operations();
        undoSaveOutput();
        end("PromiseTest");
    }

    private static void inputAndTexts() {
        promise1();
        promise2();
        promise3();
        promise4();
        promise4Errors();
        promise5();
        promise5Errors();
        promises6And7();
    }

    private static void promise1() {
        topic = "promise 1";
        Taped x = new Taped();
        due(x.bitTime(), 2);
        due(x.drift(), 0);
        due(x.clock(), 0);
        due(x.napEnd(), 0);
        due(x.dogCount(), 1);
        due(x.nextChewedTick(0), 20);
        due(x.isChewed(49), true);
        due(x.isChewed(50), false);
        due(x.nextChewedTick(50), 220);
        due(x.messageCount(), 1);
        due(x.frameByte(0, 1), 104);
        due(x.frameByte(0, 2), 105);
        due(x.messageState(0), MatchboxModem.PENDING);
        due(x.outputByte(0), NONE);
        due(x.checksum(), 0);
        refused(x, STATE, x::undo);
        refused(x, STATE, x::restore);
        refused(x, ARGUMENT, () -> x.truncate(1));
        // The nap base is 10, and the attempt limit 4.
        x.addDog(2, 1, 0);
        x.transmit(1);
        due(x.napEnd(), x.clock() + 10);
        due(x.transmit(60), 3);
        due(x.frameState(0), MatchboxModem.LOST);
        Taped y = new Taped();
        due(y.clock(), 0);
    }

    private static void promise2() {
        topic = "promise 2";
        Taped x = new Taped();
        due(x.append(0x01020304, 0x05060708, 0x090a0b0c, 0x0d0e0f10, 0xff80fe7f), 20);
        x.truncate(16);
        due(x.sendMessage(), 1);
        for (int i = 0; i < 16; i++) {
            due(x.frameByte(1 + i / 4, 1 + i % 4), i + 1);
        }
        x.append(0xff80fe7f, 0, 0, 0, 0);
        x.truncate(4);
        x.sendMessage();
        due(x.frameByte(5, 1), 255);
        due(x.frameByte(5, 2), 128);
        due(x.frameByte(5, 3), 254);
        due(x.frameByte(5, 4), 127);
        for (int i = 1; i <= 25; i++) {
            due(x.append(i, -i, 0, 0, i), 20 * i);
        }
        refused(x, STATE, () -> x.append(1, 2, 3, 4, 5));
        x.truncate(481);
        refused(x, STATE, () -> x.append(1, 2, 3, 4, 5));
        x.truncate(480);
        due(x.append(1, 2, 3, 4, 5), 500);
    }

    private static void promise3() {
        topic = "promise 3";
        Taped x = new Taped();
        due(x.truncate(0), 0);
        put(x, "abcdef");
        refused(x, ARGUMENT, () -> x.truncate(7));
        refused(x, ARGUMENT, () -> x.truncate(-1));
        refused(x, ARGUMENT, () -> x.truncate(Integer.MIN_VALUE));
        refused(x, ARGUMENT, () -> x.truncate(Integer.MAX_VALUE));
        due(x.truncate(6), 6);
        due(x.truncate(3), 3);
        refused(x, ARGUMENT, () -> x.truncate(4));
        x.sendMessage();
        due(x.messageLength(1), 3);
        due(x.frameByte(1, 3), 'c');
    }

    private static void promise4() {
        topic = "promise 4";
        Taped x = new Taped();
        x.transmit(2);
        x.save();
        x.formatFrame(0, 0);
        put(x, "modem 9 199 99 9;dog 999 998 999;dog 2 1 0;dog 200 30 20;");
        due(x.load(), 3);
        due(x.clock(), 0);
        due(x.napEnd(), 0);
        due(x.bitTime(), 9);
        due(x.drift(), 99);
        due(x.dogCount(), 3);
        due(x.messageCount() + x.frameCount(), 0);
        due(x.attempts() + x.unreadableFrames() + x.nappedTicks() + x.bitsSent(), 0);
        due(x.clockImbalance() + x.attemptImbalance(), 0);
        due(x.append(0, 0, 0, 0, 0), 20);
        due(x.outputByte(34), 42);
        refused(x, STATE, x::undo);
        due(x.restore(), 170);
        due(x.frameState(0), MatchboxModem.ACKNOWLEDGED);
        x.truncate(0);
        put(x, "  modem1 1  001 1 ; dog2 1 0  ;  ");
        due(x.load(), 1);
        due(x.drift(), -99);
        due(x.isChewed(2), true);
        // The receiver has forgotten the sequence number, too.
        Taped y = with("modem 1 100 1 1;");
        send(y, "a");
        y.transmit(1);
        put(y, "modem 1 100 1 1;");
        y.load();
        send(y, "b");
        y.transmit(1);
        due(y.duplicates(), 0);
        due(y.hasArrived(0), true);
    }

    private static void promise4Errors() {
        badConfiguration("", 1, 0);
        badConfiguration("   ", 1, 3);
        badConfiguration("Modem 1 1 1 1;", 1, 0);
        badConfiguration(" modems 1 1 1 1;", 1, 1);
        badConfiguration("mode 1 1 1 1;", 1, 0);
        badConfiguration("5", 1, 0);
        badConfiguration("modem;", 1, 5);
        badConfiguration("modem 0;", 2, 6);
        badConfiguration("modem 10", 2, 6);
        badConfiguration("modem 0001 1 1 1;", 1, 6);
        badConfiguration("modem 1 0 1 1;", 2, 8);
        badConfiguration("modem 1 200 1 1;", 2, 8);
        badConfiguration("modem 1 1 0 1;", 2, 10);
        badConfiguration("modem 1 1 100 1;", 2, 10);
        badConfiguration("modem 1 1 1 0;", 2, 12);
        badConfiguration("modem 1 1 1 10;", 2, 12);
        badConfiguration("modem 1 1 1 1", 1, 13);
        badConfiguration("modem 1 1 1 1  ", 1, 15);
        badConfiguration("modem 1 1 1 1 1", 1, 14);
        badConfiguration("modem 1 1 1 1,", 1, 13);
        badConfiguration("modem 1\t1 1 1;", 1, 7);
        badConfiguration("modem 1 1 1 1;;", 1, 14);
        badConfiguration("modem 1 1 1 1;cat", 1, 14);
        badConfiguration("modem 1 1 1 1;dogs", 1, 14);
        badConfiguration("modem 1 1 1 1;dog 1 1 1;", 2, 18);
        badConfiguration("modem 1 1 1 1;dog 1000 1 1;", 1, 18);
        badConfiguration("modem 1 1 1 1;dog 2 0 1;", 2, 20);
        badConfiguration("modem 1 1 1 1;dog 2 2 1;", 2, 20);
        badConfiguration("modem 1 1 1 1;dog 2 1 1000;", 1, 22);
        badConfiguration("modem 1 1 1 1;dog 2 1 1", 1, 23);
        badConfiguration("modem 1 1 1 1;dog 2 1 1 dog", 1, 24);
        badConfiguration("modem 1 1 1 1;dog 2 1 0;dog 2 1 0;dog 2 1 0;dog", 3, 44);
        badConfiguration("modem 1 1 1 1;dog 2 1 0;dog 2 1 0;dog 2 1 0;cat", 1, 44);
        badConfiguration("modem 1 1 1 1;\u00ff", 1, 14);
        badConfiguration("modem 1 1 1 1;\u0000", 1, 14);
    }

    private static void promise5() {
        topic = "promise 5";
        Taped x = new Taped();
        due(commands(x, ""), 0);
        due(x.undo(), 0);
        due(commands(x, " transmit9 ;send  hello; wait 5;drift 150;dog 50 5 0;chase 0;"), 6);
        due(x.append(0, 0, 0, 0, 0), 20);
        due(x.clock(), 175);
        due(x.drift(), 50);
        due(x.messageCount(), 2);
        due(x.messageLength(1), 5);
        due(x.frameByte(2, 1), 'o');
        due(x.dogCount(), 1);
        due(x.isChewed(4), true);
        due(x.isChewed(5), false);
        due(x.undo(), 0);
        due(x.clock(), 0);
        due(x.messageCount(), 1);
        due(x.drift(), 0);
        // Each of these stops before its second command.
        due(commands(x, "cancel 0;cancel 0;wait 1;"), 1);
        due(x.clock(), 0);
        due(commands(x, "resend 0;resend 1;wait 1;"), 1);
        due(x.messageState(0), MatchboxModem.LOST);
        due(commands(x, "wait 1;cancel 11;wait 1;"), 1);
        due(x.clock(), 1);
        due(commands(x, "wait 1;chase 1;wait 1;"), 1);
        due(commands(x, "dog 9 8 0;dog 9 8 999;dog 9 8 0;wait 1;"), 2);
        due(commands(x, "resend 5;"), 0);
        due(commands(x, "send a;".repeat(11)), 10);
        due(commands(x, "cancel 2;resend 2;"), 1);
        due(x.messageCount(), 12);
        due(x.undo(), 7);
        Taped y = atTick(900000);
        due(commands(y, "transmit 1;transmit 1;"), 1);
        due(commands(y, "transmit 1;wait 1;"), 0);
        due(commands(y, "drift 1;wait 1;"), 1);
        // A word to send may be the name of a command, and a number may have zeros in front.
        due(commands(new Taped(), "send send;send wait;send abcdefghijklmnop;wait 001;wait 999;"), 5);
        due(commands(new Taped(), "wait 1;".repeat(30)), 30);
    }

    private static void promise5Errors() {
        badCommands("bark;", 1, 0);
        badCommands("modem 1 1 1 1;", 1, 0);
        badCommands(";", 1, 0);
        badCommands("7", 1, 0);
        badCommands("wait", 1, 4);
        badCommands("wait 1", 1, 6);
        badCommands("wait 1 wait", 1, 7);
        badCommands("wait 1;undo;", 1, 7);
        badCommands("wait x;", 1, 5);
        badCommands("wait 0;", 2, 5);
        badCommands("wait 1000;", 1, 5);
        badCommands("send 5;", 1, 5);
        badCommands("send;", 1, 4);
        badCommands("send A;", 1, 5);
        badCommands("send abcdefghijklmnopq;", 3, 5);
        badCommands("send abc5;", 1, 8);
        badCommands("transmit 0;", 2, 9);
        badCommands("transmit 61;", 2, 9);
        badCommands("cancel 12;", 2, 7);
        badCommands("resend 12;", 2, 7);
        badCommands("drift 0;", 2, 6);
        badCommands("drift 200;", 2, 6);
        badCommands("dog 1 1 1;", 2, 4);
        badCommands("dog 50 50 0;", 2, 7);
        badCommands("dog 50 0 0;", 2, 7);
        badCommands("dog 50 1 1000;", 1, 9);
        badCommands("dog 50 1;", 1, 8);
        badCommands("chase 3;", 2, 6);
        badCommands("wait 1;".repeat(30) + " wait", 3, 211);
        badCommands("wait 1;".repeat(30) + "send", 3, 210);
        badCommands("wait 1;".repeat(30) + "waits", 1, 210);
        badCommands("wait 1;".repeat(30) + "1", 1, 210);
        badCommands("wait 1;drift 199;send x;!", 1, 24);
    }

    private static void promises6And7() {
        topic = "promise 6 and 7";
        Taped x = new Taped();
        due(x.errorCode(), 0);
        due(x.errorPosition(), NONE);
        put(x, "wait 0;");
        boolean threw = false;
        try {
            x.executeCommands();
        } catch (IllegalArgumentException e) {
            threw = true;
        }
        due(threw, true);
        due(x.errorCode(), MatchboxModem.RANGE_ERROR);
        due(x.errorPosition(), 5);
        x.waitTicks(1);
        x.undo();
        x.save();
        x.restore();
        due(x.errorCode(), MatchboxModem.RANGE_ERROR);
        due(x.errorPosition(), 5);
        commands(x, "chase 2;");
        due(x.errorCode(), 0);
        due(x.errorPosition(), NONE);
        put(x, "x");
        threw = false;
        try {
            x.load();
        } catch (IllegalArgumentException e) {
            threw = true;
        }
        due(threw, true);
        due(x.errorCode(), MatchboxModem.SYNTAX_ERROR);
        due(x.errorPosition(), 0);
        put(x, "modem 1 1 1 1;");
        x.load();
        due(x.errorCode(), 0);
        due(x.errorPosition(), NONE);
    }

    private static void dogsAndTime() {
        topic = "promise 8";
        Taped x = new Taped();
        due(x.clock(), 0);
        x.transmit(1);
        due(x.clock(), 80);
        x.transmit(1);
        due(x.clock(), 170);
        x.waitTicks(5);
        due(x.clock(), 175);
        topic = "promise 9";
        due(x.bitTime(), 2);
        due(with("modem 7 1 1 1;").bitTime(), 7);
        topic = "promise 10";
        due(with("modem 7 1 1 1;").drift(), -99);
        x.setDrift(-7);
        due(x.drift(), -7);
        topic = "promise 11";
        due(x.dogCount(), 1);
        x.removeDog(0);
        due(x.dogCount(), 0);
        due(with("modem 1 1 1 1;dog 2 1 0;dog 2 1 0;dog 2 1 0;").dogCount(), 3);
        promise12();
        promise13();
        promise14();
        promise15();
    }

    private static void promise12() {
        topic = "promise 12";
        Taped x = with("modem 1 100 1 1;dog 10 3 5;dog 999 1 7;");
        due(x.isChewed(0), false);
        due(x.isChewed(4), false);
        due(x.isChewed(5), true);
        due(x.isChewed(7), true);
        due(x.isChewed(8), false);
        due(x.isChewed(15), true);
        due(x.isChewed(1006), true);
        due(x.isChewed(999999), false);
        due(x.isChewed(999997), true);
        Taped y = with("modem 1 100 1 1;dog 999 1 0;");
        due(y.isChewed(999999), true);
        due(y.isChewed(998), false);
        due(y.isChewed(999), true);
        refused(x, ARGUMENT, () -> x.isChewed(-1) ? 1 : 0);
        refused(x, ARGUMENT, () -> x.isChewed(1000000) ? 1 : 0);
        refused(x, ARGUMENT, () -> x.isChewed(Integer.MIN_VALUE) ? 1 : 0);
    }

    private static void promise13() {
        topic = "promise 13";
        Taped x = with("modem 1 100 1 1;dog 999 1 999;");
        due(x.nextChewedTick(0), 999);
        due(x.nextChewedTick(999), 999);
        due(x.nextChewedTick(1000), 1998);
        due(x.nextChewedTick(999999), 999999);
        due(with("modem 1 100 1 1;dog 997 1 0;").nextChewedTick(999999), 997 * 1004);
        due(with("modem 1 100 1 1;").nextChewedTick(5), NONE);
        Taped y = with("modem 1 100 1 1;dog 999 998 999;");
        due(y.nextChewedTick(0), 999);
        due(y.nextChewedTick(1997), 1998);
        refused(x, ARGUMENT, () -> x.nextChewedTick(-1));
        refused(x, ARGUMENT, () -> x.nextChewedTick(1000000));
    }

    private static void promise14() {
        topic = "promise 14";
        Taped x = new Taped();
        due(x.nextQuietTick(20), 0);
        due(x.nextQuietTick(21), 50);
        due(x.nextQuietTick(170), 50);
        due(x.nextQuietTick(171), NONE);
        x.waitTicks(20);
        due(x.nextQuietTick(1), 50);
        x.waitTicks(31);
        due(x.nextQuietTick(169), 51);
        due(x.nextQuietTick(170), 250);
        refused(x, ARGUMENT, () -> x.nextQuietTick(0));
        refused(x, ARGUMENT, () -> x.nextQuietTick(501));
        refused(x, ARGUMENT, () -> x.nextQuietTick(-1));
        Taped y = with("modem 1 100 1 1;");
        y.waitTicks(7);
        due(y.nextQuietTick(500), 7);
        // Both dogs pause only in the multiples of 667 and of 87, less 1: together first in 2001 - 1.
        due(with("modem 1 100 1 1;dog 667 666 0;dog 87 86 0;").nextQuietTick(1), 2000);
        // The same with the multiples of 91 and of 22: first in 2002 - 1.
        Taped z = with("modem 1 100 1 1;dog 91 90 0;dog 22 21 0;");
        due(z.nextQuietTick(1), NONE);
        z.waitTicks(1);
        due(z.nextQuietTick(1), 2001);
        due(z.nextQuietTick(2), NONE);
        // Pauses of two ticks: the second one may be beyond the 2000 ticks.
        due(with("modem 1 100 1 1;dog 667 665 1;dog 87 85 1;").nextQuietTick(2), 2000);
        due(with("modem 1 100 1 1;dog 91 89 1;dog 22 20 1;").nextQuietTick(2), NONE);
    }

    private static void promise15() {
        topic = "promise 15";
        Taped x = new Taped();
        due(x.checksum(), 0);
        put(x, "hi");
        due(x.checksum(), 69);
        due(x.checksum(), 69);
        due(x.truncate(2), 2);
        x.truncate(0);
        due(x.checksum(), 0);
        // The usual check value of this checksum.
        put(x, "123456789");
        due(x.checksum(), 0xf4);
        x.truncate(0);
        x.append(0x01800000, 0, 0, 0, 0);
        x.truncate(1);
        due(x.checksum(), 7);
        x.truncate(0);
        x.append(0x80000000, 0, 0, 0, 0);
        x.truncate(1);
        due(x.checksum(), 0x89);
    }

    private static void messagesAndFrames() {
        topic = "promise 16";
        Taped x = with("modem 1 100 1 2;");
        due(x.messageCount(), 0);
        due(send(x, "abcdefghijklmnop"), 0);
        due(x.messageCount(), 1);
        due(send(x, "q"), 1);
        due(x.messageCount(), 2);
        topic = "promise 17";
        due(x.messageLength(0), 16);
        due(x.messageLength(1), 1);
        refused(x, INDEX, () -> x.messageLength(2));
        refused(x, INDEX, () -> x.messageLength(-1));
        promise18();
        topic = "promise 19";
        due(x.firstFrame(0), 0);
        due(x.firstFrame(1), 4);
        refused(x, INDEX, () -> x.firstFrame(2));
        refused(x, INDEX, () -> x.firstFrame(-1));
        topic = "promise 20";
        due(x.frameCount(), 5);
        due(with("modem 1 100 1 1;").frameCount(), 0);
        Taped full = with("modem 1 100 1 1;");
        commands(full, "send abcdefghijklmnop;".repeat(12));
        due(full.frameCount(), 48);
        topic = "promise 21";
        due(x.frameLength(0), 6);
        due(x.frameLength(4), 3);
        refused(x, INDEX, () -> x.frameLength(5));
        refused(x, INDEX, () -> x.frameLength(-1));
        promise22(x, full);
        promise23();
        promise24And25();
        promises26To28();
    }

    private static void promise18() {
        topic = "promise 18";
        Taped x = with("modem 1 100 1 1;dog 999 1 0;");
        send(x, "abcde");
        due(x.messageState(0), MatchboxModem.PENDING);
        x.transmit(1);
        due(x.frameState(0), MatchboxModem.LOST);
        due(x.messageState(0), MatchboxModem.PENDING);
        x.transmit(1);
        due(x.frameState(1), MatchboxModem.ACKNOWLEDGED);
        due(x.messageState(0), MatchboxModem.LOST);
        send(x, "abcde");
        x.transmit(1);
        due(x.messageState(1), MatchboxModem.PENDING);
        x.transmit(1);
        due(x.messageState(1), MatchboxModem.DELIVERED);
        refused(x, INDEX, () -> x.messageState(2));
        refused(x, INDEX, () -> x.messageState(-1));
    }

    private static void promise22(Taped x, Taped full) {
        topic = "promise 22";
        due(x.frameByte(0, 0), 4);
        due(x.frameByte(3, 0), 52);
        due(x.frameByte(4, 0), 65);
        due(x.frameByte(0, 1), 'a');
        due(x.frameByte(0, 4), 'd');
        due(x.frameByte(3, 4), 'p');
        due(x.frameByte(4, 1), 'q');
        due(x.frameByte(4, 3), NONE);
        due(x.frameByte(0, 6), NONE);
        due(x.frameByte(0, -1), NONE);
        due(x.frameByte(0, Integer.MAX_VALUE), NONE);
        due(full.frameByte(15, 0), 244);
        due(full.frameByte(16, 0), 4);
        due(full.frameByte(47, 0), 244);
        due(new Taped().frameByte(0, 3), 147);
        refused(x, INDEX, () -> x.frameByte(5, 0));
        refused(x, INDEX, () -> x.frameByte(-1, 0));
        // The checksum is that of the bytes before it.
        full.append(0x04616263, 0x64000000, 0, 0, 0);
        full.truncate(5);
        due(full.frameByte(0, 5), full.checksum());
    }

    private static void promise23() {
        topic = "promise 23";
        Taped x = new Taped();
        String bits = "00000010" + "01101000" + "01101001" + "10010011";
        for (int i = 0; i < 32; i++) {
            due(x.frameBit(0, i), bits.charAt(i) - '0');
        }
        due(x.frameBit(0, 32), NONE);
        due(x.frameBit(0, -1), NONE);
        due(x.frameBit(0, Integer.MIN_VALUE), NONE);
        refused(x, INDEX, () -> x.frameBit(1, 0));
        refused(x, INDEX, () -> x.frameBit(-1, 0));
    }

    private static void promise24And25() {
        topic = "promise 24 and 25";
        Taped x = with("modem 1 100 1 2;dog 999 30 0;");
        send(x, "abcde");
        due(x.frameState(0), MatchboxModem.QUEUED);
        due(x.attemptsOf(0), 0);
        x.transmit(1);
        due(x.frameState(0), MatchboxModem.QUEUED);
        due(x.attemptsOf(0), 1);
        x.transmit(1);
        due(x.frameState(0), MatchboxModem.ACKNOWLEDGED);
        due(x.attemptsOf(0), 2);
        due(x.attemptsOf(1), 0);
        x.addDog(2, 1, 0);
        x.transmit(9);
        due(x.frameState(1), MatchboxModem.LOST);
        due(x.attemptsOf(1), 2);
        refused(x, INDEX, () -> x.frameState(2));
        refused(x, INDEX, () -> x.frameState(-1));
        refused(x, INDEX, () -> x.attemptsOf(2));
        refused(x, INDEX, () -> x.attemptsOf(-1));
        Taped y = with("modem 1 100 1 9;dog 2 1 0;");
        send(y, "a");
        due(y.transmit(60), 9);
        due(y.attemptsOf(0), 9);
    }

    private static void promises26To28() {
        topic = "promise 26 to 28";
        // The inverted bits 8, 14, 15 and 16 make a frame that is readable, but another one.
        Taped x = with("modem 1 100 1 1;dog 999 1 8;dog 999 3 14;");
        send(x, "hi");
        due(x.hasArrived(0), false);
        due(x.isIntact(0), false);
        due(x.arrivedByte(0, 0), NONE);
        x.transmit(1);
        due(x.frameState(0), MatchboxModem.ACKNOWLEDGED);
        due(x.hasArrived(0), true);
        due(x.isIntact(0), false);
        due(x.arrivedByte(0, 0), 2);
        due(x.arrivedByte(0, 1), 104 ^ 0x83);
        due(x.arrivedByte(0, 2), 105 ^ 0x80);
        due(x.arrivedByte(0, 3), 147);
        due(x.arrivedByte(0, 4), NONE);
        due(x.arrivedByte(0, -1), NONE);
        due(x.frameByte(0, 1), 104);
        send(x, "hi");
        x.transmit(1);
        due(x.isIntact(1), true);
        due(x.arrivedByte(1, 3), x.frameByte(1, 3));
        refused(x, INDEX, () -> x.hasArrived(2) ? 1 : 0);
        refused(x, INDEX, () -> x.hasArrived(-1) ? 1 : 0);
        refused(x, INDEX, () -> x.isIntact(2) ? 1 : 0);
        refused(x, INDEX, () -> x.isIntact(-1) ? 1 : 0);
        refused(x, INDEX, () -> x.arrivedByte(2, 0));
        refused(x, INDEX, () -> x.arrivedByte(-1, 0));
        // The inverted bits 3, 9, 10 and 11 change the sequence number from 1 to 0: a false duplicate.
        Taped y = with("modem 1 100 1 2;dog 999 1 59;dog 999 3 65;");
        send(y, "abcdefgh");
        y.transmit(2);
        due(y.messageState(0), MatchboxModem.DELIVERED);
        due(y.duplicates(), 1);
        due(y.hasArrived(1), false);
        due(y.isIntact(1), false);
        arrivesTwice();
        // Lost, but arrived: only the acknowledgement was lost.
        Taped z = with("modem 1 100 1 1;dog 999 1 24;");
        send(z, "a");
        z.transmit(1);
        due(z.frameState(0), MatchboxModem.LOST);
        due(z.isIntact(0), true);
    }

    private static void arrivesTwice() {
        // With another sequence number at first, and a lost acknowledgement, the frame arrives again.
        Taped x = with("modem 1 100 1 2;dog 999 1 3;dog 999 3 9;dog 999 1 48;");
        send(x, "abcd");
        x.transmit(1);
        due(x.hasArrived(0), true);
        due(x.isIntact(0), false);
        due(x.arrivedByte(0, 0), 20);
        due(x.arrivedByte(0, 1), 'a' ^ 0x70);
        due(x.lostAcknowledgements(), 1);
        x.transmit(1);
        due(x.isIntact(0), true);
        due(x.arrivedByte(0, 0), 4);
        due(x.duplicates(), 0);
        due(x.attemptImbalance(), 0);
    }

    private static void receiver() {
        promises29And30();
        promise31();
        promises32And33();
        promise34();
        promise35();
        promise36();
    }

    private static void promises29And30() {
        topic = "promise 29 and 30";
        Taped x = new Taped();
        due(x.safeBits(), 100);
        for (int i = 0; i < 100; i++) {
            due(x.takenFrom(i), i);
        }
        x.setDrift(50);
        due(x.takenFrom(9), 9);
        due(x.takenFrom(10), 11);
        due(x.takenFrom(99), 104);
        due(x.safeBits(), 10);
        x.setDrift(-50);
        due(x.takenFrom(9), 9);
        due(x.takenFrom(10), 9);
        due(x.safeBits(), 10);
        x.setDrift(99);
        due(x.takenFrom(0), 0);
        due(x.takenFrom(99), 109);
        due(x.safeBits(), 5);
        x.setDrift(-99);
        due(x.takenFrom(99), 89);
        due(x.safeBits(), 5);
        x.setDrift(5);
        due(x.safeBits(), 100);
        x.setDrift(6);
        due(x.safeBits(), 83);
        refused(x, ARGUMENT, () -> x.takenFrom(100));
        refused(x, ARGUMENT, () -> x.takenFrom(-1));
    }

    private static void promise31() {
        topic = "promise 31";
        Taped x = new Taped();
        due(x.receivedBit(0, 6, 50), 1);
        due(x.receivedBit(0, 7, 50), 0);
        due(x.receivedBit(0, 9, 0), 1);
        due(x.receivedBit(0, 10, 0), 0);
        due(x.receivedBit(0, 32, 0), NONE);
        due(x.receivedBit(0, -1, 0), NONE);
        due(x.receivedBit(0, 31, 50), 1);
        x.setDrift(50);
        // Bit 31 would come from beyond the end, bit 29 from the last but one (30).
        due(x.receivedBit(0, 31, 50), 0);
        due(x.receivedBit(0, 29, 50), x.frameBit(0, 30));
        due(x.receivedBit(0, 5, 50), 0);
        x.setDrift(-99);
        due(x.receivedBit(0, 7, 50), x.frameBit(0, 6));
        due(x.receivedBit(0, 7, 999999), 1 - (x.isChewed(999999) ? 1 : 0) == 1 ? x.receivedBit(0, 7, 50) : 0);
        refused(x, INDEX, () -> x.receivedBit(1, 0, -1));
        refused(x, INDEX, () -> x.receivedBit(-1, 0, 0));
        refused(x, ARGUMENT, () -> x.receivedBit(0, 0, -1));
        refused(x, ARGUMENT, () -> x.receivedBit(0, 99, 1000000));
    }

    private static void promises32And33() {
        topic = "promise 32 and 33";
        Taped x = new Taped();
        due(x.invertedBits(0, 0), 15);
        due(x.longestBurst(0, 0), 15);
        due(x.invertedBits(0, 50), 0);
        due(x.longestBurst(0, 50), 0);
        due(x.invertedBits(0, 49), 1);
        // The drift of the receiver does not matter on the cable.
        x.setDrift(99);
        due(x.invertedBits(0, 0), 15);
        Taped y = with("modem 3 100 1 1;dog 10 1 0;");
        send(y, "a");
        // Bits begin at 0, 3, .. 69; chewed are 0, 30 and 60.
        due(y.invertedBits(0, 0), 3);
        due(y.longestBurst(0, 0), 1);
        y.addDog(10, 4, 0);
        // Chewed are 0 to 3 of ten: bits 0, 1, 4, 7, 10, 11, 14, 17, 20, 21.
        due(y.invertedBits(0, 0), 10);
        due(y.longestBurst(0, 0), 2);
        Taped z = with("modem 1 100 1 1;dog 99 5 0;dog 99 3 21;");
        send(z, "a");
        due(z.longestBurst(0, 0), 5);
        due(z.longestBurst(0, 2), 3);
        // 999999 is a multiple of 99.
        due(z.longestBurst(0, 999999), 5);
        due(z.invertedBits(0, 999999), 8);
        refused(x, INDEX, () -> x.invertedBits(1, -1));
        refused(x, INDEX, () -> x.invertedBits(-1, 0));
        refused(x, ARGUMENT, () -> x.invertedBits(0, -1));
        refused(x, ARGUMENT, () -> x.invertedBits(0, 1000000));
        refused(x, INDEX, () -> x.longestBurst(1, -1));
        refused(x, INDEX, () -> x.longestBurst(-1, 0));
        refused(x, ARGUMENT, () -> x.longestBurst(0, -1));
        refused(x, ARGUMENT, () -> x.longestBurst(0, 1000000));
    }

    private static void promise34() {
        topic = "promise 34";
        Taped x = new Taped();
        due(x.wrongBits(0, 0), 15);
        due(x.wrongBits(0, 50), 0);
        x.setDrift(50);
        int count = 0;
        for (int i = 0; i < 32; i++) {
            int from = x.takenFrom(i);
            count += (from < 32 ? x.frameBit(0, from) : 0) == x.frameBit(0, i) ? 0 : 1;
        }
        due(count > 3, true);
        due(x.wrongBits(0, 50), count);
        refused(x, INDEX, () -> x.wrongBits(1, -1));
        refused(x, INDEX, () -> x.wrongBits(-1, 0));
        refused(x, ARGUMENT, () -> x.wrongBits(0, -1));
        refused(x, ARGUMENT, () -> x.wrongBits(0, 1000000));
    }

    private static void promise35() {
        topic = "promise 35";
        Taped x = withLostAcknowledgement();
        // Bits 0 to 23, acknowledgement 24 to 31; the dog chews in tick 24.
        due(x.resultAt(0, 0), MatchboxModem.ACKNOWLEDGEMENT_LOST);
        due(x.resultAt(0, 1), MatchboxModem.UNREADABLE);
        due(x.resultAt(0, 24), MatchboxModem.UNREADABLE);
        due(x.resultAt(0, 25), MatchboxModem.SUCCESS);
        // Tick 1023 is the next one: the last tick of an acknowledgement from 1016 on.
        due(x.resultAt(0, 1023 - 31), MatchboxModem.ACKNOWLEDGEMENT_LOST);
        due(x.resultAt(0, 1023 - 32), MatchboxModem.SUCCESS);
        // Beyond tick 999999, too: the dog chews in tick 1000023.
        due(x.resultAt(0, 999999), MatchboxModem.ACKNOWLEDGEMENT_LOST);
        due(x.resultAt(0, 999991), MatchboxModem.SUCCESS);
        x.setDrift(99);
        due(x.resultAt(0, 25), MatchboxModem.UNREADABLE);
        x.setDrift(20);
        due(x.resultAt(0, 25), MatchboxModem.SUCCESS);
        // Only the first tick of each bit of the acknowledgement counts.
        Taped y = with("modem 2 100 1 1;dog 999 1 51;");
        send(y, "a");
        due(y.resultAt(0, 0), MatchboxModem.SUCCESS);
        due(y.resultAt(0, 1), MatchboxModem.ACKNOWLEDGEMENT_LOST);
        refused(x, INDEX, () -> x.resultAt(1, -1));
        refused(x, INDEX, () -> x.resultAt(-1, 0));
        refused(x, ARGUMENT, () -> x.resultAt(0, -1));
        refused(x, ARGUMENT, () -> x.resultAt(0, 1000000));
    }

    private static void promise36() {
        topic = "promise 36";
        Taped x = new Taped();
        due(x.wouldPass(0, 263, 8), true);
        due(x.wouldPass(0, 263, 23), true);
        due(x.wouldPass(0, 1, 8), false);
        due(x.wouldPass(0, 65535, 16), false);
        // The checksum would hold, but the number of bytes in the header would not.
        due(x.wouldPass(0, 263, 0), false);
        // A change of the sequence number alone, with its checksum.
        due(x.wouldPass(0, 0x1070, 3), true);
        due(x.wouldPass(0, 263 * 2, 8), true);
        // Dogs and drift do not matter.
        x.setDrift(99);
        x.addDog(2, 1, 0);
        due(x.wouldPass(0, 263, 8), true);
        refused(x, ARGUMENT, () -> x.wouldPass(0, 263, 24) ? 1 : 0);
        // The last digit of the pattern is a 0, but needs a bit as well.
        refused(x, ARGUMENT, () -> x.wouldPass(0, 2, 31) ? 1 : 0);
        due(x.wouldPass(0, 1, 31), false);
        due(x.wouldPass(0, 32768, 16), false);
        refused(x, ARGUMENT, () -> x.wouldPass(0, 32768, 17) ? 1 : 0);
        refused(x, ARGUMENT, () -> x.wouldPass(0, 1, 32) ? 1 : 0);
        refused(x, ARGUMENT, () -> x.wouldPass(0, 1, -1) ? 1 : 0);
        refused(x, ARGUMENT, () -> x.wouldPass(0, 1, Integer.MAX_VALUE) ? 1 : 0);
        refused(x, ARGUMENT, () -> x.wouldPass(0, 0, 0) ? 1 : 0);
        refused(x, ARGUMENT, () -> x.wouldPass(0, 65536, 0) ? 1 : 0);
        refused(x, ARGUMENT, () -> x.wouldPass(0, -1, 0) ? 1 : 0);
        refused(x, INDEX, () -> x.wouldPass(1, 0, -1) ? 1 : 0);
        refused(x, INDEX, () -> x.wouldPass(-1, 1, 0) ? 1 : 0);
    }

    private static void simulations() {
        promise37();
        promise38();
        promises41And42();
    }

    private static void promise37() {
        topic = "promise 37";
        Taped x = new Taped();
        due(x.earliestSuccess(0), 50);
        x.waitTicks(50);
        due(x.earliestSuccess(0), 0);
        x.waitTicks(100);
        due(x.earliestSuccess(0), 100);
        refused(x, INDEX, () -> x.earliestSuccess(1));
        refused(x, INDEX, () -> x.earliestSuccess(-1));
        Taped y = with("modem 1 100 1 1;dog 999 1 599;dog 20 1 0;");
        send(y, "a");
        due(y.earliestSuccess(0), NONE);
        y.removeDog(1);
        y.addDog(900, 580, 0);
        // Quiet but for tick 599: from 600 on.
        due(y.earliestSuccess(0), 600);
        y.undo();
        y.addDog(900, 601, 0);
        due(y.earliestSuccess(0), NONE);
        y.waitTicks(1);
        due(y.earliestSuccess(0), 600);
        y.transmit(1);
        y.undo();
        due(y.resultAt(0, 600), MatchboxModem.UNREADABLE);
        due(y.resultAt(0, 601), MatchboxModem.SUCCESS);
    }

    private static void promise38() {
        topic = "promise 38";
        Taped x = new Taped();
        due(x.bestBitTime(0), NONE);
        x.transmit(1);
        due(x.bestBitTime(0), 1);
        due(x.bitTime(), 2);
        // Bits 0 to 31 in ticks of 9, chewed in all ticks but the multiples of 9.
        Taped y = with("modem 1 100 1 1;dog 9 8 1;");
        send(y, "a");
        due(y.bestBitTime(0), 9);
        Taped z = with("modem 1 100 1 1;dog 4 1 2;");
        send(z, "a");
        // Even bit times meet the tick 2, 6, 10, .. or not: 4 never does.
        due(z.bestBitTime(0), 4);
        z.setDrift(99);
        due(z.bestBitTime(0), NONE);
        refused(x, INDEX, () -> x.bestBitTime(1));
        refused(x, INDEX, () -> x.bestBitTime(-1));
    }

    private static void promises41And42() {
        topic = "promise 41 and 42";
        Taped x = new Taped();
        due(x.attemptsUntilIdle(), 2);
        due(x.clockWhenIdle(), 170);
        asked(x, 2, x::attemptsUntilIdle);
        asked(x, 170, x::clockWhenIdle);
        x.transmit(1);
        due(x.attemptsUntilIdle(), 1);
        due(x.clockWhenIdle(), 170);
        x.transmit(1);
        due(x.attemptsUntilIdle(), 0);
        due(x.clockWhenIdle(), 170);
        x.waitTicks(3);
        due(x.clockWhenIdle(), 173);
        due(with("modem 1 100 1 1;").attemptsUntilIdle(), 0);
        // 12 messages of 4 frames, each lost after 9 attempts: beyond tick 999999.
        Taped y = with("modem 9 100 99 9;dog 2 1 0;");
        commands(y, "send abcdefghijklmnop;".repeat(12));
        due(y.attemptsUntilIdle(), 432);
        due(y.clockWhenIdle(), 48 * (9 * 504 + 255 * 99));
        due(y.clock(), 0);
        due(y.undo(), 0);
    }

    private static void queueAndCounters() {
        promises39And40();
        promises43To48();
        promises49And50();
        promises51And52();
    }

    private static void promises39And40() {
        topic = "promise 39 and 40";
        Taped x = with("modem 2 100 7 4;dog 2 1 0;dog 2 1 1;");
        due(x.pendingFrame(), NONE);
        due(x.napEnd(), 0);
        send(x, "abcdefgh");
        due(x.pendingFrame(), 0);
        x.transmit(1);
        due(x.clock(), 112);
        due(x.napEnd(), 112 + 7);
        x.transmit(1);
        due(x.clock(), 231);
        due(x.napEnd(), 231 + 14);
        x.transmit(1);
        due(x.clock(), 357);
        due(x.napEnd(), 357 + 28);
        due(x.pendingFrame(), 0);
        x.transmit(1);
        // The last attempt begins no nap.
        due(x.clock(), 497);
        due(x.napEnd(), 385);
        due(x.pendingFrame(), 1);
        x.transmit(1);
        due(x.napEnd(), 609 + 7);
        x.cancelMessage(0);
        due(x.pendingFrame(), NONE);
        due(x.napEnd(), 616);
        // The nap goes on for the next message.
        send(x, "a");
        x.removeDog(0);
        x.removeDog(0);
        x.transmit(1);
        due(x.clock(), 616 + 64);
        due(x.napEnd(), 616);
        due(x.nappedTicks(), 7 + 14 + 28 + 7);
    }

    private static void promises43To48() {
        topic = "promise 43 to 48";
        Taped x = withLostAcknowledgement();
        due(x.attempts() + x.duplicates() + x.unreadableFrames() + x.lostAcknowledgements(), 0);
        due(x.nappedTicks() + x.bitsSent(), 0);
        x.transmit(1);
        due(x.attempts(), 1);
        due(x.lostAcknowledgements(), 1);
        due(x.duplicates(), 0);
        due(x.unreadableFrames(), 0);
        due(x.nappedTicks(), 0);
        due(x.bitsSent(), 24);
        due(x.clock(), 32);
        due(x.napEnd(), 33);
        x.transmit(1);
        due(x.attempts(), 2);
        due(x.lostAcknowledgements(), 1);
        due(x.duplicates(), 1);
        due(x.nappedTicks(), 1);
        due(x.bitsSent(), 48);
        due(x.clock(), 65);
        due(x.frameState(0), MatchboxModem.ACKNOWLEDGED);
        Taped y = new Taped();
        y.transmit(1);
        due(y.unreadableFrames(), 1);
        due(y.lostAcknowledgements(), 0);
        y.waitTicks(4);
        y.transmit(1);
        due(y.nappedTicks(), 6);
        due(y.unreadableFrames(), 1);
        due(y.bitsSent(), 64);
        // A wait that is longer than the nap leaves nothing to nap.
        Taped z = new Taped();
        z.transmit(1);
        z.waitTicks(15);
        z.transmit(1);
        due(z.nappedTicks(), 0);
        // Two frames of one sequence number, 16 apart, with only a give-up between them.
        Taped w = with("modem 1 100 1 1;");
        send(w, "a");
        w.transmit(1);
        commands(w, "send abcdefghijklmnop;send abcdefghijklmnop;send abcdefghijklmnop;send abcdefghijkl;"
                + "cancel 1;cancel 2;cancel 3;cancel 4;send a;");
        due(w.frameByte(16, 0), 1);
        w.transmit(1);
        due(w.duplicates(), 1);
        due(w.hasArrived(16), false);
        due(w.frameState(16), MatchboxModem.ACKNOWLEDGED);
    }

    private static void promises49And50() {
        topic = "promise 49 and 50";
        Taped x = withLostAcknowledgement();
        x.transmit(1);
        due(x.attemptImbalance(), 0);
        due(x.clockImbalance(), 0);
        x.waitTicks(9);
        send(x, "abcdefgh");
        x.addDog(40, 1, 0);
        x.transmit(9);
        due(x.attemptImbalance(), 0);
        due(x.clockImbalance(), 0);
        x.undo();
        x.undo();
        due(x.attemptImbalance(), 0);
        due(x.clockImbalance(), 0);
    }

    private static void promises51And52() {
        topic = "promise 51";
        Taped x = withLostAcknowledgement();
        due(Float.floatToIntBits(x.errorRate()), Float.floatToIntBits(0.0f));
        x.transmit(1);
        due(Float.floatToIntBits(x.errorRate()), Float.floatToIntBits(1.0f));
        x.transmit(1);
        due(Float.floatToIntBits(x.errorRate()), Float.floatToIntBits(0.5f));
        Taped y = new Taped();
        y.transmit(9);
        commands(y, "send abcde;transmit 60;");
        float rate = (float) (y.unreadableFrames() + y.lostAcknowledgements()) / (float) y.attempts();
        due(y.attempts(), 6);
        due(Float.floatToIntBits(y.errorRate()), Float.floatToIntBits(rate));
        topic = "promise 52";
        due(Double.doubleToLongBits(with("modem 1 1 1 1;").throughput()), Double.doubleToLongBits(0.0));
        due(Double.doubleToLongBits(x.throughput()), Double.doubleToLongBits(1.0 / 65.0));
        due(Double.doubleToLongBits(y.throughput()), Double.doubleToLongBits(7.0 / 542.0));
        x.waitTicks(3);
        send(x, "abcd");
        due(Double.doubleToLongBits(x.throughput()), Double.doubleToLongBits(1.0 / 68.0));
    }

    private static void operations() {
        promise53();
        promise54();
        promise55();
        promise56();
        promise57();
        promise58();
        promises59And60();
    }

    private static void promise53() {
        topic = "promise 53";
        Taped x = with("modem 1 100 1 1;");
        refused(x, ARGUMENT, x::sendMessage);
        put(x, "abcdefghijklmnopq");
        refused(x, ARGUMENT, x::sendMessage);
        due(x.truncate(16), 16);
        due(x.sendMessage(), 0);
        refused(x, ARGUMENT, () -> x.truncate(1));
        for (int i = 1; i < 12; i++) {
            due(send(x, "a"), i);
        }
        refused(x, ARGUMENT, x::sendMessage);
        put(x, "b");
        refused(x, STATE, x::sendMessage);
        due(x.truncate(1), 1);
        put(x, "abcdefghijklmnopq");
        refused(x, ARGUMENT, x::sendMessage);
        due(x.undo(), 7);
        due(x.messageCount(), 11);
    }

    private static void promise54() {
        topic = "promise 54";
        Taped x = with("modem 1 100 1 2;");
        due(x.transmit(60), 0);
        send(x, "abcdefghijklmnop");
        due(x.transmit(1), 1);
        due(x.transmit(2), 2);
        due(x.transmit(60), 1);
        due(x.clock(), 224);
        refused(x, ARGUMENT, () -> x.transmit(0));
        refused(x, ARGUMENT, () -> x.transmit(61));
        refused(x, ARGUMENT, () -> x.transmit(-1));
        Taped y = atTick(900000);
        due(y.clock(), 900000);
        due(y.transmit(1), 1);
        due(y.clock(), 900504);
        refused(y, ARGUMENT, () -> y.transmit(0));
        refused(y, STATE, () -> y.transmit(1));
        refused(y, STATE, () -> y.waitTicks(1));
        refused(y, ARGUMENT, () -> y.waitTicks(0));
        // Simulations go on beyond that.
        due(y.attemptsUntilIdle(), 17);
        due(y.undo(), 7);
        due(y.clock(), 900000);
    }

    private static void promise55() {
        topic = "promise 55";
        Taped x = with("modem 1 100 1 2;");
        send(x, "abcdefghijklmnop");
        send(x, "abcde");
        x.transmit(1);
        due(x.cancelMessage(0), 3);
        due(x.frameState(0), MatchboxModem.ACKNOWLEDGED);
        due(x.frameState(1), MatchboxModem.LOST);
        due(x.frameState(3), MatchboxModem.LOST);
        due(x.frameState(4), MatchboxModem.QUEUED);
        due(x.messageState(0), MatchboxModem.LOST);
        due(x.messageState(1), MatchboxModem.PENDING);
        due(x.clock(), 56);
        refused(x, STATE, () -> x.cancelMessage(0));
        refused(x, INDEX, () -> x.cancelMessage(2));
        refused(x, INDEX, () -> x.cancelMessage(-1));
        x.transmit(9);
        refused(x, STATE, () -> x.cancelMessage(1));
        due(x.undo() + x.undo(), 7);
        due(x.messageState(0), MatchboxModem.PENDING);
    }

    private static void promise56() {
        topic = "promise 56";
        Taped x = with("modem 1 100 1 2;");
        send(x, "abcdefghijklmno");
        refused(x, STATE, () -> x.resendMessage(0));
        refused(x, INDEX, () -> x.resendMessage(1));
        refused(x, INDEX, () -> x.resendMessage(-1));
        x.cancelMessage(0);
        put(x, "xyz");
        due(x.resendMessage(0), 1);
        due(x.truncate(3), 3);
        due(x.messageLength(1), 15);
        due(x.firstFrame(1), 4);
        due(x.frameCount(), 8);
        for (int i = 0; i < 15; i++) {
            due(x.frameByte(4 + i / 4, 1 + i % 4), 'a' + i);
        }
        due(x.frameByte(4, 0), 68);
        due(x.frameByte(7, 0), 115);
        due(x.frameLength(7), 5);
        due(x.frameState(4), MatchboxModem.QUEUED);
        due(x.attemptsOf(4), 0);
        due(x.messageState(0), MatchboxModem.LOST);
        x.transmit(60);
        due(x.messageState(1), MatchboxModem.DELIVERED);
        due(x.isIntact(7), true);
        refused(x, STATE, () -> x.resendMessage(1));
        for (int i = 2; i < 12; i++) {
            due(x.resendMessage(0), i);
        }
        refused(x, STATE, () -> x.resendMessage(0));
        refused(x, INDEX, () -> x.resendMessage(12));
        due(x.frameCount(), 48);
    }

    private static void promise57() {
        topic = "promise 57";
        Taped x = new Taped();
        due(x.waitTicks(1), 1);
        due(x.waitTicks(999), 1000);
        refused(x, ARGUMENT, () -> x.waitTicks(0));
        refused(x, ARGUMENT, () -> x.waitTicks(1000));
        refused(x, ARGUMENT, () -> x.waitTicks(-5));
        due(x.clockImbalance(), 0);
        Taped y = atTick(899995);
        refused(y, STATE, () -> y.waitTicks(6));
        due(y.waitTicks(5), 900000);
        refused(y, STATE, () -> y.waitTicks(1));
    }

    private static void promise58() {
        topic = "promise 58";
        Taped x = new Taped();
        due(x.setDrift(99), 0);
        due(x.setDrift(-99), 99);
        due(x.setDrift(-99), -99);
        due(x.drift(), -99);
        refused(x, ARGUMENT, () -> x.setDrift(100));
        refused(x, ARGUMENT, () -> x.setDrift(-100));
        due(x.undo(), 2);
        due(x.drift(), -99);
        due(x.undo(), 1);
        due(x.drift(), 99);
    }

    private static void promises59And60() {
        topic = "promise 59 and 60";
        Taped x = with("modem 1 100 1 1;");
        due(x.addDog(2, 1, 0), 0);
        due(x.addDog(999, 998, 999), 1);
        refused(x, ARGUMENT, () -> x.addDog(1, 1, 0));
        refused(x, ARGUMENT, () -> x.addDog(1000, 1, 0));
        refused(x, ARGUMENT, () -> x.addDog(5, 0, 0));
        refused(x, ARGUMENT, () -> x.addDog(5, 5, 0));
        refused(x, ARGUMENT, () -> x.addDog(5, 1, -1));
        refused(x, ARGUMENT, () -> x.addDog(5, 1, 1000));
        due(x.addDog(10, 5, 1), 2);
        refused(x, STATE, () -> x.addDog(10, 5, 1));
        refused(x, ARGUMENT, () -> x.addDog(10, 10, 1));
        due(x.dogCount(), 3);
        refused(x, INDEX, () -> x.removeDog(3));
        refused(x, INDEX, () -> x.removeDog(-1));
        due(x.removeDog(0), 2);
        due(x.isChewed(0), false);
        due(x.isChewed(1), true);
        due(x.isChewed(999), true);
        refused(x, INDEX, () -> x.removeDog(2));
        // The last dog is now number 1: the dog of ticks 1 to 5 of ten.
        due(x.removeDog(0), 1);
        due(x.nextChewedTick(0), 1);
        due(x.nextChewedTick(6), 11);
        due(x.removeDog(0), 0);
        due(x.nextChewedTick(0), NONE);
        due(x.undo(), 5);
        due(x.nextChewedTick(0), 1);
        // The last one of three.
        Taped y = with("modem 1 100 1 1;dog 100 1 1;dog 100 1 2;dog 100 1 3;");
        due(y.removeDog(1), 2);
        due(y.isChewed(1), true);
        due(y.isChewed(2), false);
        due(y.isChewed(3), true);
        due(y.removeDog(1), 1);
        due(y.isChewed(1), true);
        due(y.isChewed(3), false);
    }

    private static void undoSaveOutput() {
        promise61();
        promise61WhatStays();
        promises62And63();
        promises64And65();
    }

    private static void promise61() {
        topic = "promise 61";
        Taped x = with("modem 1 100 1 2;dog 60 1 30;");
        String[] before = new String[12];
        for (int i = 0; i < 12; i++) {
            before[i] = state(x);
            switch (i % 6) {
                case 0: send(x, "abcdefg"); break;
                case 1: x.transmit(1 + i); break;
                case 2: x.setDrift(i); break;
                case 3: x.waitTicks(i); break;
                case 4: x.addDog(100, 50, i); break;
                default: commands(x, "chase 1;send abc;transmit 1;cancel 1;resend 1;"); break;
            }
        }
        for (int i = 11; i >= 4; i--) {
            due(x.undo(), i - 4);
            due(state(x), before[i]);
        }
        refused(x, STATE, x::undo);
        x.waitTicks(1);
        x.waitTicks(1);
        due(x.undo(), 1);
        x.setDrift(7);
        due(x.undo(), 1);
        due(x.undo(), 0);
        due(state(x), before[4]);
        refused(x, STATE, x::undo);
    }

    private static void promise61WhatStays() {
        // The input buffer, the error, the output and the saved state stay as they are.
        Taped x = new Taped();
        x.waitTicks(5);
        put(x, "wait 0;");
        boolean threw = false;
        try {
            x.executeCommands();
        } catch (IllegalArgumentException e) {
            threw = true;
        }
        due(threw, true);
        x.save();
        x.formatFrame(0, 50);
        put(x, "abc");
        due(x.undo(), 0);
        due(x.clock(), 0);
        due(x.errorCode(), 2);
        due(x.errorPosition(), 5);
        due(x.outputByte(34), 42);
        due(x.truncate(3), 3);
        due(x.restore(), 5);
        x.truncate(0);
        put(x, "abc");
        x.sendMessage();
        x.undo();
        due(x.messageCount(), 1);
        refused(x, ARGUMENT, () -> x.truncate(1));
        // The sequence number of the receiver is taken back as well: no duplicate the second time.
        Taped y = with("modem 1 100 1 1;");
        send(y, "a");
        y.transmit(1);
        y.undo();
        y.transmit(1);
        due(y.duplicates(), 0);
        due(y.hasArrived(0), true);
        y.undo();
        due(y.hasArrived(0), false);
    }

    private static void promises62And63() {
        topic = "promise 62 and 63";
        Taped x = new Taped();
        refused(x, STATE, x::restore);
        x.transmit(1);
        due(x.save(), 80);
        String before = state(x);
        due(x.undo(), 0);
        x.waitTicks(1);
        x.formatFrame(0, 50);
        put(x, "abc");
        due(x.restore(), 80);
        due(state(x), before);
        due(x.truncate(3), 3);
        due(x.outputByte(34), 42);
        refused(x, STATE, x::undo);
        commands(x, "send hello;transmit 60;dog 2 1 0;drift 5;");
        due(x.restore(), 80);
        due(state(x), before);
        x.transmit(5);
        due(x.save(), 170);
        // To save is no operation, and what it saved is not changed by later calls.
        due(x.undo(), 0);
        due(x.clock(), 80);
        x.transmit(1);
        x.cancelMessage(send(x, "abc"));
        due(x.restore(), 170);
        due(x.messageCount(), 1);
        due(x.frameState(0), MatchboxModem.ACKNOWLEDGED);
        // The receiver's sequence number is saved: a frame of that number is a duplicate afterwards.
        Taped y = withLostAcknowledgement();
        y.transmit(1);
        y.save();
        put(y, "modem 1 100 1 1;");
        y.load();
        y.restore();
        y.transmit(1);
        due(y.duplicates(), 1);
    }

    private static void promises64And65() {
        topic = "promise 64 and 65";
        Taped x = new Taped();
        due(x.outputByte(0), NONE);
        due(x.formatFrame(0, 50), 35);
        String want = "......*. .**.*... .**.*..* *..*..**";
        for (int i = 0; i < 35; i++) {
            due(x.outputByte(i), want.charAt(i));
        }
        due(x.outputByte(35), NONE);
        due(x.outputByte(-1), NONE);
        due(x.outputByte(Integer.MAX_VALUE), NONE);
        refused(x, INDEX, () -> x.formatFrame(1, -1));
        refused(x, INDEX, () -> x.formatFrame(-1, 0));
        refused(x, ARGUMENT, () -> x.formatFrame(0, -1));
        refused(x, ARGUMENT, () -> x.formatFrame(0, 1000000));
        // Bits 10 to 24 are inverted; the drift does not matter on the cable.
        x.setDrift(99);
        due(x.formatFrame(0, 0), 35);
        want = "......*. .*.*.*** *..*.**. ...*..**";
        for (int i = 0; i < 35; i++) {
            due(x.outputByte(i), want.charAt(i));
        }
        send(x, "abcd");
        due(x.formatFrame(1, 999999), 53);
        due(x.outputByte(52) == 46 || x.outputByte(52) == 42, true);
        due(x.outputByte(53), NONE);
        send(x, "a");
        due(x.formatFrame(2, 0), 26);
        due(x.outputByte(26), NONE);
    }
}
