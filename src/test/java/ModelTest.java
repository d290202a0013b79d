import java.lang.reflect.InvocationTargetException;
import java.lang.reflect.Method;
import java.util.ArrayList;
import java.util.Comparator;
import java.util.List;
import java.util.Random;

/** Long runs of calls, chosen by fixed seeds: the program and the model must answer the same. */
public final class ModelTest {
    private static final int RUNS = 400;
    // A text of the longest kind takes 27 calls: no object answers more than 512.
    private static final int CALLS = 485;
    private static final String[] GOOD = {"send a", "send hello", "send abcdefghijklmnop", "transmit 1", "transmit 60",
        "transmit 7", "cancel 0", "cancel 1", "cancel 11", "resend 0", "resend 2", "wait 1", "wait 999", "drift 100",
        "drift 104", "dog 50 5 0", "dog 300 20 7", "chase 0", "chase 1", "chase 2"};
    private static final String[] BAD = {"send abcdefghijklmnopq", "transmit 0", "transmit 61", "cancel 12", "resend 12",
        "wait 0", "wait 1000", "drift 0", "drift 200", "dog 9 9 1", "dog 1 1 1", "dog 9 1 1000", "chase 3", "bark", "wait",
        "send", "send 5", "3", "!"};
    private static final String[] CONFIGURATIONS = {"modem 1 100 1 2;", "modem 2 100 10 4;dog 200 30 20;",
        "modem 1 101 5 9;dog 97 3 0;", "modem 3 99 99 9;dog 2 1 0;", "modem 1 100 3 3;dog 61 1 3;dog 53 3 9;",
        "modem 9 100 99 9;dog 3 2 0;dog 999 998 999;dog 7 1 5;", "modem 1 100 1 1;dog 999 1 8;dog 999 3 14;",
        "modem 1 100 2 3;dog 59 1 3;dog 59 3 9;dog 59 8 48;", "modem 4 95 7 5;dog 40 2 1;", "modem1 100 1 1;dog3 1 0;",
        "modem 10 100 1 1;", "modem 1 100 1 1", "modem 1 100 1 1;dog 9 1 0;dog 9 1 0;dog 9 1 0;dog 9 1 0;", "",
        "modem 9 100 99 9;dog 2 1 0;"};

    // The edges that the document names, and what lies next to them.
    private static final int[] EDGES = {-1, 0, 1, 2, 3, 8, 12, 16, 47, 48, 60, 61, 99, 100, -99, -100, 263, 499, 500, 501, 600,
        998, 999, 1000, 32768, 65535, 65536, 899999, 900000, 900001, 999999, 1000000, Integer.MIN_VALUE, Integer.MAX_VALUE};

    private final Random random;
    private final MatchboxModem program = new MatchboxModem();
    private final Model model = new Model();
    private final List<String> calls = new ArrayList<>();

    private ModelTest(long seed) {
        random = new Random(seed);
    }

    public static void main(String[] arguments) throws Exception {
        List<Method> methods = new ArrayList<>(List.of(MatchboxModem.class.getDeclaredMethods()));
        methods.removeIf(m -> !java.lang.reflect.Modifier.isPublic(m.getModifiers()));
        methods.sort(Comparator.comparing(Method::getName));
        int wrong = 0;
        for (int run = 0; run < RUNS && wrong == 0; run++) {
            wrong += new ModelTest(run).run(methods, run % 8 == 7) ? 0 : 1;
        }
        System.out.println(wrong == 0 ? "ModelTest: all runs agree" : "ModelTest: a run differs");
        System.exit(wrong == 0 ? 0 : 1);
    }

    private boolean run(List<Method> methods, boolean late) throws Exception {
        if (late && !passMuchTime()) {
            return false;
        }
        while (calls.size() < CALLS) {
            int dice = random.nextInt(20);
            boolean same = true;
            if (dice == 0) {
                same = text(CONFIGURATIONS[random.nextInt(CONFIGURATIONS.length)], random.nextInt(9) == 0 ? "load" : "");
            } else if (dice == 1) {
                same = text(commandText(), "executeCommands");
            } else if (dice == 2) {
                same = text("abcdefghijklmnopqrst".substring(0, random.nextInt(18)), "sendMessage");
            } else if (dice == 3) {
                same = call(MatchboxModem.class.getMethod("transmit", int.class), random.nextInt(1, 9));
            } else {
                Method m = methods.get(random.nextInt(methods.size()));
                if (!m.getName().equals("load") || random.nextInt(4) == 0) {
                    same = call(m, choose(m));
                }
            }
            if (!same) {
                return false;
            }
        }
        return true;
    }

    /** Naps of lost frames bring the clock near 900000, and over it. */
    private boolean passMuchTime() throws Exception {
        boolean same = text("modem 9 100 99 9;dog 2 1 0;", "load");
        same &= text("send abcdefghijklmnop;".repeat(12), "executeCommands");
        for (int i = 0; i < 4; i++) {
            same &= call(MatchboxModem.class.getMethod("transmit", int.class), 55);
        }
        for (int i = 0; i < 90 && model.clock() < 895000; i++) {
            same &= call(MatchboxModem.class.getMethod("transmit", int.class), 1);
        }
        return same && call(MatchboxModem.class.getMethod("save"));
    }

    private String commandText() {
        StringBuilder s = new StringBuilder();
        int n = random.nextInt(10) == 0 ? random.nextInt(34) : random.nextInt(5);
        for (int i = 0; i < n; i++) {
            // Rarely a wrong command, as otherwise no long text would ever be run.
            String[] words = random.nextInt(40) == 0 ? BAD : GOOD;
            s.append(words[random.nextInt(words.length)]).append(random.nextInt(90) == 0 ? "" : ";");
            s.append(random.nextInt(9) == 0 ? " " : "");
        }
        return s.toString();
    }

    private boolean text(String text, String method) throws Exception {
        byte[] bytes = text.getBytes("ISO-8859-1");
        if (bytes.length > 480) {
            return true;
        }
        if (random.nextInt(8) == 0 && bytes.length > 0) {
            bytes[random.nextInt(bytes.length)] = (byte) (random.nextBoolean() ? random.nextInt(256) : "0 ;a9".charAt(random.nextInt(5)));
        }
        Method append = MatchboxModem.class.getMethod("append", int.class, int.class, int.class, int.class, int.class);
        Method truncate = MatchboxModem.class.getMethod("truncate", int.class);
        boolean same = call(truncate, 0);
        for (int from = 0; from < bytes.length; from += 20) {
            Object[] five = new Object[5];
            for (int i = 0; i < 5; i++) {
                int four = 0;
                for (int k = 0; k < 4; k++) {
                    int at = from + 4 * i + k;
                    four = four << 8 | (at < bytes.length ? bytes[at] & 255 : 32);
                }
                five[i] = four;
            }
            same &= call(append, five);
        }
        same &= call(truncate, bytes.length);
        return method.isEmpty() ? same : same && call(MatchboxModem.class.getMethod(method));
    }

    private Object[] choose(Method m) {
        Object[] out = new Object[m.getParameterCount()];
        String name = m.getName();
        for (int i = 0; i < out.length; i++) {
            if (random.nextInt(12) == 0) {
                out[i] = EDGES[random.nextInt(EDGES.length)];
            } else if (name.equals("append")) {
                out[i] = random.nextInt();
            } else if (name.matches("isChewed|nextChewedTick|nextQuietTick|waitTicks") || tickOf(name) == i) {
                out[i] = random.nextInt(2) == 0 ? random.nextInt(1000) : model.clock() + random.nextInt(60);
            } else if (name.equals("wouldPass") && i == 1) {
                out[i] = random.nextInt(3) == 0 ? 263 : random.nextInt(65536);
            } else if (name.equals("setDrift")) {
                out[i] = random.nextInt(3) == 0 ? random.nextInt(-110, 110) : random.nextInt(-12, 13);
            } else if (name.equals("addDog")) {
                out[i] = random.nextInt(i == 0 ? 300 : 40);
            } else if (name.matches("transmit|truncate|outputByte|takenFrom") || i == 1) {
                out[i] = random.nextInt(i == 1 ? 50 : 64);
            } else {
                out[i] = random.nextInt(name.contains("essage") ? 13 : name.contains("Dog") ? 4
                        : Math.max(2, model.frameCount() + 1));
            }
        }
        return out;
    }

    private static int tickOf(String name) {
        if (name.equals("receivedBit")) {
            return 2;
        }
        return name.matches("invertedBits|longestBurst|wrongBits|resultAt|formatFrame") ? 1 : -1;
    }

    private boolean call(Method m, Object... arguments) throws Exception {
        String due = answer(Model.class.getMethod(m.getName(), m.getParameterTypes()), model, arguments);
        String got = answer(m, program, arguments);
        calls.add(m.getName() + List.of(arguments) + " = " + got);
        if (!got.equals(due)) {
            calls.forEach(System.out::println);
            System.out.println("the model answers " + due);
            return false;
        }
        return true;
    }

    private static String answer(Method m, Object target, Object[] arguments) throws IllegalAccessException {
        try {
            return String.valueOf(m.invoke(target, arguments));
        } catch (InvocationTargetException e) {
            return "throws." + e.getCause().getClass().getSimpleName();
        }
    }
}
