import java.lang.reflect.InvocationTargetException;
import java.lang.reflect.Method;
import java.util.Arrays;
import java.util.Comparator;
import java.util.function.Supplier;
import java.util.function.ToIntFunction;

/** What the boundary tests share; it is no test itself. */
final class Checks {
    private static final int PROMISES = 17;
    private static int wrong = 0;
    private static String running = "";

    private Checks() { }

    static void due(String what, long want, long got) {
        if (got != want) {
            say(what + " answered " + got + ", due is " + want);
        }
    }

    static void due(String what, boolean want, boolean got) {
        due(what, want ? 1 : 0, got ? 1 : 0);
    }

    static void due(String what, String want, String got) {
        if (!got.equals(want)) {
            say(what + " is\n    " + got + ", due is\n    " + want);
        }
    }

    private static void say(String fault) {
        wrong++;
        System.out.println(running + ": " + fault);
    }

    /** Runs every test of a class: each static method whose name begins with its promise, as promise07_.. */
    static void runAll(Class<?> tests, boolean ofEachPromise) throws IllegalAccessException {
        Method[] methods = tests.getDeclaredMethods();
        Arrays.sort(methods, Comparator.comparing(Method::getName));
        int[] found = new int[PROMISES + 1];
        for (Method m : methods) {
            if (m.getName().matches("promise[0-9][0-9]_.*")) {
                found[Integer.parseInt(m.getName().substring(7, 9))]++;
                runOne(m);
            }
        }
        int all = Arrays.stream(found).sum();
        for (int promise = 1; promise <= PROMISES; promise++) {
            if (all == 0 || ofEachPromise && found[promise] == 0) {
                running = tests.getName();
                say("there is no test of promise " + promise);
            }
        }
        System.out.println(all + " tests: "
            + (wrong == 0 ? "all answers are as due" : wrong + " answers are not as due"));
        if (wrong != 0) {
            System.exit(1);
        }
    }

    private static void runOne(Method test) throws IllegalAccessException {
        running = test.getName();
        try {
            test.invoke(null);
        } catch (InvocationTargetException e) {
            say("threw " + e.getCause());
        }
    }

    /** A boolean's answer as a number, for refused(). */
    static int asNumber(boolean answer) {
        return answer ? 1 : 0;
    }

    /**
     * The call answers as a refused one does and leaves no trace: nothing that the object shows
     * differs, and a twin that never heard the call goes on in the same way.
     */
    static void refused(String call, int answer, Supplier<ChainKeeper> state, ToIntFunction<ChainKeeper> act) {
        ChainKeeper x = state.get();
        String before = shown(x);
        due(call, answer, act.applyAsInt(x));
        due("what is shown after " + call, before, shown(x));
        // Other objects, as one is promised for 512 calls only and what it shows takes many.
        ChainKeeper heard = state.get();
        act.applyAsInt(heard);
        due("what follows " + call, goOn(state.get()), goOn(heard));
    }

    /** All that an object shows. */
    static String shown(ChainKeeper x) {
        StringBuilder text = new StringBuilder(list(x)).append(" chain");
        for (int i = 0; i < 6; i++) {
            text.append(' ').append(x.chain(i));
        }
        for (int n = 0; n < 6; n++) {
            text.append(" node ").append(n).append(':');
            for (int what = 0; what < 6; what++) {
                text.append(' ').append(x.node(n, what));
            }
            for (int key = 0; key < 4; key++) {
                text.append(' ').append(x.clean(n, key)).append('=').append(x.value(n, key));
            }
        }
        for (int c = 0; c < 3; c++) {
            text.append(" client ").append(c).append(':');
            for (int what = 0; what < 4; what++) {
                text.append(' ').append(x.client(c, what));
            }
        }
        return text.toString();
    }

    /** The messages under way. */
    static String list(ChainKeeper x) {
        StringBuilder text = new StringBuilder();
        int size = x.messages();
        for (int i = 0; i < size; i++) {
            text.append(i == 0 ? "" : " ").append(x.message(i));
        }
        return text.toString();
    }

    /** Brings out what an object holds but does not show: its clock, contents of messages, tables, pending updates. */
    private static String goOn(ChainKeeper x) {
        StringBuilder text = new StringBuilder();
        for (int step = 0; step < 20; step++) {
            x.tick(1);
            int size = x.messages();
            text.append(size).append(':').append(x.message(size - 1)).append(' ');
            deliverFirst(x, 4);
            x.read(step % 3, step % 4, step % 6);
            x.write((step + 1) % 3, step % 4, 100 + step);
        }
        x.join(5);
        int head = x.chain(0);
        x.crash(head);
        x.detect(head);
        deliverFirst(x, 30);
        return text.append(shown(x)).toString();
    }

    static void deliverAll(ChainKeeper x) {
        for (int k = 0; k < 1000 && x.messages() > 0; k++) {
            x.deliver(0);
        }
    }

    static void deliverFirst(ChainKeeper x, int times) {
        for (int k = 0; k < times; k++) {
            x.deliver(0);
        }
    }

    /** Drops all that may be dropped: CONFIGs stay. */
    static void dropAll(ChainKeeper x) {
        for (int i = x.messages() - 1; i >= 0; i--) {
            x.drop(i);
        }
    }

    /** Drops all but the messages that show this number. */
    static void keepOnly(ChainKeeper x, int message) {
        for (int i = x.messages() - 1; i >= 0; i--) {
            if (x.message(i) != message) {
                x.drop(i);
            }
        }
    }

    /** Delivers all but the messages of a kind to a node, which are lost. */
    static void deliverAllBut(ChainKeeper x, int kind, int to) {
        for (int k = 0; k < 1000 && x.messages() > 0; k++) {
            if (x.message(0) / 100000 == 10 * kind + to) {
                x.drop(0);
            } else {
                x.deliver(0);
            }
        }
    }

    /** Delivers the first message that shows this number; the test is wrong if there is none. */
    static void deliverShown(ChainKeeper x, int message) {
        for (int i = 0; i < x.messages(); i++) {
            if (x.message(i) == message) {
                x.deliver(i);
                return;
            }
        }
        say("there is no message " + message + " among " + list(x));
    }

    /** A write that has gone all the way. */
    static void writeThrough(ChainKeeper x, int c, int key, int value) {
        x.write(c, key, value);
        deliverAll(x);
    }

    /** Fills the list with doubles of a new READ of client 2 at node 5. */
    static ChainKeeper filled(ChainKeeper x, int messages) {
        x.read(2, 0, 5);
        for (int size = x.messages(); size < messages; size++) {
            x.duplicate(size - 1);
        }
        due("messages() of the filled list", messages, x.messages());
        return x;
    }

    /** A state in which most things are under way: three of four nodes up, dirty keys, a node that hands over. */
    static ChainKeeper busy() {
        ChainKeeper x = new ChainKeeper(3, 4);
        writeThrough(x, 0, 1, 11);
        writeThrough(x, 1, 2, 12);
        x.tick(1);
        x.join(3);
        deliverFirst(x, 3);
        x.crash(1);
        x.write(0, 1, 13);
        x.write(1, 2, 14);
        x.tick(1);
        deliverShown(x, 1000002);
        return x;
    }
}
