import java.lang.reflect.InvocationTargetException;
import java.lang.reflect.Method;
import java.util.ArrayList;
import java.util.List;
import java.util.function.IntSupplier;

/** Counts the answers that are not as due, and tells them. */
abstract class Expect {
    static final int NONE = MoodSextant.NONE;
    static final int BAD = MoodSextant.BAD;
    static final int STATE = MoodSextant.STATE;
    static final int FULL = MoodSextant.FULL;
    static final int REFUSED = MoodSextant.REFUSED;
    static final int NOTHING = MoodSextant.NOTHING;

    private static int wrong;
    private static int seen;
    private static String test = "";

    /** The tests of a class are its methods with names like "promise2NinthIsRefused". */
    static List<Method> testsOf(Class<?> tests) {
        List<Method> found = new ArrayList<>();
        for (Method method : tests.getDeclaredMethods()) {
            if (method.getName().matches("promise[0-9]+[A-Z].*") && method.getParameterCount() == 0) {
                found.add(method);
            }
        }
        return found;
    }

    /** Runs them all, so that none is forgotten. */
    static void run(Class<?> tests) throws IllegalAccessException, InvocationTargetException {
        for (Method method : testsOf(tests)) {
            test = method.getName() + ": ";
            int before = seen;
            method.invoke(null);
            due("it looks at something", seen > before, true);
        }
        test = "";
    }

    static void due(String call, long got, long want) {
        seen++;
        if (got != want) {
            tell(call, Long.toString(got), Long.toString(want));
        }
    }

    static void due(String call, boolean got, boolean want) {
        seen++;
        if (got != want) {
            tell(call, Boolean.toString(got), Boolean.toString(want));
        }
    }

    static void due(String call, String got, String want) {
        seen++;
        if (!got.equals(want)) {
            tell(call, got, want);
        }
    }

    /** To the bit, so that a negative zero is told from zero. */
    static void dueDouble(String call, double got, double want) {
        seen++;
        if (Double.doubleToLongBits(got) != Double.doubleToLongBits(want)) {
            tell(call, Double.toString(got), Double.toString(want));
        }
    }

    static void dueFloatBits(String call, int got, float want) {
        due(call, got, (long) Float.floatToIntBits(want));
    }

    private static void tell(String call, String got, String want) {
        wrong++;
        if (wrong <= 40) {
            System.out.println("  " + test + call + " answered " + got + ", due is " + want);
        }
    }

    static int wrong() {
        return wrong;
    }

    static void finish() {
        if (seen == 0) {
            System.out.println("  nothing was looked at");
        }
        if (wrong > 0) {
            System.out.println("  " + wrong + " of " + seen + " answers are not as due");
        }
        if (wrong > 0 || seen == 0) {
            System.exit(1);
        }
    }

    static MoodSextant shipOf(int... moods) {
        MoodSextant ship = new MoodSextant();
        for (int mood : moods) {
            ship.sail(mood);
        }
        return ship;
    }

    static void hours(MoodSextant ship, int many) {
        for (int hour = 0; hour < many; hour++) {
            ship.hour();
        }
    }

    static int read(MoodSextant ship, String text) {
        for (int index = 0; index < text.length(); index++) {
            ship.append(text.charAt(index));
        }
        return ship.read();
    }

    /** The line that stands, sign by sign. */
    static String line(MoodSextant ship) {
        StringBuilder line = new StringBuilder();
        for (int index = 0; ship.written(index) != NONE && index < 1000; index++) {
            line.append((char) ship.written(index));
        }
        return line.toString();
    }

    static void dueReason(String call, MoodSextant ship, int number, int detail) {
        due(call + ": reason(0, false)", ship.reason(0, false), number);
        due(call + ": reason(0, true)", ship.reason(0, true), detail);
        due(call + ": reason(1, false)", ship.reason(1, false), NOTHING);
        due(call + ": reason(1, true)", ship.reason(1, true), NOTHING);
    }

    static void dueReasons(String call, MoodSextant ship, int command, int number, int detail) {
        due(call + ": reason(0, false)", ship.reason(0, false), 5);
        due(call + ": reason(0, true)", ship.reason(0, true), command);
        due(call + ": reason(1, false)", ship.reason(1, false), number);
        due(call + ": reason(1, true)", ship.reason(1, true), detail);
    }

    /** Everything that can be undone, in few calls: what is not here can be worked out from it. */
    static List<Long> view(MoodSextant ship) {
        List<Long> view = new ArrayList<>();
        for (int what = 0; what <= 8; what++) {
            view.add((long) ship.account(what));
        }
        for (int sailor = 0; sailor < ship.account(0); sailor++) {
            for (int what = 0; what <= 2; what++) {
                view.add((long) ship.sailorOf(sailor, what));
            }
        }
        for (int watch = 0; watch < 4; watch++) {
            view.add((long) ship.watchOf(watch, 0));
        }
        for (int sight = 0; sight < ship.account(3); sight++) {
            for (int what = 0; what <= 2; what++) {
                view.add((long) ship.sightOf(sight, what));
            }
        }
        return view;
    }

    static void dueView(String call, MoodSextant ship, List<Long> want) {
        due(call + ": the view", view(ship).toString(), want.toString());
    }

    /** The call answers the error, and neither the ship nor its changes become otherwise. */
    static void dueError(String call, MoodSextant ship, int error, IntSupplier act) {
        List<Long> before = view(ship);
        int changes = ship.account(10);
        due(call, act.getAsInt(), error);
        dueView(call, ship, before);
        due(call + ": changes", ship.account(10), changes);
    }
}
