import java.util.Random;

/** No call throws, for any arguments in any state, nor after the 512th call. */
public final class AnyArgumentsTest extends Expect {
    private static final int[] WILD = {Integer.MIN_VALUE, Integer.MIN_VALUE + 1, -100001, -65536, -41, -11, -9, -4, -3, -1,
        0, 1, 2, 3, 4, 5, 6, 7, 8, 9, 10, 11, 40, 41, 255, 65535, 65536, Integer.MAX_VALUE - 1, Integer.MAX_VALUE};
    private static final char[] SIGNS = {0, 31, 32, 'h', 'o', 'u', 'r', ';', 's', 'a', '0', '9', '-', 126, 127, 255, 65535};
    private static final String[] TEXTS = {"hour", "sail 0f1c", "rum 0 1;sight 0", "error -1", "shore 0", "hour;sight 9"};

    private static Random random;

    public static void main(String[] args) {
        for (int run = 0; run < 40; run++) {
            random = new Random(run);
            MoodSextant x = new MoodSextant();
            for (int call = 0; call < 3000; call++) {
                due("it answers", call(x, random.nextInt(43), number(), number()) != Integer.MIN_VALUE, true);
            }
            due("counted", x.isCounted(), true);
        }
        finish();
    }

    private static int number() {
        return random.nextInt(3) > 0 ? random.nextInt(9) : WILD[random.nextInt(WILD.length)];
    }

    private static int call(MoodSextant x, int which, int one, int other) {
        switch (which) {
            case 0: case 39: case 40: return x.sail(one == 0 ? random.nextInt(65536) : one);
            case 1: return x.shore(one);
            case 2: return x.mood(one, other);
            case 3: return x.rum(one, other);
            case 4: return x.watch(one, other);
            case 5: return x.horizon(one, other);
            case 6: return x.error(one);
            case 7: case 41: return x.sight(one);
            case 8: case 42: return x.hour();
            case 9: return x.sailorOf(one, other);
            case 10: return x.watchOf(one, other);
            case 11: return sightOf(x, one, other);
            case 12: return (int) x.angle(one);
            case 13: return x.readBits(one);
            case 14: return x.fixBits(one);
            case 15: return x.fixAgain(one);
            case 16: return x.meet(one, other);
            case 17: return x.unlike(one, other);
            case 18: return x.unlikeAgain(one, other);
            case 19: return x.closest(one, other);
            default: return callMore(x, which, one, other);
        }
    }

    private static int sightOf(MoodSextant x, int sight, int what) {
        return x.sightOf(sight, what);
    }

    private static int callMore(MoodSextant x, int which, int one, int other) {
        switch (which) {
            case 20: return x.would(one, other);
            case 21: return x.sinks(one);
            case 22: return x.messes();
            case 23: return x.highest(one);
            case 24: return x.ranked(one);
            case 25: return (int) (x.packed() & 65535);
            case 26: return x.isCounted() ? 1 : 0;
            case 27: return (int) x.meanAngle();
            case 28: return x.account(one);
            case 29: return x.write(one);
            case 30: return x.writeLog();
            case 31: return x.written(one);
            case 32: return x.append(SIGNS[random.nextInt(SIGNS.length)]);
            case 33: return x.read();
            case 34: return x.fault();
            case 35: return x.reason(one, other > 0);
            case 36: return x.undo();
            case 37: return random.nextInt(4) == 0 ? x.restore() : x.save();
            default: return read(x, TEXTS[random.nextInt(TEXTS.length)]);
        }
    }
}
