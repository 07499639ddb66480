/** Promises 25 to 30: orders, the packed moods, and accounts. */
public final class OrdersTest extends Expect {
    public static void main(String[] args) {
        promise25();
        promise26();
        promise27();
        promise28();
        promise29();
        promise30();
        finish();
    }

    private static void promise25() {
        MoodSextant x = new MoodSextant();
        due("25: no sailors", x.highest(0), NONE);
        // angles 0, 4, -4, 0 (with more cheer), 0 (as the first)
        x.sail(0x000f);
        x.sail(0x00ff);
        x.sail(0x0000);
        x.sail(0x013e);
        x.sail(0x00f0);
        int[] want = {1, 3, 0, 4, 2};
        for (int place = 0; place < want.length; place++) {
            due("25: place " + place, x.highest(place), want[place]);
        }
        due("25: no place", x.highest(5), NONE);
        due("25: no place", x.highest(-1), NONE);
        x.rum(2, 9);
        due("25: by rum", x.highest(0), 2);
        x.rum(0, 4);
        due("25: the same angle, less cheer", x.highest(1), 1);
        due("25: the same angle, less cheer", x.highest(2), 0);
        MoodSextant y = shipOf(0x0001, 0x0000, 0x00ff);
        y.shore(2);
        due("25: who is gone has no place", y.highest(0), 0);
        due("25: who is gone has no place", y.highest(2), NONE);
    }

    private static void promise26() {
        MoodSextant x = shipOf(0x000f, 0x00ff, 0x0000, 0x00f0);
        due("26: no sights", x.ranked(0), NONE);
        for (int sailor = 0; sailor < 4; sailor++) {
            x.sight(sailor);
        }
        x.hour();
        x.mood(1, 0x0000);
        x.sight(1);
        // from the latest: -1, 0, -1, 1, 0
        int[] want = {3, 1, 4, 0, 2};
        for (int place = 0; place < want.length; place++) {
            due("26: place " + place, x.ranked(place), want[place]);
        }
        due("26: no place", x.ranked(5), NONE);
        due("26: no place", x.ranked(-1), NONE);
    }

    private static void promise27() {
        MoodSextant x = new MoodSextant();
        due("27: none", x.packed(), 0L);
        x.sail(0xffff);
        due("27: one", x.packed(), 0xffffL);
        x.sail(0x8001);
        due("27: two", x.packed(), 0x8001ffffL);
        x.sail(0x1234);
        due("27: three", x.packed(), 0x12348001ffffL);
        x.sail(0xfedc);
        due("27: four", x.packed(), 0xfedc12348001ffffL);
        x.sail(0x7777);
        due("27: the first four", x.packed(), 0xfedc12348001ffffL);
        x.shore(0);
        due("27: moved", x.packed(), 0x7777fedc12348001L);
        due("27: the fifth is left out", shipOf(0, 0, 0, 0, 0xffff, 0xffff, 0xffff, 0xffff).packed(), 0L);
        MoodSextant y = shipOf(1, 2, 3);
        y.shore(2);
        due("27: who is gone is left out", y.packed(), 0x20001L);
    }

    private static void promise28() {
        MoodSextant x = new MoodSextant();
        due("28: new", x.isCounted(), true);
        for (int round = 0; round < 30; round++) {
            x.sail(round * 2003 & 0xffff);
            x.rum(round % 5, 1 + round % 4);
            x.sight(round % 3);
            due("28: counted", x.isCounted(), true);
            x.hour();
            due("28: counted", x.isCounted(), true);
            if (round % 3 == 2) {
                x.shore(round % 4);
            }
            if (round % 7 == 6) {
                x.undo();
            }
            if (round == 10) {
                x.save();
            }
            if (round == 20) {
                x.restore();
            }
            due("28: counted", x.isCounted(), true);
        }
        due("28: rum adds up", x.account(6), x.account(5) + x.account(7) + x.account(8));
    }

    private static void promise29() {
        MoodSextant x = new MoodSextant();
        dueDouble("29: none", x.meanAngle(), 0.0);
        x.sail(0x00ff);
        dueDouble("29: one", x.meanAngle(), 4.0);
        x.sail(0x000f);
        x.sail(0x0001);
        dueDouble("29: three", x.meanAngle(), 1.0 / 3.0);
        x.sail(0xff00);
        dueDouble("29: four", x.meanAngle(), -11.0 / 4.0);
        x.error(3);
        dueDouble("29: without the error", x.meanAngle(), -2.75);
        x.rum(3, 9);
        x.horizon(0, 0);
        dueDouble("29: with the rum", x.meanAngle(), 14.0 / 4.0);
        x.shore(3);
        dueDouble("29: who is gone is left out", x.meanAngle(), 13.0 / 3.0);
    }

    private static void promise30() {
        MoodSextant x = shipOf(1, 2, 3);
        x.rum(0, 5);
        x.rum(1, 3);
        x.error(-2);
        x.sight(0);
        x.sight(1);
        x.hour();
        x.shore(1);
        x.append('h');
        x.append('x');
        int[] want = {2, 1, -2, 1, 2, 4, 8, 2, 2, 2, 8};
        for (int what = 0; what < want.length; what++) {
            due("30: what " + what, x.account(what), want[what]);
        }
        due("30: BAD", x.account(11), BAD);
        due("30: BAD", x.account(-1), BAD);
        due("30: BAD", x.account(Integer.MIN_VALUE), BAD);
        x.undo();
        due("30: changes", x.account(10), 7);
        due("30: ashore", x.account(8), 0);
    }
}
