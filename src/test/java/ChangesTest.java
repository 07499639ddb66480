/** Promises 1 to 10: a new object, and the changes. */
public final class ChangesTest extends Expect {
    public static void main(String[] args) {
        promise1();
        promise2();
        promise3();
        promise3Log();
        promise4();
        promise5();
        promise6();
        promise7();
        promise8();
        promise9();
        promise10();
        promise10Watches();
        finish();
    }

    private static void promise1() {
        MoodSextant x = new MoodSextant();
        for (int what = 0; what <= 10; what++) {
            due("1: account(" + what + ")", x.account(what), 0);
        }
        for (int watch = 0; watch < 4; watch++) {
            due("1: horizon", x.watchOf(watch, 0), 4);
            due("1: watch", x.watchOf(watch, 1), 0);
        }
        due("1: sailorOf", x.sailorOf(0, 0), NONE);
        due("1: sightOf", x.sightOf(0, 0), NONE);
        due("1: fault", x.fault(), STATE);
        due("1: reason", x.reason(0, false), STATE);
        due("1: undo", x.undo(), STATE);
        due("1: restore", x.restore(), STATE);
        due("1: written", x.written(0), NONE);
        due("1: isCounted", x.isCounted(), true);
        MoodSextant y = new MoodSextant();
        y.sail(3);
        due("1: another object", x.account(0), 0);
    }

    private static void promise2() {
        MoodSextant x = new MoodSextant();
        due("2: sail(-1)", x.sail(-1), BAD);
        due("2: sail(65536)", x.sail(65536), BAD);
        due("2: least", x.sail(Integer.MIN_VALUE), BAD);
        due("2: none came", x.account(0), 0);
        due("2: sail(0)", x.sail(0), 0);
        due("2: sail(65535)", x.sail(65535), 1);
        due("2: mood", x.sailorOf(1, 0), 65535);
        due("2: rum", x.sailorOf(1, 1), 0);
        due("2: watch", x.sailorOf(1, 2), 0);
        for (int sailor = 2; sailor < 8; sailor++) {
            due("2: sail", x.sail(sailor), sailor);
        }
        due("2: BAD is ahead", x.sail(65536), BAD);
        due("2: no reason yet", x.reason(0, false), STATE);
        due("2: the ninth", x.sail(5), REFUSED);
        dueReason("2", x, 1, 8);
        due("2: still 8", x.account(0), 8);
        x.rum(7, 3);
        x.watch(7, 3);
        x.shore(7);
        due("2: again", x.sail(9), 7);
        due("2: new mood", x.sailorOf(7, 0), 9);
        due("2: new rum", x.sailorOf(7, 1), 0);
        due("2: new watch", x.sailorOf(7, 2), 0);
    }

    private static void promise3() {
        MoodSextant x = shipOf(10, 20, 30);
        x.rum(0, 1);
        x.rum(1, 2);
        x.rum(2, 3);
        x.watch(2, 3);
        due("3: shore(3)", x.shore(3), NONE);
        due("3: shore(-1)", x.shore(-1), NONE);
        due("3: shore(1)", x.shore(1), 2);
        due("3: mood of the later", x.sailorOf(1, 0), 30);
        due("3: rum of the later", x.sailorOf(1, 1), 3);
        due("3: watch of the later", x.sailorOf(1, 2), 3);
        due("3: mood of the earlier", x.sailorOf(0, 0), 10);
        due("3: gone", x.sailorOf(2, 0), NONE);
        due("3: taken ashore", x.account(8), 2);
        due("3: cups that are left", x.account(5), 4);
        due("3: given", x.account(6), 6);
        due("3: drunk", x.account(7), 0);
        due("3: shore(0)", x.shore(0), 1);
        due("3: shore(0)", x.shore(0), 0);
        due("3: shore(0)", x.shore(0), NONE);
        due("3: taken ashore", x.account(8), 6);
        due("3: counted", x.isCounted(), true);
    }

    private static void promise3Log() {
        MoodSextant x = shipOf(0x0001, 0x000f, 0xff00);
        x.sight(0);
        x.sight(1);
        x.sight(2);
        x.hour();
        x.sight(1);
        x.sight(2);
        int bits = x.sightOf(0, 2);
        int bitsBefore = x.sightOf(2, 2);
        x.shore(1);
        due("3: the bits move, too", x.sightOf(1, 2), bitsBefore);
        due("3: sights", x.account(3), 3);
        due("3: taken stay", x.account(4), 5);
        due("3: less", x.sightOf(0, 0), 1);
        due("3: hour", x.sightOf(0, 1), 1);
        due("3: bits", x.sightOf(0, 2), bits);
        due("3: less", x.sightOf(1, 0), 1);
        due("3: hour", x.sightOf(1, 1), 0);
        due("3: lower stays", x.sightOf(2, 0), 0);
        due("3: forgotten", x.sightOf(3, 0), NONE);
        due("3: sighted still", x.sight(1), REFUSED);
        x.sail(9);
        due("3: a new one was not sighted", x.sight(2), 4);
    }

    private static void promise4() {
        MoodSextant x = shipOf(10, 20);
        due("4: no sailor", x.mood(2, 5), NONE);
        due("4: no sailor", x.mood(-1, 5), NONE);
        due("4: NONE ahead of BAD", x.mood(2, 70000), NONE);
        due("4: BAD", x.mood(1, 65536), BAD);
        due("4: BAD", x.mood(1, -1), BAD);
        due("4: before", x.mood(1, 65535), 20);
        due("4: before", x.mood(1, 0), 65535);
        due("4: same", x.mood(1, 0), REFUSED);
        dueReason("4", x, 2, 0);
        due("4: same", x.mood(0, 10), REFUSED);
        dueReason("4", x, 2, 10);
        due("4: the other's", x.mood(1, 10), 0);
        due("4: changes", x.account(10), 5);
    }

    private static void promise5() {
        MoodSextant x = shipOf(10, 20);
        due("5: no sailor", x.rum(2, 1), NONE);
        due("5: NONE ahead of BAD", x.rum(-1, 0), NONE);
        due("5: BAD", x.rum(0, 0), BAD);
        due("5: BAD", x.rum(0, 10), BAD);
        due("5: BAD", x.rum(0, -1), BAD);
        due("5: most", x.rum(0, 9), 9);
        due("5: one more", x.rum(0, 1), REFUSED);
        dueReason("5", x, 3, 9);
        due("5: some", x.rum(1, 4), 4);
        due("5: more", x.rum(1, 6), REFUSED);
        dueReason("5", x, 3, 4);
        due("5: up to 9", x.rum(1, 5), 9);
        due("5: given", x.account(6), 18);
    }

    private static void promise6() {
        MoodSextant x = shipOf(10, 20);
        due("6: no sailor", x.watch(2, 1), NONE);
        due("6: no watch", x.watch(0, 4), NONE);
        due("6: no watch", x.watch(0, -1), NONE);
        due("6: same", x.watch(0, 0), REFUSED);
        dueReason("6", x, 2, 0);
        due("6: before", x.watch(0, 3), 0);
        due("6: before", x.watch(0, 1), 3);
        due("6: same", x.watch(0, 1), REFUSED);
        dueReason("6", x, 2, 1);
        due("6: the other", x.sailorOf(1, 2), 0);
    }

    private static void promise7() {
        MoodSextant x = new MoodSextant();
        due("7: no watch", x.horizon(4, 1), NONE);
        due("7: NONE ahead of BAD", x.horizon(-1, 9), NONE);
        due("7: BAD", x.horizon(0, 9), BAD);
        due("7: BAD", x.horizon(0, -1), BAD);
        due("7: same", x.horizon(3, 4), REFUSED);
        dueReason("7", x, 2, 4);
        due("7: before", x.horizon(3, 8), 4);
        due("7: before", x.horizon(3, 0), 8);
        due("7: told", x.watchOf(3, 0), 0);
        due("7: the others", x.watchOf(2, 0), 4);
        due("7: same", x.horizon(3, 0), REFUSED);
        dueReason("7", x, 2, 0);
    }

    private static void promise8() {
        MoodSextant x = new MoodSextant();
        due("8: BAD", x.error(4), BAD);
        due("8: BAD", x.error(-4), BAD);
        due("8: same", x.error(0), REFUSED);
        dueReason("8", x, 2, 0);
        due("8: before", x.error(3), 0);
        due("8: before", x.error(-3), 3);
        due("8: same", x.error(-3), REFUSED);
        dueReason("8", x, 2, -3);
        due("8: told", x.account(2), -3);
    }

    private static void promise9() {
        MoodSextant x = shipOf(255, 65280, 1, 2, 3, 4, 5, 6);
        due("9: no sailor", x.sight(8), NONE);
        due("9: no sailor", x.sight(-1), NONE);
        for (int sailor = 0; sailor < 8; sailor++) {
            due("9: sight", x.sight(sailor), sailor + 1);
        }
        due("9: in this hour", x.sight(5), REFUSED);
        dueReason("9", x, 4, 5);
        int bits = x.readBits(7);
        x.hour();
        x.error(2);
        due("9: ninth", x.sight(0), 9);
        due("9: tenth", x.sight(1), 10);
        due("9: the oldest goes", x.sight(2), 10);
        due("9: stays as read", x.sightOf(3, 2), bits);
        due("9: latest", x.sightOf(0, 0), 2);
        due("9: latest hour", x.sightOf(0, 1), 1);
        due("9: oldest", x.sightOf(9, 0), 1);
        due("9: oldest hour", x.sightOf(9, 1), 0);
        due("9: taken", x.account(4), 11);
        due("9: refused", x.sight(1), REFUSED);
        due("9: refused are not taken", x.account(4), 11);
    }

    private static void promise10() {
        MoodSextant x = new MoodSextant();
        due("10: without sailors", x.hour(), 0);
        due("10: hour", x.account(1), 1);
        x.sail(0x8001);
        x.sail(0x0180);
        x.rum(0, 2);
        x.rum(1, 1);
        due("10: cups", x.hour(), 1);
        due("10: turned", x.sailorOf(0, 0), 0x0003);
        due("10: turned", x.sailorOf(1, 0), 0x0300);
        due("10: cup less", x.sailorOf(0, 1), 1);
        due("10: none", x.sailorOf(1, 1), 0);
        due("10: drunk", x.account(7), 2);
        due("10: cups", x.hour(), 0);
        due("10: cups", x.hour(), 0);
        due("10: no less than none", x.sailorOf(0, 1), 0);
        due("10: drunk", x.account(7), 3);
        hours(x, 14);
        due("10: turned round", x.sailorOf(0, 0), 0x0003);
        due("10: a change", x.account(10), 8);
    }

    private static void promise10Watches() {
        MoodSextant x = shipOf(1, 2);
        x.watch(1, 3);
        x.horizon(0, 2);
        hours(x, 3);
        due("10: not yet", x.sailorOf(0, 2), 0);
        due("10: not yet", x.sailorOf(1, 2), 3);
        hours(x, 1);
        due("10: over", x.sailorOf(0, 2), 1);
        due("10: round", x.sailorOf(1, 2), 0);
        due("10: horizons stay", x.watchOf(0, 0), 2);
        due("10: horizons stay", x.watchOf(1, 0), 4);
        hours(x, 3);
        due("10: stays", x.sailorOf(0, 2), 1);
        hours(x, 1);
        due("10: over", x.sailorOf(0, 2), 2);
    }
}
