/** Promises 11 to 24: numbers, angles, fixes, how alike moods are, and what would be. */
public final class QueriesTest extends Expect {
    public static void main(String[] args) {
        promise11();
        promise11Messes();
        promise12();
        promise13();
        promise14();
        promise15();
        promise16and17();
        promise16Latest();
        promise18();
        promise19and20();
        promise21();
        promise22();
        promise23();
        promise24();
        finish();
    }

    private static void promise11() {
        MoodSextant x = shipOf(0xf003, 0x00ff);
        x.rum(0, 2);
        x.watch(0, 3);
        x.horizon(3, 8);
        x.sight(0);
        x.hour();
        x.sight(0);
        x.mood(0, 0xf003);
        int[] want = {0xf003, 1, 3, 2, 4, 2 + 1 - 4 - 8, 2, 0, 1};
        for (int what = 0; what < want.length; what++) {
            due("11: what " + what, x.sailorOf(0, what), want[what]);
        }
        due("11: no sight", x.sailorOf(1, 6), 0);
        due("11: BAD", x.sailorOf(0, 9), BAD);
        due("11: BAD", x.sailorOf(0, -1), BAD);
        due("11: no sailor", x.sailorOf(2, 0), NONE);
        due("11: NONE ahead of BAD", x.sailorOf(-1, 9), NONE);
        for (int bit = 0; bit < 16; bit++) {
            x.mood(0, 1 << bit);
            due("11: cheer bit " + bit, x.sailorOf(0, 3), bit < 8 ? 1 : 0);
            due("11: dread bit " + bit, x.sailorOf(0, 4), bit < 8 ? 0 : 1);
        }
    }

    private static void promise11Messes() {
        // 0 - 2 - 5 - 1 is a chain of mates; 3 and 4 are one by themselves; 6 is alone.
        MoodSextant x = shipOf(0x0000, 0x0fff, 0x000f, 0xf00f, 0xff0f, 0x00ff, 0xaaaa);
        due("11: mates", x.sailorOf(0, 7), 1);
        due("11: mates", x.sailorOf(2, 7), 3);
        due("11: mates", x.sailorOf(5, 7), 2);
        due("11: alone", x.sailorOf(6, 7), 0);
        due("11: mess", x.sailorOf(0, 8), 0b0111111);
        due("11: mess", x.sailorOf(4, 8), 0b0111111);
        due("11: mess alone", x.sailorOf(6, 8), 0b1000000);
        due("24: messes", x.messes(), 2);
        x.mood(2, 0x5555);
        due("11: mess", x.sailorOf(0, 8), 0b0000001);
        due("11: mess", x.sailorOf(1, 8), 0b0100010);
        due("11: mess", x.sailorOf(3, 8), 0b0011000);
        MoodSextant y = shipOf(0x0000, 0x000f, 0x00ff, 0x0fff, 0xffff, 0xfff0, 0xff00, 0xf00f);
        due("11: a ring", y.sailorOf(0, 8), 255);
        MoodSextant z = shipOf(0x0000, 0x001f, 0x000f);
        due("11: unlike by 5", z.sailorOf(0, 7), 1);
        due("11: unlike by 4 and 1", z.sailorOf(2, 7), 2);
        // A chain whose numbers are far from its order, so that every step is needed.
        MoodSextant w = shipOf(0xfff0, 0x00ff, 0x0000, 0xffff, 0x0fff, 0x000f, 0xf000, 0xff00);
        due("11: a chain", w.sailorOf(6, 8), 255);
        due("24: a chain", w.messes(), 1);
    }

    private static void promise12() {
        MoodSextant x = shipOf(0xf003, 0x80ff, 0x0100);
        x.watch(1, 2);
        x.horizon(2, 0);
        due("12: horizon", x.watchOf(2, 0), 0);
        due("12: sailors", x.watchOf(0, 1), 2);
        due("12: cheer", x.watchOf(0, 2), 2);
        due("12: dread", x.watchOf(0, 3), 5);
        due("12: cheer", x.watchOf(2, 2), 8);
        due("12: dread", x.watchOf(2, 3), 1);
        MoodSextant y = shipOf(0x0101, 0xffff);
        y.shore(1);
        due("12: who is gone is left out", y.watchOf(0, 1), 1);
        due("12: who is gone is left out", y.watchOf(0, 2), 1);
        due("12: who is gone is left out", y.watchOf(0, 3), 1);
        due("12: empty", x.watchOf(3, 1), 0);
        due("12: empty", x.watchOf(3, 2), 0);
        due("12: empty", x.watchOf(3, 3), 0);
        due("12: BAD", x.watchOf(0, 4), BAD);
        due("12: BAD", x.watchOf(0, -1), BAD);
        due("12: no watch", x.watchOf(4, 0), NONE);
        due("12: NONE ahead of BAD", x.watchOf(-1, 7), NONE);
    }

    private static void promise13() {
        MoodSextant x = shipOf(0x00ff, 0xff00);
        due("13: no sight", x.sightOf(0, 0), NONE);
        x.sight(1);
        hours(x, 2);
        x.mood(0, 0x003f);
        x.sight(0);
        due("13: sailor", x.sightOf(0, 0), 0);
        due("13: hour", x.sightOf(0, 1), 2);
        dueFloatBits("13: bits", x.sightOf(0, 2), 0.5f);
        due("13: sailor", x.sightOf(1, 0), 1);
        due("13: hour", x.sightOf(1, 1), 0);
        dueFloatBits("13: bits", x.sightOf(1, 2), -3.0f);
        due("13: BAD", x.sightOf(0, 3), BAD);
        due("13: BAD", x.sightOf(0, -1), BAD);
        due("13: NONE ahead of BAD", x.sightOf(2, 3), NONE);
        due("13: no sight", x.sightOf(-1, 0), NONE);
    }

    private static void promise14() {
        MoodSextant x = shipOf(0x00ff, 0xff00, 0x000f);
        dueDouble("14: angle", x.angle(0), 1.0);
        dueDouble("14: angle", x.angle(1), -3.0);
        dueDouble("14: no negative zero", x.angle(2), 0.0);
        dueDouble("14: no sailor", x.angle(3), 0.0);
        dueDouble("14: no sailor", x.angle(-1), 0.0);
        x.rum(0, 9);
        x.horizon(0, 0);
        x.error(3);
        dueDouble("14: without the error", x.angle(0), 4.25);
        x.horizon(0, 8);
        dueDouble("14: angle", x.angle(1), -4.0);
    }

    private static void promise15() {
        MoodSextant x = shipOf(0x00ff, 0xff00, 0x000f);
        due("15: no sailor", x.readBits(3), NONE);
        due("15: no sailor", x.readBits(-1), NONE);
        due("15: zero", x.readBits(2), 0);
        for (int error = -3; error <= 3; error++) {
            x.error(error);
            dueFloatBits("15: error " + error, x.readBits(0), (4 + error) / 4f);
            dueFloatBits("15: error " + error, x.readBits(1), (-12 + error) / 4f);
            dueFloatBits("15: error " + error, x.readBits(2), error / 4f);
        }
        for (int cups = 1; cups <= 9; cups++) {
            x.rum(2, 1);
            dueFloatBits("15: cups " + cups, x.readBits(2), (cups + 3) / 4f - cups / 8f);
        }
        due("15: not taken", x.account(3), 0);
        promise15All();
    }

    /** Every angle from -16 to 17, with every error and all rum that fits it. */
    private static void promise15All() {
        for (int cups = 0; cups <= 9; cups++) {
            for (int cheer = -8; cheer <= 8; cheer++) {
                MoodSextant x = shipOf(0);
                if (cups > 0) {
                    x.rum(0, cups);
                }
                x.mood(0, cheer < 0 ? 0xff00 & 0xff00 << 8 + cheer : (1 << cheer) - 1);
                for (int horizon = 0; horizon <= 8; horizon += 8) {
                    x.horizon(0, horizon);
                    int angle = x.sailorOf(0, 5);
                    due("15: the angle", angle, cups + x.sailorOf(0, 3) - x.sailorOf(0, 4) - horizon);
                    for (int error = -3; error <= 3; error++) {
                        x.error(error);
                        dueFloatBits("15: of " + angle, x.readBits(0), (angle + error) / 4f - cups / 8f);
                    }
                }
            }
        }
    }

    private static void promise16and17() {
        MoodSextant x = shipOf(0x00ff, 0x000f);
        due("16: no sailor", x.fixBits(2), NONE);
        due("17: no sailor", x.fixAgain(-1), NONE);
        due("16: no sight", x.fixBits(0), NOTHING);
        x.sight(0);
        x.sight(1);
        due("16: one sight", x.fixBits(0), NOTHING);
        due("17: one sight", x.fixAgain(0), NOTHING);
        x.hour();
        x.mood(0, 0x007f);
        x.rum(0, 1);
        x.sight(0);
        // 1.0 and then 1.0 - 0.125
        dueFloatBits("16: fix", x.fixBits(0), 0.9375f);
        dueFloatBits("17: fix", x.fixAgain(0), 0.9375f);
        due("16: the other", x.fixBits(1), NOTHING);
        x.error(1);
        x.mood(0, 0xffff);
        dueFloatBits("16: not of now", x.fixBits(0), 0.9375f);
        x.mood(1, 0x000f);
        x.error(0);
        x.sight(1);
        due("16: zero", x.fixBits(1), 0);
        due("17: zero", x.fixAgain(1), 0);
    }

    private static void promise16Latest() {
        MoodSextant x = shipOf(0xff00);
        x.sight(0);
        x.hour();
        x.mood(0, 0x00ff);
        x.sight(0);
        x.hour();
        x.mood(0, 0x0000);
        x.sight(0);
        dueFloatBits("16: the two latest", x.fixBits(0), 0.0f);
        dueFloatBits("17: the two latest", x.fixAgain(0), 0.0f);
        x.hour();
        x.mood(0, 0x0001);
        x.sight(0);
        dueFloatBits("16: the two latest", x.fixBits(0), -0.875f);
        dueFloatBits("17: the two latest", x.fixAgain(0), -0.875f);
    }

    private static MoodSextant shipWithFixes(int mood, int other) {
        MoodSextant x = shipOf(mood, other);
        x.sight(0);
        x.sight(1);
        x.hour();
        x.mood(0, mood);
        x.mood(1, other);
        x.sight(0);
        x.sight(1);
        return x;
    }

    private static void promise18() {
        MoodSextant x = shipOf(0, 0);
        due("18: no sailor", x.meet(0, 2), NONE);
        due("18: no sailor", x.meet(2, 0), NONE);
        due("18: no sailor", x.meet(-1, 0), NONE);
        due("18: no fix", x.meet(0, 1), NOTHING);
        due("18: no fix with oneself", x.meet(0, 0), NOTHING);
        x.sight(0);
        x.hour();
        x.sight(0);
        due("18: one fix", x.meet(0, 1), NOTHING);
        due("18: one fix", x.meet(1, 0), NOTHING);
        due("18: oneself", x.meet(0, 0), 1);
        due("18: less than a half", shipWithFixes(0x0001, 0x0000).meet(0, 1), 1);
        due("18: a half", shipWithFixes(0x0003, 0x0000).meet(0, 1), 0);
        due("18: a half below", shipWithFixes(0x0000, 0x0003).meet(0, 1), 0);
        due("18: less below", shipWithFixes(0x0000, 0x0001).meet(0, 1), 1);
        due("18: far below", shipWithFixes(0xff00, 0x00ff).meet(0, 1), 0);
        due("18: far above", shipWithFixes(0x00ff, 0xff00).meet(0, 1), 0);
    }

    private static void promise19and20() {
        int[] moods = {0, 0xffff, 0x5555, 0xaaaa, 0x8001, 0x00f0, 0x0100, 0x7fff};
        MoodSextant x = shipOf(moods);
        for (int one = 0; one < moods.length; one++) {
            for (int other = 0; other < moods.length; other++) {
                int want = Integer.bitCount(moods[one] ^ moods[other]);
                due("19: unlike", x.unlike(one, other), want);
                due("20: unlikeAgain", x.unlikeAgain(one, other), want);
            }
        }
        due("19: no sailor", x.unlike(0, 8), NONE);
        due("19: no sailor", x.unlike(-1, 0), NONE);
        due("20: no sailor", x.unlikeAgain(8, 0), NONE);
        due("20: no sailor", x.unlikeAgain(0, -1), NONE);
    }

    private static void promise21() {
        MoodSextant x = shipOf(0x0001, 0x8000, 0x0002, 0x0000, 0x0101, 0x1010, 0xf001, 0x0ff0);
        due("21: fifteen", x.closest(0, 1), 15);
        due("21: one", x.closest(1, 0), 1);
        due("21: one", x.closest(0, 2), 1);
        due("21: back", x.closest(2, 0), 15);
        due("21: all alike", x.closest(0, 3), 0);
        due("21: oneself", x.closest(7, 7), 0);
        due("21: the fewest", x.closest(4, 5), 4);
        due("21: never the same", x.closest(6, 7), 8);
        due("21: no sailor", x.closest(0, 8), NONE);
        due("21: no sailor", x.closest(8, 0), NONE);
        due("21: nothing turned", x.sailorOf(0, 0), 1);
    }

    private static void promise22() {
        MoodSextant x = shipOf(0x00ff);
        x.rum(0, 3);
        x.horizon(1, 0);
        x.horizon(2, 7);
        x.horizon(3, 1);
        due("22: no sailor", x.would(1, 0), NONE);
        due("22: NONE ahead of BAD", x.would(-1, 41), NONE);
        due("22: BAD", x.would(0, -1), BAD);
        due("22: BAD", x.would(0, 41), BAD);
        MoodSextant y = shipOf(0x00ff);
        y.rum(0, 3);
        y.horizon(1, 0);
        y.horizon(2, 7);
        y.horizon(3, 1);
        for (int hours = 0; hours <= 40; hours++) {
            due("22: would " + hours, x.would(0, hours), y.sailorOf(0, 5));
            y.hour();
        }
        due("22: nothing went by", x.account(1), 0);
        hours(x, 3);
        due("22: the next hour changes watches", x.would(0, 1), x.sailorOf(0, 5) - 2 + 4);
    }

    private static void promise23() {
        MoodSextant x = shipOf(0x00ff, 0xffff, 0x000f, 0x0001);
        due("23: no sailor", x.sinks(4), NONE);
        due("23: no sailor", x.sinks(-1), NONE);
        due("23: 8 - 4 is 4, and 2 less each hour", x.sinks(0), 2);
        due("23: it is", x.sinks(1), 0);
        due("23: 0 is enough", x.sinks(2), 0);
        for (int watch = 0; watch < 4; watch++) {
            x.horizon(watch, 0);
        }
        x.mood(2, 0x0002);
        x.mood(0, 0x7f80);
        due("23: below at once", x.sinks(0), 0);
        due("23: at the turn", x.sinks(2), 7);
        due("23: later", x.sinks(3), 8);
        MoodSextant y = shipOf(0x0001);
        for (int watch = 0; watch < 4; watch++) {
            y.horizon(watch, 0);
        }
        y.rum(0, 9);
        due("23: the last cup is as much as the dread", y.sinks(0), 8);
        y.hour();
        due("23: an hour less", y.sinks(0), 7);
        y.mood(0, 0x5555);
        due("23: the rum alone holds it", y.sinks(0), 8);
        // Seven of dread and eight of cheer, until the bit that lacks comes round.
        MoodSextant z = shipOf(0xfeff);
        for (int watch = 0; watch < 4; watch++) {
            z.horizon(watch, 0);
        }
        due("23: from above", z.sinks(0), 8);
    }

    private static void promise24() {
        MoodSextant x = new MoodSextant();
        due("24: none", x.messes(), 0);
        x.sail(0);
        due("24: one", x.messes(), 1);
        x.sail(0x001f);
        due("24: two", x.messes(), 2);
        x.sail(0x0003);
        due("24: joined", x.messes(), 1);
        x.shore(2);
        due("24: parted", x.messes(), 2);
        x.mood(1, 0x000f);
        due("24: by 4", x.messes(), 1);
    }
}
