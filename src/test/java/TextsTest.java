/** Promises 31 to 37: lines, the input, commands, the fault position, and reasons. */
public final class TextsTest extends Expect {
    public static void main(String[] args) {
        promise31();
        promise32();
        promise33();
        promise34();
        promise35();
        promise35Ranges();
        promise35All();
        promise36();
        promise36Words();
        promise37();
        promise37Behind();
        finish();
    }

    private static void dueWritten(String call, MoodSextant x, int length, String want) {
        due(call + ": length of " + want, length, want.length());
        due(call, line(x), want);
    }

    private static void promise31() {
        MoodSextant x = shipOf(0x0f1c, 0xabde, 0x0000, 0x0ff0);
        x.rum(0, 2);
        x.watch(0, 3);
        dueWritten("31", x, x.write(0), "0f1c*2@3>-3");
        dueWritten("31", x, x.write(1), "abde@0>-3");
        dueWritten("31", x, x.write(2), "0000@0>-4");
        dueWritten("31", x, x.write(3), "0ff0@0>-4");
        due("31: no sailor", x.write(4), NONE);
        due("31: no sailor", x.write(-1), NONE);
        due("31: the line stays", line(x), "0ff0@0>-4");
        x.mood(2, 0x00ff);
        x.rum(2, 9);
        x.horizon(0, 1);
        dueWritten("31", x, x.write(2), "00ff*9@0>16");
        x.mood(1, 0x9999);
        x.horizon(0, 0);
        dueWritten("31", x, x.write(1), "9999@0>0");
        x.rum(1, 1);
        dueWritten("31: a cup", x, x.write(1), "9999*1@0>1");
    }

    private static void promise32() {
        MoodSextant x = shipOf(1, 2, 3, 4);
        x.write(0);
        dueWritten("32", x, x.writeLog(), "");
        x.sight(3);
        dueWritten("32", x, x.writeLog(), "3:0");
        hours(x, 11);
        x.sight(3);
        x.hour();
        x.sight(0);
        dueWritten("32", x, x.writeLog(), "0:12 3:11 3:0");
        hours(x, 88);
        for (int hour = 0; hour < 5; hour++) {
            x.sight(0);
            x.sight(1);
            x.hour();
        }
        dueWritten("32", x, x.writeLog(),
                "1:104 0:104 1:103 0:103 1:102 0:102 1:101 0:101 1:100 0:100");
        x.shore(0);
        dueWritten("32", x, x.writeLog(), "0:104 0:103 0:102 0:101 0:100");
    }

    private static void promise33() {
        MoodSextant x = shipOf(0x00ff);
        due("33: none yet", x.written(0), NONE);
        due("33: length", x.write(0), 8);
        due("33: first", x.written(0), '0');
        due("33: last", x.written(7), '4');
        due("33: behind", x.written(8), NONE);
        due("33: before", x.written(-1), NONE);
        due("33: far", x.written(Integer.MAX_VALUE), NONE);
        due("33: far", x.written(Integer.MIN_VALUE), NONE);
        x.writeLog();
        due("33: a shorter line", x.written(0), NONE);
    }

    private static void promise34() {
        MoodSextant x = new MoodSextant();
        due("34: BAD", x.append((char) 31), BAD);
        due("34: BAD", x.append((char) 127), BAD);
        due("34: BAD", x.append((char) 0), BAD);
        due("34: BAD", x.append((char) 65535), BAD);
        due("34: least", x.append((char) 32), 1);
        due("34: greatest", x.append((char) 126), 2);
        for (int length = 3; length <= 60; length++) {
            due("34: length", x.append('h'), length);
        }
        due("34: FULL", x.append('h'), FULL);
        due("34: BAD ahead of FULL", x.append((char) 10), BAD);
        due("34: characters", x.account(9), 60);
        due("34: no change", x.account(10), 0);
    }

    private static void promise35() {
        MoodSextant x = new MoodSextant();
        due("35: sail", read(x, "sail 0f1c"), 1);
        due("35: mood", x.sailorOf(0, 0), 0x0f1c);
        due("35: emptied", x.account(9), 0);
        due("35: sail", read(x, "sail fed9;sail 0000"), 2);
        due("35: mood", x.sailorOf(1, 0), 0xfed9);
        due("35: mood", read(x, "mood 1 1234"), 1);
        due("35: mood", x.sailorOf(1, 0), 0x1234);
        due("35: all hexes", read(x, "mood 1 abcd;mood 1 1234;mood 1 1234"), REFUSED);
        dueReasons("35: all hexes", x, 2, 2, 0x1234);
        due("35: all hexes", read(x, "mood 1 abcd;mood 2 ef09"), 2);
        due("35: mood", x.sailorOf(1, 0), 0xabcd);
        due("35: mood", x.sailorOf(2, 0), 0xef09);
        due("35: rum", read(x, "rum 1 9;rum 0 1"), 2);
        due("35: rum", x.sailorOf(1, 1), 9);
        due("35: rum", x.sailorOf(0, 1), 1);
        due("35: watch", read(x, "watch 2 3"), 1);
        due("35: watch", x.sailorOf(2, 2), 3);
        due("35: horizon", read(x, "horizon 3 8;horizon 0 0"), 2);
        due("35: horizon", x.watchOf(3, 0), 8);
        due("35: horizon", x.watchOf(0, 0), 0);
        due("35: error", read(x, "error -3"), 1);
        due("35: error", x.account(2), -3);
        due("35: error", read(x, "error 3;error -0"), 2);
        due("35: error", x.account(2), 0);
        due("35: sight", read(x, "sight 2"), 1);
        due("35: sight", x.sightOf(0, 0), 2);
        due("35: shore", read(x, "shore 1"), 1);
        due("35: shore", x.account(0), 2);
        due("35: hour", read(x, "hour"), 1);
        due("35: hour", x.account(1), 1);
        due("35: the most", read(x, "hour;hour;hour;hour;hour;hour;hour;hour;hour;hour;hour;hour"), 12);
        due("35: hours", x.account(1), 13);
        due("35: one change", x.undo(), 7);
        due("35: all are undone", x.account(1), 1);
        due("35: counted", x.isCounted(), true);
        due("35: a fault", read(x, "hour;"), BAD);
        due("35: emptied", x.account(9), 0);
        due("35: refused", read(x, "shore 7"), REFUSED);
        due("35: emptied", x.account(9), 0);
        due("35: no change", x.account(10), 7);
    }

    private static void promise35Ranges() {
        String[] texts = {"shore 2", "sight 2", "mood 2 0000", "rum 2 1", "rum 0 0", "watch 2 1",
            "watch 0 4", "horizon 4 0", "horizon 0 9", "error 4", "error -4", "error 9"};
        for (String text : texts) {
            MoodSextant x = shipOf(1, 2);
            due("35: " + text, read(x, text), REFUSED);
            dueReasons("35: " + text, x, 0, NOTHING, NOTHING);
            due("35: hour;" + text, read(x, "hour;" + text), REFUSED);
            dueReasons("35: hour;" + text, x, 1, NOTHING, NOTHING);
            due("35: none is done", x.account(1), 0);
        }
    }

    private static void promise35All() {
        MoodSextant x = shipOf(1, 2);
        java.util.List<Long> before = view(x);
        due("35: numbers after shore", read(x, "rum 1 5;shore 0;rum 0 4;sight 0;rum 1 1"), REFUSED);
        dueReasons("35", x, 4, NOTHING, NOTHING);
        dueView("35: none of them", x, before);
        due("35: after shore", read(x, "rum 1 5;shore 0;rum 0 4;sight 0"), 4);
        due("35: after shore", x.sailorOf(0, 1), 9);
        due("35: new sailor", read(x, "sail 000f;sight 1;hour;sight 1"), 4);
        due("35: new sailor", x.sailorOf(1, 6), 2);
        due("35: changes", x.account(10), 4);
    }

    private static void dueFault(MoodSextant x, String text, int position) {
        due("36: " + text, read(x, text), BAD);
        due("36: fault of " + text, x.fault(), position);
    }

    private static void promise36() {
        MoodSextant x = shipOf(1);
        due("36: none", x.fault(), STATE);
        due("36: no fault", read(x, "hour"), 1);
        due("36: none", x.fault(), STATE);
        dueFault(x, "", 0);
        dueFault(x, "hour;", 5);
        dueFault(x, "hour;;", 5);
        dueFault(x, ";hour", 0);
        dueFault(x, " hour", 0);
        dueFault(x, "hour ", 4);
        dueFault(x, "hour;hour;hour;hour;hour;hour;hour;hour;hour;hour;hour;hour;", 60);
        dueFault(x, "hour;hour;hour;hour;hour;hour;hour;hour;hour;hour;hour;hour ", 59);
        due("36: a good text", read(x, "hour"), 1);
        due("36: it stays", x.fault(), 59);
        due("36: refused", read(x, "shore 9"), REFUSED);
        due("36: it stays", x.fault(), 59);
        dueFault(x, "shore 9;x", 8);
        due("36: the reason stays", x.reason(0, true), 0);
    }

    private static void promise36Words() {
        MoodSextant x = shipOf(1);
        String[] texts = {"sail 00ff", "shore 0", "sight 0", "mood 0 00ff", "rum 0 1", "watch 0 1",
            "horizon 0 1", "error 1", "error -1", "hour"};
        for (String text : texts) {
            for (int length = 0; length < text.length(); length++) {
                x = shipOf(1);
                dueFault(x, text.substring(0, length), length);
                dueFault(x, text.substring(0, length) + "~", length);
                dueFault(x, "hour;" + text.substring(0, length) + "!" + text, 5 + length);
            }
            dueFault(x, text + "0", text.length());
        }
        dueFault(x, "sall", 2);
        dueFault(x, "siil", 2);
        dueFault(x, "hoor", 2);
        dueFault(x, "hou;", 3);
        dueFault(x, "sail 00fg", 8);
        dueFault(x, "sail 00FF", 7);
        dueFault(x, "mood a 00ff", 5);
        dueFault(x, "mood 0  00ff", 7);
        dueFault(x, "rum 0 a", 6);
        dueFault(x, "rum 00 1", 5);
        dueFault(x, "error --1", 7);
        dueFault(x, "error +1", 6);
        dueFault(x, "error -a", 7);
        dueFault(x, "rum 0 -1", 6);
        dueFault(x, "Hour", 0);
        dueFault(x, "mood 0 :000", 7);
        dueFault(x, "mood 0 `000", 7);
        dueFault(x, "mood 0 /000", 7);
    }

    private static void promise37() {
        MoodSextant x = shipOf(1);
        due("37: STATE", x.reason(0, false), STATE);
        due("37: STATE", x.reason(1, true), STATE);
        due("37: BAD ahead of STATE", x.reason(2, false), BAD);
        due("37: BAD ahead of STATE", x.reason(-1, false), BAD);
        x.error(0);
        dueReason("37", x, 2, 0);
        x.sight(0);
        x.sight(0);
        dueReason("37", x, 4, 0);
        x.rum(0, 10);
        dueReason("37: after BAD", x, 4, 0);
        x.rum(0, 7);
        dueReason("37: after a change", x, 4, 0);
        x.rum(0, 3);
        dueReason("37", x, 3, 7);
        due("37: BAD", x.reason(2, true), BAD);
        due("37: BAD", x.reason(Integer.MIN_VALUE, true), BAD);
        x.undo();
        dueReason("37: not undone", x, 3, 7);
        x.save();
        x.watch(0, 0);
        x.restore();
        dueReason("37: not restored", x, 2, 0);
    }

    private static void promise37Behind() {
        MoodSextant x = shipOf(1, 2, 3, 4, 5, 6, 7, 8);
        due("37: crowded", read(x, "sail 0000"), REFUSED);
        dueReasons("37", x, 0, 1, 8);
        due("37: crowded", read(x, "shore 0;sail 0000;hour;sail 0001"), REFUSED);
        dueReasons("37", x, 3, 1, 8);
        due("37: the same mood", read(x, "hour;mood 7 0010"), REFUSED);
        dueReasons("37", x, 1, 2, 16);
        due("37: too much rum", read(x, "rum 3 8;rum 3 2"), REFUSED);
        dueReasons("37", x, 1, 3, 8);
        due("37: sighted", read(x, "sight 5;sight 4;sight 5"), REFUSED);
        dueReasons("37", x, 2, 4, 5);
        due("37: the same watch", read(x, "watch 1 2;watch 1 2"), REFUSED);
        dueReasons("37", x, 1, 2, 2);
        due("37: the same horizon", read(x, "horizon 2 4"), REFUSED);
        dueReasons("37", x, 0, 2, 4);
        due("37: the same error", read(x, "error -2;hour;error -2"), REFUSED);
        dueReasons("37", x, 2, 2, -2);
        due("37: out of range", read(x, "hour;hour;error 7"), REFUSED);
        dueReasons("37", x, 2, NOTHING, NOTHING);
        due("37: read", read(x, "hour"), 1);
        dueReasons("37: after a text", x, 2, NOTHING, NOTHING);
        x.error(0);
        dueReason("37: nothing behind", x, 2, 0);
    }
}
