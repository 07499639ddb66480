import java.util.List;

/** The boundary cases of promises 31 to 37: one test for each sentence that names one. */
public final class TextsEdgesTest extends Expect {
    private static final String TWELVE_HOURS = "hour;hour;hour;hour;hour;hour;hour;hour;hour;hour;hour;hour";

    public static void main(String[] args) throws ReflectiveOperationException {
        run(TextsEdgesTest.class);
        finish();
    }

    private static MoodSextant fullShip() {
        return shipOf(1, 2, 3, 4, 5, 6, 7, 8);
    }

    private static void dueWritten(MoodSextant x, int length, String want) {
        due("the length of " + want, length, want.length());
        due("the line", line(x), want);
    }

    private static void dueFault(String text, int position) {
        MoodSextant x = shipOf(1);
        dueError("read() of " + text, x, BAD, () -> read(x, text));
        due("fault() of " + text, x.fault(), position);
        due("account(9) after " + text, x.account(9), 0);
    }

    /** The text is refused for this reason behind that command, and none of it is done. */
    private static void dueRefused(MoodSextant x, String text, int command, int number, int detail) {
        dueError("read() of " + text, x, REFUSED, () -> read(x, text));
        dueReasons(text, x, command, number, detail);
        due("account(9) after " + text, x.account(9), 0);
    }

    private static void dueOutOfRange(String text) {
        dueRefused(shipOf(1, 2), text, 0, NOTHING, NOTHING);
    }

    static void promise31NoSuchSailor() {
        MoodSextant x = shipOf(1, 2);
        for (int sailor : new int[] {-1, 2, Integer.MIN_VALUE, Integer.MAX_VALUE}) {
            due("write(" + sailor + ")", x.write(sailor), NONE);
        }
        due("an empty ship", new MoodSextant().write(0), NONE);
    }

    static void promise31LineStaysWithoutASailor() {
        MoodSextant x = shipOf(1);
        x.write(0);
        x.write(1);
        due("the line", line(x), "0001@0>-3");
    }

    static void promise31ExampleOfTheDocument() {
        MoodSextant x = shipOf(0x0f1c);
        x.rum(0, 2);
        x.watch(0, 3);
        x.horizon(3, 5);
        dueWritten(x, x.write(0), "0f1c*2@3>-4");
    }

    static void promise31WithoutRumNoStar() {
        MoodSextant x = shipOf(0x00ff);
        x.rum(0, 1);
        dueWritten(x, x.write(0), "00ff*1@0>5");
        x.hour();
        dueWritten(x, x.write(0), "01fe@0>2");
    }

    static void promise31LeastAndGreatestMood() {
        MoodSextant x = shipOf(0x0000, 0xffff);
        dueWritten(x, x.write(0), "0000@0>-4");
        dueWritten(x, x.write(1), "ffff@0>-4");
    }

    static void promise31NineAndA() {
        MoodSextant x = shipOf(0x9a9a, 0xa90f);
        dueWritten(x, x.write(0), "9a9a@0>-4");
        dueWritten(x, x.write(1), "a90f@0>-4");
    }

    static void promise31AngleOfTwoDigits() {
        MoodSextant x = shipOf(0x00ff, 0xff00);
        x.watch(0, 1);
        x.rum(0, 9);
        x.horizon(1, 0);
        x.horizon(0, 8);
        dueWritten(x, x.write(0), "00ff*9@1>17");
        dueWritten(x, x.write(1), "ff00@0>-16");
        x.horizon(1, 7);
        dueWritten(x, x.write(0), "00ff*9@1>10");
        x.horizon(1, 8);
        dueWritten(x, x.write(0), "00ff*9@1>9");
        x.horizon(0, 2);
        dueWritten(x, x.write(1), "ff00@0>-10");
        x.horizon(0, 1);
        dueWritten(x, x.write(1), "ff00@0>-9");
    }

    static void promise31AngleNought() {
        MoodSextant x = shipOf(0x000f);
        dueWritten(x, x.write(0), "000f@0>0");
    }

    static void promise31InPlaceOfALongerLine() {
        MoodSextant x = shipOf(0x00ff, 0x000f);
        x.rum(0, 9);
        x.write(0);
        dueWritten(x, x.write(1), "000f@0>0");
    }

    static void promise32EmptyLog() {
        MoodSextant x = shipOf(1);
        x.write(0);
        dueWritten(x, x.writeLog(), "");
    }

    static void promise32ExampleOfTheDocument() {
        MoodSextant x = shipOf(1, 2, 3, 4);
        hours(x, 11);
        x.sight(3);
        x.hour();
        x.sight(0);
        dueWritten(x, x.writeLog(), "0:12 3:11");
    }

    static void promise32OneSightHasNoBlank() {
        MoodSextant x = shipOf(1, 2);
        x.sight(1);
        dueWritten(x, x.writeLog(), "1:0");
    }

    static void promise32FullLog() {
        MoodSextant x = shipOf(1);
        for (int hour = 0; hour <= 10; hour++) {
            x.sight(0);
            x.hour();
        }
        dueWritten(x, x.writeLog(), "0:10 0:9 0:8 0:7 0:6 0:5 0:4 0:3 0:2 0:1");
    }

    static void promise32LongestLine() {
        MoodSextant x = fullShip();
        hours(x, 100);
        for (int sailor = 0; sailor < 8; sailor++) {
            x.sight(sailor);
        }
        x.hour();
        x.sight(6);
        x.sight(7);
        dueWritten(x, x.writeLog(), "7:101 6:101 7:100 6:100 5:100 4:100 3:100 2:100 1:100 0:100");
    }

    static void promise33NoLineYet() {
        MoodSextant x = shipOf(1);
        for (int index : new int[] {-1, 0, 1, Integer.MIN_VALUE, Integer.MAX_VALUE}) {
            due("written(" + index + ")", x.written(index), NONE);
        }
    }

    static void promise33FirstAndLastCharacter() {
        MoodSextant x = shipOf(0xf00d);
        int length = x.write(0);
        due("the first", x.written(0), 'f');
        due("the last", x.written(length - 1), '5');
        due("before the first", x.written(-1), NONE);
        due("behind the last", x.written(length), NONE);
        due("far before", x.written(Integer.MIN_VALUE), NONE);
        due("far behind", x.written(Integer.MAX_VALUE), NONE);
    }

    static void promise33NothingIsLeftOfALongerLine() {
        MoodSextant x = shipOf(0x00ff, 0x000f);
        x.rum(0, 9);
        due("a longer one", x.write(0), 11);
        due("a shorter one", x.write(1), 8);
        due("written(7)", x.written(7), '0');
        due("written(8)", x.written(8), NONE);
        x.writeLog();
        due("an empty one", x.written(0), NONE);
    }

    static void promise33LineStaysAsItWasWritten() {
        MoodSextant x = shipOf(0x000f);
        x.write(0);
        x.mood(0, 0xffff);
        x.shore(0);
        due("the line", line(x), "000f@0>0");
    }

    static void promise34CodeTooSmall() {
        MoodSextant x = new MoodSextant();
        due("code 31", x.append((char) 31), BAD);
        due("code 0", x.append((char) 0), BAD);
        due("account(9)", x.account(9), 0);
    }

    static void promise34CodeTooLarge() {
        MoodSextant x = new MoodSextant();
        due("code 127", x.append((char) 127), BAD);
        due("code 255", x.append((char) 255), BAD);
        due("code 65535", x.append((char) 65535), BAD);
        due("account(9)", x.account(9), 0);
    }

    static void promise34LeastAndGreatestCode() {
        MoodSextant x = new MoodSextant();
        due("code 32", x.append((char) 32), 1);
        due("code 126", x.append((char) 126), 2);
    }

    static void promise34SixtiethFitsNextIsFull() {
        MoodSextant x = new MoodSextant();
        for (int length = 1; length <= 60; length++) {
            due("append", x.append('z'), length);
        }
        due("the 61st", x.append('z'), FULL);
        due("account(9)", x.account(9), 60);
    }

    static void promise34BadIsAheadOfFull() {
        MoodSextant x = new MoodSextant();
        for (int length = 1; length <= 60; length++) {
            x.append('z');
        }
        due("code 31", x.append((char) 31), BAD);
        due("code 127", x.append((char) 127), BAD);
    }

    static void promise34WhatWasTooMuchIsNotRead() {
        MoodSextant x = new MoodSextant();
        due("a text of 59, a semicolon, and more", read(x, TWELVE_HOURS + ";hour"), BAD);
        due("fault()", x.fault(), 60);
    }

    static void promise34RoomAgainAfterRead() {
        MoodSextant x = new MoodSextant();
        for (int length = 1; length <= 61; length++) {
            x.append('z');
        }
        x.read();
        due("append", x.append('z'), 1);
    }

    static void promise35EmptyText() {
        dueFault("", 0);
    }

    static void promise35OneCommand() {
        MoodSextant x = new MoodSextant();
        due("read()", read(x, "hour"), 1);
        due("account(1)", x.account(1), 1);
    }

    static void promise35TwelveCommands() {
        MoodSextant x = new MoodSextant();
        due("read()", read(x, TWELVE_HOURS), 12);
        due("account(1)", x.account(1), 12);
    }

    static void promise35SixtyCharacters() {
        MoodSextant x = new MoodSextant();
        String text = "sail 0001;sail 0002;sail ffff;sail 0004;sail 0005;sail a006!";
        due("its length", text.length(), 60);
        due("with a fault at the end", read(x, text), BAD);
        due("fault()", x.fault(), 59);
        due("of 60", read(x, "sail 0001;sail 0002;hour;hour;hour;hour;hour;hour;error -1;h"), BAD);
        due("fault()", x.fault(), 60);
        due("all right", read(x, "sail 0001;sail 0002;hour;hour;hour;hour;hour;rum 0 1;rum 1 1"), 9);
    }

    static void promise35InputIsEmptyThen() {
        MoodSextant x = shipOf(1);
        read(x, "hour");
        due("after a good one", x.account(9), 0);
        read(x, "hou");
        due("after a fault", x.account(9), 0);
        read(x, "shore 1");
        due("after a refused one", x.account(9), 0);
        due("nothing is left", read(x, "hour"), 1);
    }

    static void promise35AllOrNone() {
        dueRefused(shipOf(1, 2), "rum 0 9;hour;watch 1 3;horizon 0 0;error 3;hour;rum 1 0", 6, NOTHING, NOTHING);
        dueRefused(shipOf(1, 2), "sight 0;shore 1;sail 0000;sight 1;rum 0 4;rum 0 6", 5, 3, 4);
    }

    static void promise35FaultIsAheadOfRefused() {
        dueFault("shore 9;hou", 11);
        MoodSextant x = shipOf(1);
        read(x, "shore 9;x");
        due("reason(0, false)", x.reason(0, false), STATE);
    }

    static void promise35FirstRefusedCommandOfSeveral() {
        dueRefused(shipOf(1), "hour;error 0;shore 7;error 9", 1, 2, 0);
        dueRefused(shipOf(1), "hour;shore 7;error 0", 1, NOTHING, NOTHING);
    }

    static void promise35OneAfterTheOther() {
        MoodSextant x = new MoodSextant();
        due("read()", read(x, "sail 8000;sight 0;hour;sight 0;sail 0002;shore 0;rum 0 1"), 7);
        due("account(0)", x.account(0), 1);
        due("sailorOf(0, 0)", x.sailorOf(0, 0), 2);
        due("sailorOf(0, 1)", x.sailorOf(0, 1), 1);
        due("account(3)", x.account(3), 0);
        due("account(4)", x.account(4), 2);
    }

    static void promise35SailorOutOfRange() {
        for (String text : new String[] {"shore 2", "sight 2", "mood 2 0001", "rum 2 1", "watch 2 1", "shore 9", "watch 9 0"}) {
            dueOutOfRange(text);
        }
    }

    static void promise35SailorWhoWentOrHasNotCome() {
        dueRefused(shipOf(1), "shore 0;sight 0", 1, NOTHING, NOTHING);
        dueRefused(new MoodSextant(), "sight 0;sail 0001", 0, NOTHING, NOTHING);
    }

    static void promise35CupsOutOfRange() {
        dueOutOfRange("rum 0 0");
        MoodSextant x = shipOf(1, 2);
        due("read()", read(x, "rum 0 1;rum 1 9"), 2);
        due("account(5)", x.account(5), 10);
    }

    static void promise35WatchOutOfRange() {
        for (String text : new String[] {"watch 0 4", "watch 0 9", "horizon 4 0", "horizon 4 4", "horizon 9 0"}) {
            dueOutOfRange(text);
        }
        MoodSextant x = shipOf(1);
        due("read()", read(x, "watch 0 3;horizon 3 0;watch 0 0;horizon 0 1"), 4);
        due("watchOf(3, 0)", x.watchOf(3, 0), 0);
        due("watchOf(0, 0)", x.watchOf(0, 0), 1);
    }

    static void promise35HorizonOutOfRange() {
        dueOutOfRange("horizon 0 9");
        MoodSextant x = shipOf(1);
        due("read()", read(x, "horizon 0 8;horizon 1 0"), 2);
        due("watchOf(0, 0)", x.watchOf(0, 0), 8);
    }

    static void promise35ErrorOutOfRange() {
        for (String text : new String[] {"error 4", "error -4", "error 9", "error -9"}) {
            dueOutOfRange(text);
        }
        MoodSextant x = shipOf(1);
        due("read()", read(x, "error 3;error -3"), 2);
        due("account(2)", x.account(2), -3);
    }

    static void promise35ErrorBelowNoughtThatIsNought() {
        dueRefused(new MoodSextant(), "error -0", 0, 2, 0);
        MoodSextant x = new MoodSextant();
        due("read()", read(x, "error 1;error -0"), 2);
        due("account(2)", x.account(2), 0);
    }

    static void promise35LeastAndGreatestMood() {
        MoodSextant x = new MoodSextant();
        due("read()", read(x, "sail 0000;sail ffff;sail 09af"), 3);
        due("sailorOf(0, 0)", x.sailorOf(0, 0), 0);
        due("sailorOf(1, 0)", x.sailorOf(1, 0), 65535);
        due("the highest four bits first", x.sailorOf(2, 0), 0x09af);
        due("read()", read(x, "mood 0 ffff;mood 1 0000;mood 2 8000"), 3);
        due("sailorOf(0, 0)", x.sailorOf(0, 0), 65535);
        due("sailorOf(1, 0)", x.sailorOf(1, 0), 0);
        due("sailorOf(2, 0)", x.sailorOf(2, 0), 0x8000);
    }

    static void promise35NothingIsOtherwiseThen() {
        MoodSextant x = shipOf(1);
        List<Long> before = view(x);
        due("read()", read(x, "error 1;error 0;watch 0 1;watch 0 0"), 4);
        dueView("it", x, before);
        due("it is a change", x.account(10), 2);
        due("undo()", x.undo(), 1);
        dueView("undone", x, before);
    }

    static void promise36NoneWasKept() {
        MoodSextant x = shipOf(1);
        due("new", x.fault(), STATE);
        read(x, "hour");
        due("after a good one", x.fault(), STATE);
        read(x, "shore 9");
        due("after a refused one", x.fault(), STATE);
    }

    static void promise36FirstCharacter() {
        for (String text : new String[] {";", " ", "x", "0", "-", "S", "HOUR", ";hour", " hour"}) {
            dueFault(text, 0);
        }
    }

    static void promise36EndsTooEarly() {
        String[] texts = {"sail 00ff", "shore 0", "sight 0", "mood 0 00ff", "rum 0 1", "watch 0 1", "horizon 0 1",
            "error 1", "error -1", "hour"};
        for (String text : texts) {
            for (int length = 0; length < text.length(); length++) {
                dueFault(text.substring(0, length), length);
                dueFault("hour;" + text.substring(0, length), 5 + length);
            }
        }
    }

    static void promise36EndsBehindASemicolon() {
        dueFault("hour;", 5);
        dueFault("sail 00ff;", 10);
        dueFault(TWELVE_HOURS + ";", 60);
    }

    static void promise36EmptyCommand() {
        dueFault("hour;;hour", 5);
        dueFault(";;", 0);
    }

    static void promise36MoreBehindACommand() {
        dueFault("hour ", 4);
        dueFault("hours", 4);
        dueFault("hour hour", 4);
        dueFault("sail 00fff", 9);
        dueFault("sail 00ff ;hour", 9);
        dueFault("shore 00", 7);
        dueFault("sight 0 ", 7);
        dueFault("mood 0 00ff0", 11);
        dueFault("rum 0 10", 7);
        dueFault("watch 0 1-", 9);
        dueFault("horizon 0 1x", 11);
        dueFault("error 10", 7);
        dueFault("error -10", 8);
    }

    static void promise36LetterByLetter() {
        dueFault("x", 0);
        dueFault("sx", 1);
        dueFault("sax", 2);
        dueFault("shx", 2);
        dueFault("six", 2);
        dueFault("hox", 2);
        dueFault("hoix", 2);
        dueFault("horx", 3);
        dueFault("houx", 3);
        dueFault("mox", 2);
        dueFault("rux", 2);
        dueFault("wax", 2);
        dueFault("erx", 2);
        dueFault("saight 0", 3);
        dueFault("shoar", 3);
        dueFault("sighs", 4);
        dueFault("houur", 3);
        dueFault("horison", 4);
        dueFault("Hour", 0);
        dueFault("hOur", 1);
    }

    static void promise36BlankIsWanted() {
        dueFault("sail0000", 4);
        dueFault("shore;", 5);
        dueFault("mood 00000", 6);
        dueFault("rum 01", 5);
        dueFault("watch 0;1", 7);
        dueFault("horizon 01", 9);
        dueFault("error-1", 5);
        dueFault("sail  000", 5);
        dueFault("rum  0 1", 4);
        dueFault("rum 0  1", 6);
        dueFault("mood 0  000", 7);
    }

    static void promise36DigitIsWanted() {
        for (String sign : new String[] {"a", "f", "/", ":", "-", " ", ";", "+"}) {
            dueFault("shore " + sign, 6);
            dueFault("sight " + sign, 6);
            dueFault("mood " + sign, 5);
            dueFault("rum " + sign, 4);
            dueFault("rum 0 " + sign, 6);
            dueFault("watch " + sign, 6);
            dueFault("watch 0 " + sign, 8);
            dueFault("horizon " + sign, 8);
            dueFault("horizon 0 " + sign, 10);
            dueFault("error -" + sign, 7);
        }
    }

    static void promise36ErrorMayBeginWithAMinus() {
        for (String sign : new String[] {"a", "/", ":", " ", ";", "+"}) {
            dueFault("error " + sign, 6);
        }
        dueFault("error -", 7);
        dueFault("error --", 7);
    }

    static void promise36HexIsWanted() {
        for (String sign : new String[] {"g", "`", "A", "F", "G", "/", ":", "-", " ", ";"}) {
            dueFault("sail " + sign, 5);
            dueFault("sail 09a" + sign, 8);
            dueFault("mood 0 " + sign, 7);
            dueFault("mood 0 f09" + sign, 10);
        }
    }

    static void promise36FaultOfALaterCommand() {
        dueFault("hour;sail 00ff;shore 0;error -x", 30);
        dueFault("shore 9;rum 0 0;x", 16);
    }

    static void promise36KeptLast() {
        MoodSextant x = shipOf(1);
        read(x, "hour;");
        due("the first", x.fault(), 5);
        read(x, "x");
        due("the one after it", x.fault(), 0);
        read(x, "hour");
        due("a good one leaves it", x.fault(), 0);
        read(x, "shore 9");
        due("a refused one leaves it", x.fault(), 0);
    }

    static void promise37DepthTooSmallOrTooLarge() {
        MoodSextant x = new MoodSextant();
        x.error(0);
        for (int depth : new int[] {-1, 2, Integer.MIN_VALUE, Integer.MAX_VALUE}) {
            due("reason(" + depth + ", false)", x.reason(depth, false), BAD);
            due("reason(" + depth + ", true)", x.reason(depth, true), BAD);
        }
    }

    static void promise37BadIsAheadOfState() {
        MoodSextant x = new MoodSextant();
        due("reason(-1, false)", x.reason(-1, false), BAD);
        due("reason(2, true)", x.reason(2, true), BAD);
    }

    static void promise37NothingWasRefused() {
        MoodSextant x = shipOf(1);
        x.sail(-1);
        x.shore(1);
        read(x, "x");
        for (int depth = 0; depth <= 1; depth++) {
            due("reason(" + depth + ", false)", x.reason(depth, false), STATE);
            due("reason(" + depth + ", true)", x.reason(depth, true), STATE);
        }
    }

    static void promise37NothingLiesBehindOneOfACall() {
        MoodSextant x = fullShip();
        x.rum(0, 9);
        x.sight(0);
        x.sail(0);
        dueReason("1", x, 1, 8);
        x.mood(0, 1);
        dueReason("2, mood", x, 2, 1);
        x.watch(0, 0);
        dueReason("2, watch", x, 2, 0);
        x.horizon(0, 4);
        dueReason("2, horizon", x, 2, 4);
        x.error(0);
        dueReason("2, error", x, 2, 0);
        x.rum(0, 1);
        dueReason("3", x, 3, 9);
        x.sight(0);
        dueReason("4", x, 4, 0);
    }

    static void promise37NothingLiesBehindANumberOutOfRange() {
        dueRefused(shipOf(1), "shore 1", 0, NOTHING, NOTHING);
        dueRefused(shipOf(1), "hour;rum 0 0", 1, NOTHING, NOTHING);
    }

    static void promise37ReasonBehindACommand() {
        dueRefused(fullShip(), "sail 0000", 0, 1, 8);
        dueRefused(shipOf(1), "mood 0 0001", 0, 2, 1);
        dueRefused(shipOf(1), "watch 0 0", 0, 2, 0);
        dueRefused(shipOf(1), "horizon 3 4", 0, 2, 4);
        dueRefused(shipOf(1), "error 0", 0, 2, 0);
        dueRefused(shipOf(1), "rum 0 9;rum 0 9", 1, 3, 9);
        dueRefused(shipOf(1), "sight 0;sight 0", 1, 4, 0);
    }

    static void promise37SailorOfTheReasonIsNumberedAsThen() {
        MoodSextant x = shipOf(1, 2, 3);
        x.sight(2);
        dueRefused(x, "shore 0;sight 1", 1, 4, 1);
    }

    static void promise37LastCommandOfALongText() {
        dueRefused(shipOf(1), TWELVE_HOURS.substring(0, 50) + "shore 9", 10, NOTHING, NOTHING);
        dueRefused(shipOf(1), TWELVE_HOURS.substring(0, 50) + "error 0", 10, 2, 0);
    }

    static void promise37LatestIsKept() {
        MoodSextant x = shipOf(1);
        read(x, "sight 0;sight 0");
        dueReasons("of a text", x, 1, 4, 0);
        x.error(0);
        dueReason("of a call, without what lay behind", x, 2, 0);
        read(x, "hour;error 0");
        dueReasons("of a text again", x, 1, 2, 0);
        read(x, "rum 0 0");
        dueReasons("without what lay behind", x, 0, NOTHING, NOTHING);
    }

    static void promise37StaysThroughErrorsAndChanges() {
        MoodSextant x = shipOf(1);
        x.error(0);
        x.rum(0, 10);
        x.shore(5);
        read(x, "x");
        x.hour();
        read(x, "hour");
        x.save();
        x.undo();
        x.restore();
        dueReason("it", x, 2, 0);
    }
}
