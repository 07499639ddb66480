import java.util.List;

/** The boundary cases of promises 38 to 40: one test for each sentence that names one. */
public final class UndoEdgesTest extends Expect {
    public static void main(String[] args) throws ReflectiveOperationException {
        run(UndoEdgesTest.class);
        finish();
    }

    /** Two sailors, and all numbers otherwise than at first. */
    private static MoodSextant busyShip() {
        MoodSextant x = shipOf(0x00ff, 0x8001, 0x1234);
        x.rum(0, 9);
        x.rum(2, 5);
        x.watch(1, 3);
        x.horizon(3, 8);
        x.error(-2);
        x.sight(0);
        x.sight(1);
        x.hour();
        x.sight(1);
        x.shore(2);
        return x;
    }

    private static void dueUndone(String call, MoodSextant x, Runnable change) {
        List<Long> before = view(x);
        int changes = x.account(10);
        change.run();
        due(call + " counts", x.account(10), Math.min(8, changes + 1));
        due(call + " changes", view(x).equals(before), false);
        due("undo()", x.undo(), Math.min(7, changes));
        dueView(call, x, before);
        due("isCounted()", x.isCounted(), true);
    }

    static void promise38NothingToUndo() {
        MoodSextant x = new MoodSextant();
        dueError("undo()", x, STATE, x::undo);
        x.hour();
        due("undo()", x.undo(), 0);
        dueError("undo() again", x, STATE, x::undo);
    }

    static void promise38EightChanges() {
        MoodSextant x = new MoodSextant();
        hours(x, 8);
        for (int left = 7; left >= 0; left--) {
            due("undo()", x.undo(), left);
            due("account(1)", x.account(1), left);
        }
        due("undo()", x.undo(), STATE);
    }

    static void promise38NinthChangeLosesTheOldest() {
        MoodSextant x = new MoodSextant();
        hours(x, 9);
        for (int left = 7; left >= 0; left--) {
            due("undo()", x.undo(), left);
        }
        due("undo()", x.undo(), STATE);
        due("account(1)", x.account(1), 1);
    }

    static void promise38EightAgainAfterUndoAndMore() {
        MoodSextant x = new MoodSextant();
        hours(x, 10);
        x.undo();
        due("undo()", x.undo(), 6);
        hours(x, 3);
        due("account(10)", x.account(10), 8);
        for (int left = 7; left >= 0; left--) {
            due("undo()", x.undo(), left);
            due("account(1)", x.account(1), left + 3);
        }
        due("undo()", x.undo(), STATE);
    }

    static void promise38RoundAndRound() {
        MoodSextant x = new MoodSextant();
        for (int round = 0; round < 30; round++) {
            hours(x, 3);
            x.undo();
        }
        due("account(10)", x.account(10), 7);
        for (int left = 6; left >= 0; left--) {
            due("undo()", x.undo(), left);
            due("account(1)", x.account(1), 53 + left);
        }
    }

    static void promise38LatestFirst() {
        MoodSextant x = new MoodSextant();
        x.sail(7);
        x.error(3);
        x.undo();
        due("the error", x.account(2), 0);
        due("not yet the sailor", x.account(0), 1);
        x.undo();
        due("the sailor", x.account(0), 0);
    }

    static void promise38EachChange() {
        MoodSextant x = busyShip();
        dueUndone("sail", x, () -> x.sail(9));
        dueUndone("shore", x, () -> x.shore(0));
        dueUndone("mood", x, () -> x.mood(1, 9));
        dueUndone("rum", x, () -> x.rum(1, 9));
        MoodSextant y = busyShip();
        dueUndone("watch", y, () -> y.watch(0, 2));
        dueUndone("horizon", y, () -> y.horizon(0, 0));
        dueUndone("error", y, () -> y.error(3));
        MoodSextant z = busyShip();
        dueUndone("sight", z, () -> z.sight(0));
        dueUndone("hour", z, () -> z.hour());
        dueUndone("read", z, () -> read(z, "hour;sail 0001;sight 2;shore 0"));
    }

    static void promise38HourWithoutSailors() {
        MoodSextant x = new MoodSextant();
        x.hour();
        due("undo()", x.undo(), 0);
        due("account(1)", x.account(1), 0);
    }

    static void promise38TextThatMakesNothingOtherwise() {
        MoodSextant x = new MoodSextant();
        read(x, "error 1;error 0");
        due("account(10)", x.account(10), 1);
        due("undo()", x.undo(), 0);
    }

    static void promise38TextIsOneChange() {
        MoodSextant x = new MoodSextant();
        read(x, "hour;hour;sail 0001;hour");
        due("account(10)", x.account(10), 1);
        due("undo()", x.undo(), 0);
        due("account(0)", x.account(0), 0);
        due("account(1)", x.account(1), 0);
    }

    static void promise38ForgottenSightComesBack() {
        MoodSextant x = shipOf(1);
        for (int hour = 0; hour < 10; hour++) {
            x.sight(0);
            x.hour();
        }
        x.sight(0);
        x.undo();
        due("account(3)", x.account(3), 10);
        due("account(4)", x.account(4), 10);
        due("the latest one", x.sightOf(0, 1), 9);
        due("the oldest one", x.sightOf(9, 1), 0);
    }

    static void promise38SightsOfWhoWentAshoreComeBack() {
        MoodSextant x = shipOf(1, 2);
        x.sight(0);
        x.sight(1);
        x.shore(0);
        x.undo();
        due("account(3)", x.account(3), 2);
        due("sightOf(0, 0)", x.sightOf(0, 0), 1);
        due("sightOf(1, 0)", x.sightOf(1, 0), 0);
        due("account(8)", x.account(8), 0);
    }

    static void promise38ErrorsAreNoChanges() {
        MoodSextant x = shipOf(1, 2, 3, 4, 5, 6, 7, 8);
        dueError("sail(0)", x, REFUSED, () -> x.sail(0));
        dueError("shore(8)", x, NONE, () -> x.shore(8));
        dueError("watch(0, 0)", x, REFUSED, () -> x.watch(0, 0));
        dueError("horizon(0, 9)", x, BAD, () -> x.horizon(0, 9));
        MoodSextant y = shipOf(1);
        dueError("read()", y, REFUSED, () -> read(y, "hour;shore 1"));
        dueError("read()", y, BAD, () -> read(y, "hour;shore"));
        dueError("restore()", y, STATE, y::restore);
        dueError("append", y, BAD, () -> y.append((char) 127));
    }

    static void promise38QuestionsAndLinesAreNoChanges() {
        MoodSextant x = shipOf(1, 2);
        x.write(0);
        x.writeLog();
        x.append('h');
        x.would(0, 40);
        x.closest(0, 1);
        x.save();
        due("account(10)", x.account(10), 2);
    }

    static void promise38InputFaultReasonAndLineStay() {
        MoodSextant x = shipOf(1);
        x.hour();
        read(x, "hour;");
        x.error(0);
        x.append('h');
        x.append('i');
        x.write(0);
        x.undo();
        x.undo();
        due("the input", x.account(9), 2);
        due("the fault position", x.fault(), 5);
        dueReason("the reason", x, 2, 0);
        due("the line", line(x), "0002@0>-3");
        due("the input's characters", x.read(), BAD);
        due("its fault position", x.fault(), 1);
    }

    static void promise39EmptyShip() {
        MoodSextant x = new MoodSextant();
        due("save()", x.save(), 0);
        x.sail(1);
        due("restore()", x.restore(), 0);
        due("account(0)", x.account(0), 0);
    }

    static void promise39FullShip() {
        MoodSextant x = shipOf(1, 2, 3, 4, 5, 6, 7, 8);
        due("save()", x.save(), 8);
        x.shore(0);
        due("restore()", x.restore(), 8);
        due("sailorOf(7, 0)", x.sailorOf(7, 0), 8);
    }

    static void promise39EverythingThatCanBeUndone() {
        MoodSextant x = busyShip();
        List<Long> before = view(x);
        due("save()", x.save(), 2);
        x.mood(0, 3);
        x.rum(1, 1);
        x.watch(0, 2);
        x.horizon(0, 0);
        x.error(1);
        hours(x, 4);
        x.sight(0);
        x.shore(0);
        x.sail(6);
        x.restore();
        dueView("it", x, before);
        due("isCounted()", x.isCounted(), true);
    }

    static void promise39InPlaceOfWhatWasSavedBefore() {
        MoodSextant x = shipOf(1);
        x.save();
        x.sail(2);
        due("save()", x.save(), 2);
        x.shore(0);
        due("restore()", x.restore(), 2);
    }

    static void promise39IsNoChangeAndIsNotUndone() {
        MoodSextant x = shipOf(1);
        x.save();
        due("account(10)", x.account(10), 1);
        x.undo();
        due("account(0)", x.account(0), 0);
        due("restore()", x.restore(), 1);
    }

    static void promise39ChangesCanStillBeUndone() {
        MoodSextant x = shipOf(1, 2);
        x.save();
        due("undo()", x.undo(), 1);
        due("undo()", x.undo(), 0);
    }

    static void promise40NothingWasSaved() {
        MoodSextant x = shipOf(1);
        dueError("restore()", x, STATE, x::restore);
        due("undo()", x.undo(), 0);
    }

    static void promise40StaysSaved() {
        MoodSextant x = busyShip();
        List<Long> before = view(x);
        x.save();
        for (int round = 0; round < 3; round++) {
            x.shore(0);
            x.hour();
            due("restore()", x.restore(), 2);
            dueView("it", x, before);
        }
    }

    static void promise40NothingCanBeUndoneThen() {
        MoodSextant x = shipOf(1);
        hours(x, 9);
        x.save();
        x.hour();
        x.restore();
        due("account(10)", x.account(10), 0);
        dueError("undo()", x, STATE, x::undo);
    }

    static void promise40ItselfIsNotUndone() {
        MoodSextant x = shipOf(1);
        x.save();
        x.shore(0);
        x.restore();
        due("undo()", x.undo(), STATE);
        due("account(0)", x.account(0), 1);
    }

    static void promise40ChangesThenCanBeUndone() {
        MoodSextant x = shipOf(1);
        x.save();
        hours(x, 9);
        x.restore();
        for (int change = 1; change <= 8; change++) {
            x.hour();
            due("account(10)", x.account(10), change);
        }
        for (int left = 7; left >= 0; left--) {
            due("undo()", x.undo(), left);
            due("account(1)", x.account(1), left);
        }
        due("undo()", x.undo(), STATE);
    }

    static void promise40AtOnceAfterSave() {
        MoodSextant x = busyShip();
        List<Long> before = view(x);
        x.save();
        due("restore()", x.restore(), 2);
        dueView("it", x, before);
        due("account(10)", x.account(10), 0);
    }

    static void promise40SightedInTheHourThatIsRestored() {
        MoodSextant x = shipOf(1, 2);
        x.sight(0);
        x.save();
        x.sight(1);
        x.restore();
        due("sight(0)", x.sight(0), REFUSED);
        due("sight(1)", x.sight(1), 2);
    }

    static void promise40InputFaultReasonAndLineStay() {
        MoodSextant x = shipOf(1);
        read(x, "h;");
        x.error(0);
        x.save();
        x.append('h');
        x.write(0);
        x.rum(0, 9);
        x.rum(0, 9);
        read(x, "our;");
        x.append('h');
        x.restore();
        due("the input", x.account(9), 1);
        due("the fault position", x.fault(), 5);
        dueReason("the reason", x, 3, 9);
        due("the line", line(x), "0001@0>-3");
    }
}
