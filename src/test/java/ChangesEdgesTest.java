/** The boundary cases of promises 1 to 10: one test for each sentence that names one. */
public final class ChangesEdgesTest extends Expect {
    public static void main(String[] args) throws ReflectiveOperationException {
        run(ChangesEdgesTest.class);
        finish();
    }

    private static MoodSextant fullShip() {
        return shipOf(1, 2, 3, 4, 5, 6, 7, 8);
    }

    /** A ship whose only sailor was sighted in each of the first hours; the hour after them has begun. */
    private static MoodSextant shipSighted(int hours) {
        MoodSextant x = shipOf(0x00ff);
        for (int hour = 0; hour < hours; hour++) {
            x.sight(0);
            x.hour();
        }
        return x;
    }

    static void promise1NoSailors() {
        MoodSextant x = new MoodSextant();
        due("account(0)", x.account(0), 0);
        due("sailorOf(0, 0)", x.sailorOf(0, 0), NONE);
        due("watchOf(0, 1)", x.watchOf(0, 1), 0);
        due("packed()", x.packed(), 0L);
    }

    static void promise1HourIsNought() {
        due("account(1)", new MoodSextant().account(1), 0);
    }

    static void promise1HorizonsAreFour() {
        MoodSextant x = new MoodSextant();
        for (int watch = 0; watch <= 3; watch++) {
            due("watchOf(" + watch + ", 0)", x.watchOf(watch, 0), 4);
        }
    }

    static void promise1ErrorIsNought() {
        due("account(2)", new MoodSextant().account(2), 0);
    }

    static void promise1LogIsEmpty() {
        MoodSextant x = new MoodSextant();
        due("account(3)", x.account(3), 0);
        due("sightOf(0, 0)", x.sightOf(0, 0), NONE);
        due("writeLog()", x.writeLog(), 0);
    }

    static void promise1AccountsAreNought() {
        MoodSextant x = new MoodSextant();
        for (int what = 0; what <= 10; what++) {
            due("account(" + what + ")", x.account(what), 0);
        }
    }

    static void promise1NothingIsKept() {
        MoodSextant x = new MoodSextant();
        due("undo()", x.undo(), STATE);
        due("restore()", x.restore(), STATE);
        due("fault()", x.fault(), STATE);
        due("reason(0, false)", x.reason(0, false), STATE);
        due("written(0)", x.written(0), NONE);
    }

    static void promise1ObjectsAreApart() {
        MoodSextant x = new MoodSextant();
        MoodSextant y = new MoodSextant();
        x.sail(7);
        x.horizon(0, 1);
        x.append('h');
        x.save();
        read(x, "?");
        due("account(0)", y.account(0), 0);
        due("watchOf(0, 0)", y.watchOf(0, 0), 4);
        due("account(9)", y.account(9), 0);
        due("restore()", y.restore(), STATE);
        due("fault()", y.fault(), STATE);
    }

    static void promise1HoldsFor512Calls() {
        MoodSextant x = new MoodSextant();
        hours(x, 511);
        due("the 512th call", x.account(1), 511);
    }

    static void promise2MoodTooSmall() {
        MoodSextant x = shipOf(5);
        dueError("sail(-1)", x, BAD, () -> x.sail(-1));
        dueError("sail(least)", x, BAD, () -> x.sail(Integer.MIN_VALUE));
    }

    static void promise2MoodTooLarge() {
        MoodSextant x = shipOf(5);
        dueError("sail(65536)", x, BAD, () -> x.sail(65536));
        dueError("sail(greatest)", x, BAD, () -> x.sail(Integer.MAX_VALUE));
    }

    static void promise2LeastAndGreatestMood() {
        MoodSextant x = new MoodSextant();
        due("sail(0)", x.sail(0), 0);
        due("sail(65535)", x.sail(65535), 1);
        due("sailorOf(0, 0)", x.sailorOf(0, 0), 0);
        due("sailorOf(1, 0)", x.sailorOf(1, 0), 65535);
    }

    static void promise2NumberedFromNought() {
        MoodSextant x = new MoodSextant();
        for (int sailor = 0; sailor < 8; sailor++) {
            due("sail(9)", x.sail(9), sailor);
        }
    }

    static void promise2EighthComesNinthIsRefused() {
        MoodSextant x = shipOf(1, 2, 3, 4, 5, 6, 7);
        due("the eighth", x.sail(8), 7);
        dueError("the ninth", x, REFUSED, () -> x.sail(9));
        dueReason("the ninth", x, 1, 8);
    }

    static void promise2BadIsAheadOfRefused() {
        MoodSextant x = fullShip();
        dueError("sail(65536)", x, BAD, () -> x.sail(65536));
        due("reason(0, false)", x.reason(0, false), STATE);
    }

    static void promise2RoomAgainAfterShore() {
        MoodSextant x = fullShip();
        x.sail(9);
        x.shore(3);
        due("sail(9)", x.sail(9), 7);
        due("sail(10)", x.sail(10), REFUSED);
    }

    static void promise2ComesWithoutRumIntoTheFirstWatch() {
        MoodSextant x = fullShip();
        x.rum(7, 9);
        x.watch(7, 3);
        x.shore(7);
        x.sail(0);
        due("rum", x.sailorOf(7, 1), 0);
        due("watch", x.sailorOf(7, 2), 0);
        x.hour();
        due("no cup is drunk", x.account(7), 0);
    }

    static void promise3NoSuchSailor() {
        MoodSextant x = shipOf(1, 2);
        for (int sailor : new int[] {-1, 2, 8, Integer.MIN_VALUE, Integer.MAX_VALUE}) {
            dueError("shore(" + sailor + ")", x, NONE, () -> x.shore(sailor));
        }
    }

    static void promise3EmptyShip() {
        MoodSextant x = new MoodSextant();
        dueError("shore(0)", x, NONE, () -> x.shore(0));
    }

    static void promise3OnlyOneGoes() {
        MoodSextant x = shipOf(1);
        due("shore(0)", x.shore(0), 0);
        due("shore(0) again", x.shore(0), NONE);
    }

    static void promise3FirstGoes() {
        MoodSextant x = fullShip();
        due("shore(0)", x.shore(0), 7);
        for (int sailor = 0; sailor < 7; sailor++) {
            due("sailorOf(" + sailor + ", 0)", x.sailorOf(sailor, 0), sailor + 2);
        }
        due("sailorOf(7, 0)", x.sailorOf(7, 0), NONE);
    }

    static void promise3LastGoes() {
        MoodSextant x = fullShip();
        due("shore(7)", x.shore(7), 7);
        for (int sailor = 0; sailor < 7; sailor++) {
            due("sailorOf(" + sailor + ", 0)", x.sailorOf(sailor, 0), sailor + 1);
        }
        due("sailorOf(7, 0)", x.sailorOf(7, 0), NONE);
    }

    static void promise3OneFromTheMiddleGoes() {
        MoodSextant x = shipOf(10, 20, 30, 40);
        x.rum(3, 4);
        x.watch(3, 3);
        x.shore(1);
        due("the earlier one stays", x.sailorOf(0, 0), 10);
        due("the later one", x.sailorOf(1, 0), 30);
        due("the last one", x.sailorOf(2, 0), 40);
        due("its rum", x.sailorOf(2, 1), 4);
        due("its watch", x.sailorOf(2, 2), 3);
    }

    static void promise3SightsAreForgotten() {
        MoodSextant x = shipOf(1, 2, 3);
        x.sight(0);
        x.sight(1);
        x.sight(2);
        x.shore(1);
        due("account(3)", x.account(3), 2);
        due("taken so far", x.account(4), 3);
        x.shore(1);
        x.shore(0);
        due("all are forgotten", x.account(3), 0);
        due("sightOf(0, 0)", x.sightOf(0, 0), NONE);
        due("taken so far", x.account(4), 3);
    }

    static void promise3NumbersInTheLogBecomeLess() {
        MoodSextant x = shipOf(1, 2, 3);
        x.sight(0);
        x.sight(1);
        x.sight(2);
        int bits = x.sightOf(0, 2);
        x.shore(1);
        due("the later one", x.sightOf(0, 0), 1);
        due("its bits", x.sightOf(0, 2), bits);
        due("the earlier one", x.sightOf(1, 0), 0);
        due("sightOf(2, 0)", x.sightOf(2, 0), NONE);
    }

    static void promise3SightsThatStayKeepTheirHours() {
        MoodSextant x = shipOf(1, 2);
        x.sight(1);
        x.hour();
        x.sight(0);
        x.sight(1);
        x.shore(0);
        due("the latest one", x.sightOf(0, 1), 1);
        due("the one before it", x.sightOf(1, 1), 0);
        due("sightOf(2, 1)", x.sightOf(2, 1), NONE);
    }

    static void promise3WhoWasSightedStaysSighted() {
        MoodSextant x = shipOf(1, 2);
        x.sight(1);
        x.shore(0);
        due("sight(0)", x.sight(0), REFUSED);
        dueReason("sight(0)", x, 4, 0);
    }

    static void promise3WhoComesThenIsNotSighted() {
        MoodSextant x = shipOf(1);
        x.sight(0);
        x.shore(0);
        x.sail(1);
        due("sightsOf", x.sailorOf(0, 6), 0);
        due("sight(0)", x.sight(0), 1);
    }

    static void promise3RumIsTakenAshore() {
        MoodSextant x = shipOf(1, 2);
        x.rum(0, 9);
        x.rum(1, 1);
        x.shore(0);
        due("taken ashore", x.account(8), 9);
        due("still there", x.account(5), 1);
        due("isCounted()", x.isCounted(), true);
    }

    static void promise4NoSuchSailor() {
        MoodSextant x = shipOf(1, 2);
        for (int sailor : new int[] {-1, 2, Integer.MIN_VALUE, Integer.MAX_VALUE}) {
            dueError("mood(" + sailor + ", 5)", x, NONE, () -> x.mood(sailor, 5));
        }
    }

    static void promise4NoneIsAheadOfBad() {
        MoodSextant x = shipOf(1);
        due("mood(1, 65536)", x.mood(1, 65536), NONE);
        due("mood(-1, -1)", x.mood(-1, -1), NONE);
    }

    static void promise4MoodTooSmall() {
        MoodSextant x = shipOf(1);
        dueError("mood(0, -1)", x, BAD, () -> x.mood(0, -1));
        dueError("mood(0, least)", x, BAD, () -> x.mood(0, Integer.MIN_VALUE));
    }

    static void promise4MoodTooLarge() {
        MoodSextant x = shipOf(1);
        dueError("mood(0, 65536)", x, BAD, () -> x.mood(0, 65536));
        dueError("mood(0, 65537)", x, BAD, () -> x.mood(0, 65537));
        dueError("mood(0, greatest)", x, BAD, () -> x.mood(0, Integer.MAX_VALUE));
    }

    static void promise4LeastAndGreatestMood() {
        MoodSextant x = shipOf(1);
        due("mood(0, 65535)", x.mood(0, 65535), 1);
        due("mood(0, 0)", x.mood(0, 0), 65535);
        due("sailorOf(0, 0)", x.sailorOf(0, 0), 0);
    }

    static void promise4SameMoodIsRefused() {
        MoodSextant x = shipOf(0, 65535);
        dueError("mood(0, 0)", x, REFUSED, () -> x.mood(0, 0));
        dueReason("mood(0, 0)", x, 2, 0);
        dueError("mood(1, 65535)", x, REFUSED, () -> x.mood(1, 65535));
        dueReason("mood(1, 65535)", x, 2, 65535);
    }

    static void promise4SameMoodAsAnotherIsNotRefused() {
        MoodSextant x = shipOf(1, 2);
        due("mood(0, 2)", x.mood(0, 2), 1);
    }

    static void promise4SameMoodAfterItTurned() {
        MoodSextant x = shipOf(0x8000);
        x.hour();
        due("mood(0, 1)", x.mood(0, 1), REFUSED);
        due("mood(0, 0x8000)", x.mood(0, 0x8000), 1);
    }

    static void promise5NoSuchSailor() {
        MoodSextant x = shipOf(1, 2);
        for (int sailor : new int[] {-1, 2, Integer.MIN_VALUE, Integer.MAX_VALUE}) {
            dueError("rum(" + sailor + ", 1)", x, NONE, () -> x.rum(sailor, 1));
        }
    }

    static void promise5NoneIsAheadOfBad() {
        MoodSextant x = shipOf(1);
        due("rum(1, 0)", x.rum(1, 0), NONE);
        due("rum(-1, 10)", x.rum(-1, 10), NONE);
    }

    static void promise5TooFewCups() {
        MoodSextant x = shipOf(1);
        x.rum(0, 5);
        dueError("rum(0, 0)", x, BAD, () -> x.rum(0, 0));
        dueError("rum(0, -1)", x, BAD, () -> x.rum(0, -1));
        dueError("rum(0, least)", x, BAD, () -> x.rum(0, Integer.MIN_VALUE));
    }

    static void promise5TooManyCups() {
        MoodSextant x = shipOf(1);
        dueError("rum(0, 10)", x, BAD, () -> x.rum(0, 10));
        dueError("rum(0, greatest)", x, BAD, () -> x.rum(0, Integer.MAX_VALUE));
    }

    static void promise5FewestAndMostCups() {
        MoodSextant x = shipOf(1, 2);
        due("rum(0, 1)", x.rum(0, 1), 1);
        due("rum(1, 9)", x.rum(1, 9), 9);
        due("rum(0, 8)", x.rum(0, 8), 9);
        due("given", x.account(6), 18);
    }

    static void promise5MoreThanNineIsRefused() {
        MoodSextant x = shipOf(1, 2);
        x.rum(0, 9);
        dueError("rum(0, 1)", x, REFUSED, () -> x.rum(0, 1));
        dueReason("rum(0, 1)", x, 3, 9);
        x.rum(1, 1);
        dueError("rum(1, 9)", x, REFUSED, () -> x.rum(1, 9));
        dueReason("rum(1, 9)", x, 3, 1);
    }

    static void promise5BadIsAheadOfRefused() {
        MoodSextant x = shipOf(1);
        x.rum(0, 9);
        due("rum(0, 10)", x.rum(0, 10), BAD);
        due("reason(0, false)", x.reason(0, false), STATE);
    }

    static void promise5RoomAgainAfterAnHour() {
        MoodSextant x = shipOf(1);
        x.rum(0, 9);
        x.hour();
        due("rum(0, 2)", x.rum(0, 2), REFUSED);
        dueReason("rum(0, 2)", x, 3, 8);
        due("rum(0, 1)", x.rum(0, 1), 9);
    }

    static void promise6NoSuchSailor() {
        MoodSextant x = shipOf(1, 2);
        for (int sailor : new int[] {-1, 2, Integer.MIN_VALUE, Integer.MAX_VALUE}) {
            dueError("watch(" + sailor + ", 1)", x, NONE, () -> x.watch(sailor, 1));
        }
    }

    static void promise6NoSuchWatch() {
        MoodSextant x = shipOf(1);
        for (int watch : new int[] {-1, 4, Integer.MIN_VALUE, Integer.MAX_VALUE}) {
            dueError("watch(0, " + watch + ")", x, NONE, () -> x.watch(0, watch));
        }
    }

    static void promise6FirstAndLastWatch() {
        MoodSextant x = shipOf(1);
        due("watch(0, 3)", x.watch(0, 3), 0);
        due("watch(0, 0)", x.watch(0, 0), 3);
    }

    static void promise6SameWatchIsRefused() {
        MoodSextant x = shipOf(1);
        dueError("watch(0, 0)", x, REFUSED, () -> x.watch(0, 0));
        dueReason("watch(0, 0)", x, 2, 0);
        x.watch(0, 3);
        dueError("watch(0, 3)", x, REFUSED, () -> x.watch(0, 3));
        dueReason("watch(0, 3)", x, 2, 3);
    }

    static void promise6SameWatchAfterItWentOver() {
        MoodSextant x = shipOf(1);
        x.watch(0, 3);
        hours(x, 4);
        due("watch(0, 0)", x.watch(0, 0), REFUSED);
        due("watch(0, 3)", x.watch(0, 3), 0);
    }

    static void promise7NoSuchWatch() {
        MoodSextant x = new MoodSextant();
        for (int watch : new int[] {-1, 4, Integer.MIN_VALUE, Integer.MAX_VALUE}) {
            dueError("horizon(" + watch + ", 1)", x, NONE, () -> x.horizon(watch, 1));
        }
    }

    static void promise7NoneIsAheadOfBad() {
        MoodSextant x = new MoodSextant();
        due("horizon(4, 9)", x.horizon(4, 9), NONE);
        due("horizon(-1, -1)", x.horizon(-1, -1), NONE);
    }

    static void promise7HorizonTooLow() {
        MoodSextant x = new MoodSextant();
        dueError("horizon(0, -1)", x, BAD, () -> x.horizon(0, -1));
        dueError("horizon(0, least)", x, BAD, () -> x.horizon(0, Integer.MIN_VALUE));
    }

    static void promise7HorizonTooHigh() {
        MoodSextant x = new MoodSextant();
        dueError("horizon(3, 9)", x, BAD, () -> x.horizon(3, 9));
        dueError("horizon(3, greatest)", x, BAD, () -> x.horizon(3, Integer.MAX_VALUE));
    }

    static void promise7LowestAndHighestHorizon() {
        MoodSextant x = new MoodSextant();
        due("horizon(0, 0)", x.horizon(0, 0), 4);
        due("horizon(0, 8)", x.horizon(0, 8), 0);
        due("horizon(3, 8)", x.horizon(3, 8), 4);
        due("horizon(3, 0)", x.horizon(3, 0), 8);
        due("another one stays", x.watchOf(2, 0), 4);
    }

    static void promise7SameHorizonIsRefused() {
        MoodSextant x = new MoodSextant();
        dueError("horizon(3, 4)", x, REFUSED, () -> x.horizon(3, 4));
        dueReason("horizon(3, 4)", x, 2, 4);
        x.horizon(0, 0);
        dueError("horizon(0, 0)", x, REFUSED, () -> x.horizon(0, 0));
        dueReason("horizon(0, 0)", x, 2, 0);
        x.horizon(0, 8);
        dueError("horizon(0, 8)", x, REFUSED, () -> x.horizon(0, 8));
        dueReason("horizon(0, 8)", x, 2, 8);
    }

    static void promise8ErrorTooSmall() {
        MoodSextant x = new MoodSextant();
        dueError("error(-4)", x, BAD, () -> x.error(-4));
        dueError("error(least)", x, BAD, () -> x.error(Integer.MIN_VALUE));
    }

    static void promise8ErrorTooLarge() {
        MoodSextant x = new MoodSextant();
        dueError("error(4)", x, BAD, () -> x.error(4));
        dueError("error(greatest)", x, BAD, () -> x.error(Integer.MAX_VALUE));
    }

    static void promise8LeastAndGreatestError() {
        MoodSextant x = new MoodSextant();
        due("error(-3)", x.error(-3), 0);
        due("error(3)", x.error(3), -3);
        due("account(2)", x.account(2), 3);
    }

    static void promise8SameErrorIsRefused() {
        MoodSextant x = new MoodSextant();
        dueError("error(0)", x, REFUSED, () -> x.error(0));
        dueReason("error(0)", x, 2, 0);
        x.error(-3);
        dueError("error(-3)", x, REFUSED, () -> x.error(-3));
        dueReason("error(-3)", x, 2, -3);
        x.error(3);
        dueError("error(3)", x, REFUSED, () -> x.error(3));
        dueReason("error(3)", x, 2, 3);
    }

    static void promise9NoSuchSailor() {
        MoodSextant x = shipOf(1, 2);
        for (int sailor : new int[] {-1, 2, Integer.MIN_VALUE, Integer.MAX_VALUE}) {
            dueError("sight(" + sailor + ")", x, NONE, () -> x.sight(sailor));
        }
    }

    static void promise9FirstSightOfAnEmptyLog() {
        MoodSextant x = shipOf(0x00ff);
        due("sight(0)", x.sight(0), 1);
        due("sightOf(0, 0)", x.sightOf(0, 0), 0);
        due("sightOf(0, 1)", x.sightOf(0, 1), 0);
        dueFloatBits("sightOf(0, 2)", x.sightOf(0, 2), 1.0f);
    }

    static void promise9TenthFillsTheLog() {
        MoodSextant x = shipSighted(9);
        due("the tenth", x.sight(0), 10);
        due("the latest one", x.sightOf(0, 1), 9);
        due("the oldest one", x.sightOf(9, 1), 0);
    }

    static void promise9OldestIsForgottenAtTheEleventh() {
        MoodSextant x = shipSighted(10);
        due("the eleventh", x.sight(0), 10);
        due("account(3)", x.account(3), 10);
        due("taken so far", x.account(4), 11);
        due("the latest one", x.sightOf(0, 1), 10);
        due("the oldest one", x.sightOf(9, 1), 1);
        due("sightOf(10, 1)", x.sightOf(10, 1), NONE);
    }

    static void promise9TwiceInAnHourIsRefused() {
        MoodSextant x = shipOf(1, 2, 3);
        x.sight(0);
        x.sight(2);
        dueError("sight(0)", x, REFUSED, () -> x.sight(0));
        dueReason("sight(0)", x, 4, 0);
        dueError("sight(2)", x, REFUSED, () -> x.sight(2));
        dueReason("sight(2)", x, 4, 2);
        due("sight(1)", x.sight(1), 3);
    }

    static void promise9TwiceInAnHourWithAFullLog() {
        MoodSextant x = shipSighted(10);
        x.sight(0);
        dueError("sight(0)", x, REFUSED, () -> x.sight(0));
        due("taken so far", x.account(4), 11);
    }

    static void promise9AllEightInAnHour() {
        MoodSextant x = fullShip();
        for (int sailor = 0; sailor < 8; sailor++) {
            x.sight(sailor);
        }
        x.hour();
        for (int sailor = 0; sailor < 8; sailor++) {
            x.sight(sailor);
        }
        for (int sailor = 0; sailor < 8; sailor++) {
            due("sight(" + sailor + ")", x.sight(sailor), REFUSED);
            due("its sailor", x.reason(0, true), sailor);
        }
        due("account(3)", x.account(3), 10);
    }

    static void promise9NextHourIsAnother() {
        MoodSextant x = shipOf(1);
        x.sight(0);
        x.hour();
        due("sight(0)", x.sight(0), 2);
    }

    static void promise9ChangeInTheHourHelpsNot() {
        MoodSextant x = shipOf(1);
        x.sight(0);
        x.mood(0, 2);
        x.watch(0, 1);
        x.rum(0, 1);
        x.error(1);
        due("sight(0)", x.sight(0), REFUSED);
    }

    static void promise9SightAgainAfterUndo() {
        MoodSextant x = shipOf(1);
        x.sight(0);
        x.undo();
        due("sight(0)", x.sight(0), 1);
        due("taken so far", x.account(4), 1);
    }

    static void promise9StaysAsItWasRead() {
        MoodSextant x = shipOf(0x00ff);
        x.sight(0);
        x.error(3);
        x.mood(0, 0);
        x.rum(0, 9);
        x.horizon(0, 8);
        x.watch(0, 1);
        x.hour();
        dueFloatBits("sightOf(0, 2)", x.sightOf(0, 2), 1.0f);
        due("sightOf(0, 1)", x.sightOf(0, 1), 0);
    }

    static void promise10WithoutSailors() {
        MoodSextant x = new MoodSextant();
        due("hour()", x.hour(), 0);
        due("account(1)", x.account(1), 1);
        due("account(10)", x.account(10), 1);
    }

    static void promise10BitFifteenBecomesBitNought() {
        MoodSextant x = shipOf(0x8000);
        x.hour();
        due("sailorOf(0, 0)", x.sailorOf(0, 0), 0x0001);
    }

    static void promise10BitNoughtBecomesBitOne() {
        MoodSextant x = shipOf(0x0001);
        x.hour();
        due("sailorOf(0, 0)", x.sailorOf(0, 0), 0x0002);
    }

    static void promise10CheerBecomesDreadAndDreadCheer() {
        MoodSextant x = shipOf(0x0080, 0x8000);
        x.hour();
        due("cheer of the bit 7", x.sailorOf(0, 3), 0);
        due("dread of the bit 7", x.sailorOf(0, 4), 1);
        due("cheer of the bit 15", x.sailorOf(1, 3), 1);
        due("dread of the bit 15", x.sailorOf(1, 4), 0);
    }

    static void promise10EmptyAndFullMoodsStay() {
        MoodSextant x = shipOf(0, 0xffff);
        x.hour();
        due("sailorOf(0, 0)", x.sailorOf(0, 0), 0);
        due("sailorOf(1, 0)", x.sailorOf(1, 0), 0xffff);
    }

    static void promise10RoundInSixteenHours() {
        MoodSextant x = shipOf(0x8a51);
        hours(x, 15);
        due("not yet round", x.sailorOf(0, 0), 0xc528);
        x.hour();
        due("round", x.sailorOf(0, 0), 0x8a51);
    }

    static void promise10LastCup() {
        MoodSextant x = shipOf(1, 2);
        x.rum(0, 1);
        x.rum(1, 2);
        due("hour()", x.hour(), 1);
        due("none is left", x.sailorOf(0, 1), 0);
        due("hour()", x.hour(), 0);
        due("drunk", x.account(7), 3);
    }

    static void promise10NoLessThanNoCup() {
        MoodSextant x = shipOf(1);
        due("hour()", x.hour(), 0);
        due("sailorOf(0, 1)", x.sailorOf(0, 1), 0);
        due("drunk", x.account(7), 0);
    }

    static void promise10MostCups() {
        MoodSextant x = fullShip();
        for (int sailor = 0; sailor < 8; sailor++) {
            x.rum(sailor, 9);
        }
        due("hour()", x.hour(), 64);
        due("drunk", x.account(7), 8);
    }

    static void promise10WatchesGoOverAtFour() {
        MoodSextant x = shipOf(1, 2);
        x.watch(1, 2);
        hours(x, 3);
        due("hour 3", x.sailorOf(0, 2), 0);
        x.hour();
        due("hour 4", x.sailorOf(0, 2), 1);
        due("hour 4", x.sailorOf(1, 2), 3);
        x.hour();
        due("hour 5", x.sailorOf(0, 2), 1);
        hours(x, 3);
        due("hour 8", x.sailorOf(0, 2), 2);
    }

    static void promise10WatchThreeGoesToNought() {
        MoodSextant x = shipOf(1, 2);
        x.watch(0, 3);
        x.watch(1, 3);
        hours(x, 4);
        due("sailorOf(0, 2)", x.sailorOf(0, 2), 0);
        due("watchOf(0, 1)", x.watchOf(0, 1), 2);
        due("watchOf(3, 1)", x.watchOf(3, 1), 0);
    }

    static void promise10AllWatchesAreRoundInSixteenHours() {
        MoodSextant x = shipOf(1, 2, 3, 4);
        x.watch(1, 1);
        x.watch(2, 2);
        x.watch(3, 3);
        hours(x, 16);
        for (int sailor = 0; sailor < 4; sailor++) {
            due("sailorOf(" + sailor + ", 2)", x.sailorOf(sailor, 2), sailor);
        }
    }

    static void promise10HorizonsStayWhereTheyAre() {
        MoodSextant x = shipOf(0);
        x.horizon(0, 0);
        x.horizon(3, 8);
        x.watch(0, 3);
        due("before", x.sailorOf(0, 5), -8);
        hours(x, 4);
        due("watchOf(0, 0)", x.watchOf(0, 0), 0);
        due("watchOf(3, 0)", x.watchOf(3, 0), 8);
        due("the sailor has the other one", x.sailorOf(0, 5), 0);
    }

    static void promise10WhoCameLateGoesOverToo() {
        MoodSextant x = new MoodSextant();
        hours(x, 3);
        x.sail(1);
        x.hour();
        due("sailorOf(0, 2)", x.sailorOf(0, 2), 1);
    }
}
