/** The boundary cases of promises 25 to 30: one test for each sentence that names one. */
public final class OrdersEdgesTest extends Expect {
    private static final int[] FAR = {-1, Integer.MIN_VALUE, Integer.MAX_VALUE};

    public static void main(String[] args) throws ReflectiveOperationException {
        run(OrdersEdgesTest.class);
        finish();
    }

    static void promise25NoSailors() {
        MoodSextant x = new MoodSextant();
        due("highest(0)", x.highest(0), NONE);
    }

    static void promise25NoSuchPlace() {
        MoodSextant x = shipOf(1, 2);
        for (int place : FAR) {
            due("highest(" + place + ")", x.highest(place), NONE);
        }
        due("highest(2)", x.highest(2), NONE);
    }

    static void promise25FirstAndLastPlaceOfAFullShip() {
        MoodSextant x = shipOf(0x0001, 0x0003, 0x0007, 0x000f, 0x001f, 0x003f, 0x007f, 0x00ff);
        due("highest(0)", x.highest(0), 7);
        due("highest(7)", x.highest(7), 0);
        due("highest(8)", x.highest(8), NONE);
    }

    static void promise25MoreCheerOfSeveral() {
        MoodSextant x = shipOf(0x0001, 0x0307, 0x0103);
        due("highest(0)", x.highest(0), 1);
        due("highest(1)", x.highest(1), 2);
        due("highest(2)", x.highest(2), 0);
    }

    static void promise25LowestOfSeveral() {
        MoodSextant x = shipOf(0x0010, 0x0001, 0x0080, 0x0002);
        for (int place = 0; place < 4; place++) {
            due("highest(" + place + ")", x.highest(place), place);
        }
    }

    static void promise25RumIsNoCheer() {
        MoodSextant x = shipOf(0x0000, 0x0001);
        x.rum(0, 1);
        due("the same angle", x.sailorOf(0, 5), x.sailorOf(1, 5));
        due("highest(0)", x.highest(0), 1);
    }

    static void promise25AngleIsAheadOfCheer() {
        MoodSextant x = shipOf(0xffff, 0x0001);
        due("highest(0)", x.highest(0), 1);
        x.watch(0, 3);
        x.horizon(3, 0);
        due("by the horizon", x.highest(0), 0);
    }

    static void promise26NoSights() {
        MoodSextant x = shipOf(1);
        due("ranked(0)", x.ranked(0), NONE);
    }

    static void promise26NoSuchPlace() {
        MoodSextant x = shipOf(1);
        x.sight(0);
        due("ranked(0)", x.ranked(0), 0);
        for (int place : FAR) {
            due("ranked(" + place + ")", x.ranked(place), NONE);
        }
        due("ranked(1)", x.ranked(1), NONE);
    }

    static void promise26LatestOfSeveral() {
        MoodSextant x = shipOf(0x00ff, 0x00ff, 0x00ff);
        for (int sailor = 0; sailor < 3; sailor++) {
            x.sight(sailor);
        }
        for (int place = 0; place < 3; place++) {
            due("ranked(" + place + ")", x.ranked(place), place);
        }
    }

    static void promise26BelowNought() {
        MoodSextant x = shipOf(0x0003, 0x0001, 0x0007, 0x000f);
        for (int sailor = 0; sailor < 4; sailor++) {
            x.sight(sailor);
        }
        int[] want = {0, 1, 3, 2};
        for (int place = 0; place < 4; place++) {
            due("ranked(" + place + ")", x.ranked(place), want[place]);
        }
    }

    static void promise26FullLog() {
        MoodSextant x = shipOf(0);
        allHorizonsAreNought(x);
        for (int hour = 0; hour <= 10; hour++) {
            x.mood(0, hour == 0 ? 0x00ff : hour == 5 ? 0x007f : hour == 10 ? 0x0100 : 0x0001);
            x.sight(0);
            x.hour();
        }
        due("the greatest, without the forgotten one", x.ranked(0), 5);
        due("the latest of several", x.ranked(1), 1);
        due("the least", x.ranked(9), 0);
        due("ranked(10)", x.ranked(10), NONE);
    }

    private static void allHorizonsAreNought(MoodSextant x) {
        for (int watch = 0; watch <= 3; watch++) {
            x.horizon(watch, 0);
        }
    }

    static void promise26ByWhatIsReadNotByTheAngle() {
        MoodSextant x = shipOf(0x0000, 0x0003);
        x.rum(0, 3);
        x.sight(1);
        x.sight(0);
        // The angles are -1 and -2, but three cups take the one down to -0.625, below -0.5.
        due("ranked(0)", x.ranked(0), 1);
        due("ranked(1)", x.ranked(1), 0);
    }

    static void promise27NoSailors() {
        due("packed()", new MoodSextant().packed(), 0L);
    }

    static void promise27FewerThanFour() {
        due("one", shipOf(0xffff).packed(), 0xffffL);
        due("two", shipOf(1, 0xffff).packed(), 0xffff0001L);
        due("three", shipOf(1, 2, 0xffff).packed(), 0xffff00020001L);
    }

    static void promise27AllBits() {
        due("packed()", shipOf(0xffff, 0xffff, 0xffff, 0xffff).packed(), -1L);
    }

    static void promise27HighestBit() {
        due("packed()", shipOf(0, 0, 0, 0x8000).packed(), Long.MIN_VALUE);
        due("the second", shipOf(0, 0x8000).packed(), 0x80000000L);
    }

    static void promise27FifthIsLeftOut() {
        MoodSextant x = shipOf(1, 2, 3, 4, 0xffff);
        due("packed()", x.packed(), 0x0004000300020001L);
        x.shore(3);
        due("in the place of the fourth", x.packed(), 0xffff000300020001L);
        x.shore(3);
        due("none is left there", x.packed(), 0x000300020001L);
    }

    static void promise28EmptyAndFullShip() {
        due("an empty one", new MoodSextant().isCounted(), true);
        due("a full one", shipOf(0, 0xffff, 0x5555, 0xaaaa, 0x8000, 1, 0xff00, 0xff).isCounted(), true);
    }

    static void promise28ForgottenSights() {
        MoodSextant x = shipOf(0x0f1c, 0x1234);
        for (int hour = 0; hour < 7; hour++) {
            x.sight(0);
            x.sight(1);
            x.hour();
        }
        due("after the oldest were forgotten", x.isCounted(), true);
        x.shore(1);
        due("after those of one were forgotten", x.isCounted(), true);
    }

    static void promise28CupsGivenDrunkAndTakenAshore() {
        MoodSextant x = shipOf(1, 2);
        x.rum(0, 9);
        x.rum(1, 5);
        x.hour();
        x.shore(0);
        due("isCounted()", x.isCounted(), true);
        due("given", x.account(6), 14);
        due("there", x.account(5), 4);
        due("drunk", x.account(7), 2);
        due("ashore", x.account(8), 8);
    }

    static void promise28AfterUndoAndRestore() {
        MoodSextant x = shipOf(1, 2);
        x.rum(0, 9);
        x.save();
        x.hour();
        x.shore(0);
        x.undo();
        due("after undo", x.isCounted(), true);
        x.shore(0);
        x.restore();
        due("after restore", x.isCounted(), true);
        due("given", x.account(6), x.account(5) + x.account(7) + x.account(8));
    }

    static void promise28AfterRefused() {
        MoodSextant x = shipOf(1);
        x.rum(0, 9);
        x.rum(0, 1);
        read(x, "hour;shore 0;shore 0");
        due("isCounted()", x.isCounted(), true);
        due("given", x.account(6), 9);
    }

    static void promise29NoSailors() {
        dueDouble("meanAngle()", new MoodSextant().meanAngle(), 0.0);
    }

    static void promise29AllWentAshore() {
        MoodSextant x = shipOf(0x00ff);
        x.shore(0);
        dueDouble("meanAngle()", x.meanAngle(), 0.0);
    }

    static void promise29IsNotRounded() {
        dueDouble("-7 by 2", shipOf(0, 1).meanAngle(), -3.5);
        dueDouble("-7 by 3", shipOf(0x000f, 0x0007, 0x0500).meanAngle(), -7.0 / 3.0);
        dueDouble("1 by 8", shipOf(0x1f, 0xf, 0xf, 0xf, 0xf, 0xf, 0xf, 0xf).meanAngle(), 0.125);
    }

    static void promise29NoughtHasNoSign() {
        dueDouble("meanAngle()", shipOf(0x001f, 0x0007).meanAngle(), 0.0);
    }

    static void promise29GreatestAndLeast() {
        MoodSextant x = shipOf(0x00ff);
        x.rum(0, 9);
        x.horizon(0, 0);
        dueDouble("the greatest", x.meanAngle(), 17.0);
        MoodSextant y = shipOf(0xff00, 0xff00);
        y.horizon(0, 8);
        dueDouble("the least", y.meanAngle(), -16.0);
    }

    static void promise30NoSuchAccount() {
        MoodSextant x = shipOf(1);
        for (int what : FAR) {
            due("account(" + what + ")", x.account(what), BAD);
        }
        due("account(11)", x.account(11), BAD);
    }

    static void promise30SailorsUpToEight() {
        MoodSextant x = new MoodSextant();
        for (int many = 0; many <= 8; many++) {
            due("account(0)", x.account(0), many);
            x.sail(many);
        }
        due("account(0)", x.account(0), 8);
    }

    static void promise30ErrorBelowNought() {
        MoodSextant x = new MoodSextant();
        x.error(-3);
        due("account(2)", x.account(2), -3);
    }

    static void promise30SightsUpToTenAndThoseTaken() {
        MoodSextant x = shipOf(1);
        for (int hour = 0; hour < 12; hour++) {
            due("account(3)", x.account(3), Math.min(10, hour));
            due("account(4)", x.account(4), hour);
            x.sight(0);
            x.hour();
        }
        x.shore(0);
        due("all are forgotten", x.account(3), 0);
        due("taken", x.account(4), 12);
    }

    static void promise30CupsOfAFullShip() {
        MoodSextant x = shipOf(1, 2, 3, 4, 5, 6, 7, 8);
        for (int sailor = 0; sailor < 8; sailor++) {
            x.rum(sailor, 9);
        }
        due("account(5)", x.account(5), 72);
        due("account(6)", x.account(6), 72);
        due("account(7)", x.account(7), 0);
        due("account(8)", x.account(8), 0);
        hours(x, 10);
        due("account(5)", x.account(5), 0);
        due("account(6)", x.account(6), 72);
        due("account(7)", x.account(7), 72);
    }

    static void promise30CharactersUpToSixty() {
        MoodSextant x = new MoodSextant();
        for (int length = 0; length < 60; length++) {
            due("account(9)", x.account(9), length);
            x.append('h');
        }
        due("account(9)", x.account(9), 60);
        x.append('h');
        due("account(9)", x.account(9), 60);
        x.read();
        due("account(9)", x.account(9), 0);
    }

    static void promise30ChangesUpToEight() {
        MoodSextant x = new MoodSextant();
        for (int many = 0; many < 10; many++) {
            due("account(10)", x.account(10), Math.min(8, many));
            x.hour();
        }
        due("account(10)", x.account(10), 8);
        x.undo();
        due("account(10)", x.account(10), 7);
    }
}
