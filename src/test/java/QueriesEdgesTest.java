/** The boundary cases of promises 11 to 24: one test for each sentence that names one. */
public final class QueriesEdgesTest extends Expect {
    private static final int[] NO_SAILORS = {-1, 2, 8, Integer.MIN_VALUE, Integer.MAX_VALUE};
    /** Each two of them are unlike by 8 or 16. */
    private static final int[] LONERS = {0x0000, 0x00ff, 0xff00, 0xffff, 0x0f0f, 0xf0f0, 0x3333, 0xcccc};

    public static void main(String[] args) throws ReflectiveOperationException {
        run(QueriesEdgesTest.class);
        finish();
    }

    private static void allHorizons(MoodSextant x, int horizon) {
        for (int watch = 0; watch <= 3; watch++) {
            x.horizon(watch, horizon);
        }
    }

    /** The sailors 0 and 1, each with two sights of these moods, without rum and at the horizon 0. */
    private static MoodSextant shipWithFixes(int one, int oneLater, int other, int otherLater) {
        MoodSextant x = shipOf(one, other);
        x.horizon(0, 0);
        x.sight(0);
        x.sight(1);
        x.hour();
        x.mood(0, oneLater);
        x.mood(1, otherLater);
        x.sight(0);
        x.sight(1);
        return x;
    }

    static void promise11NoSuchSailor() {
        MoodSextant x = shipOf(1, 2);
        for (int sailor : NO_SAILORS) {
            due("sailorOf(" + sailor + ", 0)", x.sailorOf(sailor, 0), NONE);
        }
        due("an empty ship", new MoodSextant().sailorOf(0, 0), NONE);
    }

    static void promise11NoSuchNumber() {
        MoodSextant x = shipOf(1);
        for (int what : new int[] {-1, 9, Integer.MIN_VALUE, Integer.MAX_VALUE}) {
            due("sailorOf(0, " + what + ")", x.sailorOf(0, what), BAD);
        }
    }

    static void promise11NoneIsAheadOfBad() {
        MoodSextant x = shipOf(1);
        due("sailorOf(1, 9)", x.sailorOf(1, 9), NONE);
        due("sailorOf(-1, -1)", x.sailorOf(-1, -1), NONE);
    }

    static void promise11FirstAndLastNumber() {
        MoodSextant x = shipOf(0xabcd);
        due("sailorOf(0, 0)", x.sailorOf(0, 0), 0xabcd);
        due("sailorOf(0, 8)", x.sailorOf(0, 8), 1);
    }

    static void promise11CheerEndsAtBitSeven() {
        MoodSextant x = shipOf(0x0001, 0x0080, 0x0100, 0x00ff);
        due("the bit 0", x.sailorOf(0, 3), 1);
        due("the bit 7", x.sailorOf(1, 3), 1);
        due("the bit 8", x.sailorOf(2, 3), 0);
        due("all of them", x.sailorOf(3, 3), 8);
    }

    static void promise11DreadBeginsAtBitEight() {
        MoodSextant x = shipOf(0x0080, 0x0100, 0x8000, 0xff00);
        due("the bit 7", x.sailorOf(0, 4), 0);
        due("the bit 8", x.sailorOf(1, 4), 1);
        due("the bit 15", x.sailorOf(2, 4), 1);
        due("all of them", x.sailorOf(3, 4), 8);
    }

    static void promise11GreatestAngle() {
        MoodSextant x = shipOf(0x00ff);
        x.rum(0, 9);
        x.horizon(0, 0);
        due("sailorOf(0, 5)", x.sailorOf(0, 5), 17);
    }

    static void promise11LeastAngle() {
        MoodSextant x = shipOf(0xff00);
        x.horizon(0, 8);
        due("sailorOf(0, 5)", x.sailorOf(0, 5), -16);
    }

    static void promise11AngleIsWithoutTheError() {
        MoodSextant x = shipOf(0x00ff);
        x.error(3);
        due("sailorOf(0, 5)", x.sailorOf(0, 5), 4);
    }

    static void promise11NoSightToTenSights() {
        MoodSextant x = shipOf(1, 2);
        due("none", x.sailorOf(0, 6), 0);
        for (int hour = 0; hour < 10; hour++) {
            x.sight(0);
            x.hour();
        }
        due("ten", x.sailorOf(0, 6), 10);
        x.sight(0);
        due("still ten", x.sailorOf(0, 6), 10);
        x.sight(1);
        due("one is forgotten", x.sailorOf(0, 6), 9);
        due("the other", x.sailorOf(1, 6), 1);
    }

    static void promise11MatesByFourAtMost() {
        MoodSextant four = shipOf(0x0000, 0x8421);
        due("unlike by 4", four.sailorOf(0, 7), 1);
        due("unlike by 4", four.sailorOf(1, 7), 1);
        MoodSextant five = shipOf(0x0000, 0x8461);
        due("unlike by 5", five.sailorOf(0, 7), 0);
        due("unlike by 5", five.sailorOf(1, 7), 0);
    }

    static void promise11NobodyIsAnOwnMate() {
        due("one alone", shipOf(5).sailorOf(0, 7), 0);
    }

    static void promise11AllAreMates() {
        MoodSextant x = shipOf(5, 5, 5, 5, 5, 5, 5, 5);
        for (int sailor = 0; sailor < 8; sailor++) {
            due("sailorOf(" + sailor + ", 7)", x.sailorOf(sailor, 7), 7);
            due("sailorOf(" + sailor + ", 8)", x.sailorOf(sailor, 8), 255);
        }
    }

    static void promise11OneWithoutMatesIsAMessAlone() {
        MoodSextant x = shipOf(LONERS);
        for (int sailor = 0; sailor < 8; sailor++) {
            due("sailorOf(" + sailor + ", 8)", x.sailorOf(sailor, 8), 1 << sailor);
        }
    }

    static void promise11MatesOfMatesAreOfTheMess() {
        MoodSextant x = shipOf(0x0000, 0x00ff, 0x000f, 0x5555);
        due("mates of the first", x.sailorOf(0, 7), 1);
        due("its mess", x.sailorOf(0, 8), 0b0111);
        due("the mess of the other end", x.sailorOf(1, 8), 0b0111);
        due("who is not of it", x.sailorOf(3, 8), 0b1000);
    }

    static void promise11LongestChainOfMates() {
        MoodSextant x = shipOf(0xfff0, 0x00ff, 0x0000, 0xffff, 0x0fff, 0x000f, 0xf000, 0xff00);
        for (int sailor = 0; sailor < 8; sailor++) {
            due("sailorOf(" + sailor + ", 8)", x.sailorOf(sailor, 8), 255);
        }
    }

    static void promise12NoSuchWatch() {
        MoodSextant x = shipOf(1);
        for (int watch : new int[] {-1, 4, Integer.MIN_VALUE, Integer.MAX_VALUE}) {
            due("watchOf(" + watch + ", 0)", x.watchOf(watch, 0), NONE);
        }
    }

    static void promise12NoSuchNumber() {
        MoodSextant x = shipOf(1);
        for (int what : new int[] {-1, 4, Integer.MIN_VALUE, Integer.MAX_VALUE}) {
            due("watchOf(0, " + what + ")", x.watchOf(0, what), BAD);
        }
    }

    static void promise12NoneIsAheadOfBad() {
        due("watchOf(4, 4)", new MoodSextant().watchOf(4, 4), NONE);
        due("watchOf(-1, -1)", new MoodSextant().watchOf(-1, -1), NONE);
    }

    static void promise12FirstAndLastWatch() {
        MoodSextant x = shipOf(0x0301, 0x0103);
        x.watch(1, 3);
        due("watchOf(0, 2)", x.watchOf(0, 2), 1);
        due("watchOf(0, 3)", x.watchOf(0, 3), 2);
        due("watchOf(3, 2)", x.watchOf(3, 2), 2);
        due("watchOf(3, 3)", x.watchOf(3, 3), 1);
    }

    static void promise12EmptyWatch() {
        MoodSextant x = shipOf(0xffff);
        for (int what = 1; what <= 3; what++) {
            due("watchOf(1, " + what + ")", x.watchOf(1, what), 0);
        }
    }

    static void promise12AllInOneWatch() {
        MoodSextant x = shipOf(0xffff, 0xffff, 0xffff, 0xffff, 0xffff, 0xffff, 0xffff, 0xffff);
        due("watchOf(0, 1)", x.watchOf(0, 1), 8);
        due("watchOf(0, 2)", x.watchOf(0, 2), 64);
        due("watchOf(0, 3)", x.watchOf(0, 3), 64);
        hours(x, 4);
        due("gone over", x.watchOf(0, 1), 0);
        due("gone over", x.watchOf(1, 3), 64);
    }

    static void promise12CheerIsWithoutRum() {
        MoodSextant x = shipOf(0x0001);
        x.rum(0, 9);
        due("watchOf(0, 2)", x.watchOf(0, 2), 1);
    }

    static void promise13NoSuchSightInAnEmptyLog() {
        MoodSextant x = shipOf(1);
        due("sightOf(0, 0)", x.sightOf(0, 0), NONE);
        due("sightOf(-1, 0)", x.sightOf(-1, 0), NONE);
    }

    static void promise13NoSuchSightInAFullLog() {
        MoodSextant x = shipOf(1);
        for (int hour = 0; hour < 10; hour++) {
            x.sight(0);
            x.hour();
        }
        due("sightOf(9, 1)", x.sightOf(9, 1), 0);
        for (int sight : new int[] {-1, 10, Integer.MIN_VALUE, Integer.MAX_VALUE}) {
            due("sightOf(" + sight + ", 0)", x.sightOf(sight, 0), NONE);
        }
    }

    static void promise13NoSuchNumber() {
        MoodSextant x = shipOf(1);
        x.sight(0);
        for (int what : new int[] {-1, 3, Integer.MIN_VALUE, Integer.MAX_VALUE}) {
            due("sightOf(0, " + what + ")", x.sightOf(0, what), BAD);
        }
    }

    static void promise13NoneIsAheadOfBad() {
        MoodSextant x = shipOf(1);
        due("sightOf(0, 3)", x.sightOf(0, 3), NONE);
        due("sightOf(-1, -1)", x.sightOf(-1, -1), NONE);
    }

    static void promise13LatestIsNumberedNought() {
        MoodSextant x = shipOf(1, 2);
        x.sight(1);
        x.sight(0);
        due("sightOf(0, 0)", x.sightOf(0, 0), 0);
        due("sightOf(1, 0)", x.sightOf(1, 0), 1);
    }

    static void promise13BitsBelowNoughtAndNought() {
        MoodSextant x = shipOf(0xff00, 0x000f);
        x.sight(0);
        x.sight(1);
        due("nought", x.sightOf(0, 2), 0);
        due("below nought", x.sightOf(1, 2), Float.floatToIntBits(-3.0f));
    }

    static void promise14NoSuchSailor() {
        MoodSextant x = shipOf(0x00ff, 0x00ff);
        for (int sailor : NO_SAILORS) {
            dueDouble("angle(" + sailor + ")", x.angle(sailor), 0.0);
        }
        dueDouble("an empty ship", new MoodSextant().angle(0), 0.0);
    }

    static void promise14GreatestAndLeastAngle() {
        MoodSextant x = shipOf(0x00ff, 0xff00);
        x.rum(0, 9);
        x.watch(0, 1);
        x.horizon(1, 0);
        x.horizon(0, 8);
        dueDouble("the greatest", x.angle(0), 4.25);
        dueDouble("the least", x.angle(1), -4.0);
    }

    static void promise14IsNotRoundedBelowNought() {
        MoodSextant x = shipOf(0x0007, 0x0003, 0x0001, 0x001f);
        dueDouble("-1 by 4", x.angle(0), -0.25);
        dueDouble("-2 by 4", x.angle(1), -0.5);
        dueDouble("-3 by 4", x.angle(2), -0.75);
        dueDouble("1 by 4", x.angle(3), 0.25);
    }

    static void promise14NoughtHasNoSign() {
        dueDouble("angle(0)", shipOf(0x000f).angle(0), 0.0);
    }

    static void promise14WithoutErrorAndCorrection() {
        MoodSextant x = shipOf(0x0007);
        x.error(-3);
        x.rum(0, 1);
        dueDouble("angle(0)", x.angle(0), 0.0);
    }

    static void promise15NoSuchSailor() {
        MoodSextant x = shipOf(1, 2);
        for (int sailor : NO_SAILORS) {
            due("readBits(" + sailor + ")", x.readBits(sailor), NONE);
        }
        due("an empty ship", new MoodSextant().readBits(0), NONE);
    }

    static void promise15GreatestReading() {
        MoodSextant x = shipOf(0x00ff);
        x.rum(0, 9);
        x.horizon(0, 0);
        x.error(3);
        dueFloatBits("readBits(0)", x.readBits(0), 3.875f);
    }

    static void promise15LeastReading() {
        MoodSextant x = shipOf(0xff00);
        x.horizon(0, 8);
        x.error(-3);
        dueFloatBits("readBits(0)", x.readBits(0), -4.75f);
    }

    static void promise15NearestToNought() {
        MoodSextant x = shipOf(0x000f, 0x0007, 0x0003);
        x.rum(1, 1);
        x.rum(2, 1);
        due("nought", x.readBits(0), 0);
        dueFloatBits("an eighth below", x.readBits(1), -0.125f);
        x.error(1);
        dueFloatBits("an eighth above", x.readBits(1), 0.125f);
        dueFloatBits("an eighth below", x.readBits(2), -0.125f);
    }

    static void promise15PowersOfTwo() {
        MoodSextant x = shipOf(0x00ff);
        x.horizon(0, 0);
        dueFloatBits("two", x.readBits(0), 2.0f);
        x.horizon(0, 4);
        dueFloatBits("one", x.readBits(0), 1.0f);
        x.horizon(0, 6);
        dueFloatBits("a half", x.readBits(0), 0.5f);
        x.horizon(0, 7);
        dueFloatBits("a quarter", x.readBits(0), 0.25f);
        x.mood(0, 0x0f00);
        x.horizon(0, 0);
        dueFloatBits("one below nought", x.readBits(0), -1.0f);
        x.horizon(0, 4);
        dueFloatBits("two below nought", x.readBits(0), -2.0f);
        x.mood(0, 0xff00);
        x.horizon(0, 8);
        dueFloatBits("four below nought", x.readBits(0), -4.0f);
    }

    static void promise15NothingIsTaken() {
        MoodSextant x = shipOf(1);
        x.readBits(0);
        due("account(3)", x.account(3), 0);
        due("account(10)", x.account(10), 1);
        due("sight(0)", x.sight(0), 1);
    }

    static void promise15IsWhatASightReads() {
        MoodSextant x = shipOf(0x0f1c);
        x.rum(0, 7);
        x.error(-2);
        int bits = x.readBits(0);
        x.sight(0);
        due("sightOf(0, 2)", x.sightOf(0, 2), bits);
    }

    static void promise16NoSuchSailor() {
        MoodSextant x = shipOf(1, 2);
        for (int sailor : NO_SAILORS) {
            due("fixBits(" + sailor + ")", x.fixBits(sailor), NONE);
        }
        due("an empty ship", new MoodSextant().fixBits(0), NONE);
    }

    static void promise16FewerThanTwoSights() {
        MoodSextant x = shipOf(1, 2);
        due("none", x.fixBits(0), NOTHING);
        x.sight(0);
        x.sight(1);
        due("one", x.fixBits(0), NOTHING);
        x.hour();
        x.sight(0);
        due("two", x.fixBits(0) != NOTHING, true);
        due("one of the other", x.fixBits(1), NOTHING);
    }

    static void promise16TwoLatestOfThree() {
        MoodSextant x = shipWithFixes(0xff00, 0x000f, 1, 2);
        x.hour();
        x.mood(0, 0x00ff);
        x.sight(0);
        dueFloatBits("fixBits(0)", x.fixBits(0), 1.5f);
        dueFloatBits("fixAgain(0)", x.fixAgain(0), 1.5f);
    }

    static void promise16ForgottenSightIsNoneOfTwo() {
        MoodSextant x = shipOf(1, 2);
        x.sight(0);
        x.hour();
        x.sight(0);
        for (int hour = 0; hour < 8; hour++) {
            x.sight(1);
            x.hour();
        }
        due("both are in the full log", x.fixBits(0) != NOTHING, true);
        x.sight(1);
        due("the older one is forgotten", x.fixBits(0), NOTHING);
        due("fixAgain(0)", x.fixAgain(0), NOTHING);
    }

    static void promise16MovesWithTheNumberOfTheSailor() {
        MoodSextant x = shipWithFixes(1, 1, 0x00ff, 0x000f);
        x.shore(0);
        dueFloatBits("fixBits(0)", x.fixBits(0), 1.5f);
        due("fixBits(1)", x.fixBits(1), NONE);
    }

    static void promise16NoughtHasNoSign() {
        MoodSextant x = shipWithFixes(0x000f, 0x0f00, 0x0f00, 0x000f);
        due("fixBits(0)", x.fixBits(0), 0);
        due("fixAgain(0)", x.fixAgain(0), 0);
        due("fixBits(1)", x.fixBits(1), 0);
        due("fixAgain(1)", x.fixAgain(1), 0);
    }

    static void promise16GreatestAndLeastFix() {
        MoodSextant x = shipOf(0x00ff, 0xff00);
        x.watch(1, 1);
        x.horizon(0, 0);
        x.horizon(1, 8);
        x.rum(0, 9);
        x.error(3);
        x.sight(0);
        x.error(-3);
        x.sight(1);
        x.hour();
        x.mood(0, 0x00ff);
        x.mood(1, 0xff00);
        x.rum(0, 1);
        x.sight(1);
        x.error(3);
        x.sight(0);
        dueFloatBits("the greatest", x.fixBits(0), 3.875f);
        dueFloatBits("the least", x.fixBits(1), -4.75f);
    }

    static void promise17NoSuchSailor() {
        MoodSextant x = shipOf(1, 2);
        for (int sailor : NO_SAILORS) {
            due("fixAgain(" + sailor + ")", x.fixAgain(sailor), NONE);
        }
        due("an empty ship", new MoodSextant().fixAgain(0), NONE);
    }

    static void promise17FewerThanTwoSights() {
        MoodSextant x = shipOf(1);
        due("none", x.fixAgain(0), NOTHING);
        x.sight(0);
        due("one", x.fixAgain(0), NOTHING);
        x.hour();
        x.sight(0);
        due("two", x.fixAgain(0), x.fixBits(0));
    }

    static void promise17SixteenthOfANumber() {
        MoodSextant x = shipOf(0x001f);
        x.rum(0, 2);
        x.sight(0);
        x.hour();
        x.mood(0, 0x001f);
        x.sight(0);
        // 3 by 4 less 2 by 8, and 2 by 4 less 1 by 8.
        dueFloatBits("fixBits(0)", x.fixBits(0), 0.4375f);
        dueFloatBits("fixAgain(0)", x.fixAgain(0), 0.4375f);
    }

    static void promise18NoSuchSailorForEither() {
        MoodSextant x = shipWithFixes(1, 1, 1, 1);
        for (int sailor : NO_SAILORS) {
            due("meet(" + sailor + ", 0)", x.meet(sailor, 0), NONE);
            due("meet(0, " + sailor + ")", x.meet(0, sailor), NONE);
            due("meet of both", x.meet(sailor, sailor), NONE);
        }
    }

    static void promise18NoneIsAheadOfNothing() {
        MoodSextant x = shipOf(1);
        due("meet(0, 1)", x.meet(0, 1), NONE);
        due("meet(1, 0)", x.meet(1, 0), NONE);
    }

    static void promise18NothingIfOneHasNoFix() {
        MoodSextant x = shipOf(1, 2);
        x.sight(0);
        due("neither has one", x.meet(0, 1), NOTHING);
        x.hour();
        x.sight(0);
        x.sight(1);
        due("the other has none", x.meet(0, 1), NOTHING);
        due("the one has none", x.meet(1, 0), NOTHING);
        due("with oneself", x.meet(1, 1), NOTHING);
        x.hour();
        x.sight(1);
        due("both have one", x.meet(0, 1), 1);
    }

    static void promise18HalfIsTooMuch() {
        due("half above", shipWithFixes(0x0003, 0x0003, 0, 0).meet(0, 1), 0);
        due("half below", shipWithFixes(0, 0, 0x0003, 0x0003).meet(0, 1), 0);
        due("on both sides of nought", shipWithFixes(0x0001, 0x0001, 0x0100, 0x0100).meet(0, 1), 0);
    }

    static void promise18LessThanAHalf() {
        due("three eighths above", shipWithFixes(0x0003, 0x0001, 0, 0).meet(0, 1), 1);
        due("three eighths below", shipWithFixes(0, 0, 0x0001, 0x0003).meet(0, 1), 1);
        due("five eighths", shipWithFixes(0x0003, 0x0007, 0, 0).meet(0, 1), 0);
    }

    static void promise18SixteenthLessThanAHalf() {
        MoodSextant x = shipOf(0, 0);
        x.rum(0, 1);
        x.sight(0);
        x.sight(1);
        x.hour();
        x.mood(0, 0x0007);
        x.sight(0);
        x.sight(1);
        dueFloatBits("fixBits(0)", x.fixBits(0), -0.5625f);
        dueFloatBits("fixBits(1)", x.fixBits(1), -1.0f);
        due("seven sixteenths", x.meet(0, 1), 1);
        due("seven sixteenths", x.meet(1, 0), 1);
    }

    static void promise18WithOneself() {
        due("meet(0, 0)", shipWithFixes(0x00ff, 0xff00, 1, 1).meet(0, 0), 1);
    }

    static void promise19NoSuchSailorForEither() {
        MoodSextant x = shipOf(1, 2);
        for (int sailor : NO_SAILORS) {
            due("unlike(" + sailor + ", 0)", x.unlike(sailor, 0), NONE);
            due("unlike(0, " + sailor + ")", x.unlike(0, sailor), NONE);
            due("unlike of both", x.unlike(sailor, sailor), NONE);
        }
    }

    static void promise19NoBitAndAllBits() {
        MoodSextant x = shipOf(0x0000, 0xffff, 0x5555, 0xaaaa, 0x5555);
        due("unlike(0, 0)", x.unlike(0, 0), 0);
        due("unlike(2, 4)", x.unlike(2, 4), 0);
        due("unlike(0, 1)", x.unlike(0, 1), 16);
        due("unlike(2, 3)", x.unlike(2, 3), 16);
    }

    static void promise19LowestAndHighestBit() {
        MoodSextant x = shipOf(0x0000, 0x0001, 0x8000);
        due("unlike(0, 1)", x.unlike(0, 1), 1);
        due("unlike(2, 0)", x.unlike(2, 0), 1);
        due("unlike(1, 2)", x.unlike(1, 2), 2);
    }

    static void promise20NoSuchSailorForEither() {
        MoodSextant x = shipOf(1, 2);
        for (int sailor : NO_SAILORS) {
            due("unlikeAgain(" + sailor + ", 0)", x.unlikeAgain(sailor, 0), NONE);
            due("unlikeAgain(0, " + sailor + ")", x.unlikeAgain(0, sailor), NONE);
            due("unlikeAgain of both", x.unlikeAgain(sailor, sailor), NONE);
        }
    }

    static void promise20NoBitAndAllBits() {
        MoodSextant x = shipOf(0x0000, 0xffff, 0x5555, 0xaaaa, 0x5555);
        due("unlikeAgain(1, 1)", x.unlikeAgain(1, 1), 0);
        due("unlikeAgain(2, 4)", x.unlikeAgain(2, 4), 0);
        due("unlikeAgain(0, 1)", x.unlikeAgain(0, 1), 16);
        due("unlikeAgain(2, 3)", x.unlikeAgain(2, 3), 16);
    }

    static void promise20LowestAndHighestBit() {
        MoodSextant x = shipOf(0x0000, 0x0001, 0x8000);
        due("unlikeAgain(0, 1)", x.unlikeAgain(0, 1), 1);
        due("unlikeAgain(2, 0)", x.unlikeAgain(2, 0), 1);
        due("unlikeAgain(1, 2)", x.unlikeAgain(1, 2), 2);
    }

    static void promise21NoSuchSailorForEither() {
        MoodSextant x = shipOf(1, 2);
        for (int sailor : NO_SAILORS) {
            due("closest(" + sailor + ", 0)", x.closest(sailor, 0), NONE);
            due("closest(0, " + sailor + ")", x.closest(0, sailor), NONE);
            due("closest of both", x.closest(sailor, sailor), NONE);
        }
    }

    static void promise21NoHourAndFifteenHours() {
        MoodSextant x = shipOf(0x0002, 0x0001, 0x0002);
        due("closest(0, 2)", x.closest(0, 2), 0);
        due("closest(0, 1)", x.closest(0, 1), 15);
    }

    static void promise21BitFifteenTurnsToBitNought() {
        MoodSextant x = shipOf(0x8000, 0x0001);
        due("closest(0, 1)", x.closest(0, 1), 1);
        due("closest(1, 0)", x.closest(1, 0), 15);
    }

    static void promise21FewestOfSeveral() {
        MoodSextant x = shipOf(0x5555, 0xaaaa, 0x0000, 0x1111, 0x8888);
        due("each second hour", x.closest(0, 1), 1);
        due("each hour", x.closest(0, 2), 0);
        due("each fourth hour", x.closest(3, 4), 3);
        due("with oneself", x.closest(3, 3), 0);
    }

    static void promise21OneAloneTurns() {
        MoodSextant x = shipOf(0x0001, 0x0010);
        due("the one turns on", x.closest(0, 1), 4);
        due("the other turns round", x.closest(1, 0), 12);
        due("neither has turned", x.sailorOf(0, 0), 0x0001);
        due("neither has turned", x.sailorOf(1, 0), 0x0010);
    }

    static void promise22NoSuchSailor() {
        MoodSextant x = shipOf(1, 2);
        for (int sailor : NO_SAILORS) {
            due("would(" + sailor + ", 0)", x.would(sailor, 0), NONE);
        }
    }

    static void promise22TooFewHours() {
        MoodSextant x = shipOf(1);
        due("would(0, -1)", x.would(0, -1), BAD);
        due("would(0, least)", x.would(0, Integer.MIN_VALUE), BAD);
    }

    static void promise22TooManyHours() {
        MoodSextant x = shipOf(1);
        due("would(0, 41)", x.would(0, 41), BAD);
        due("would(0, greatest)", x.would(0, Integer.MAX_VALUE), BAD);
    }

    static void promise22NoneIsAheadOfBad() {
        MoodSextant x = shipOf(1);
        due("would(1, 41)", x.would(1, 41), NONE);
        due("would(-1, -1)", x.would(-1, -1), NONE);
    }

    static void promise22NoHourIsNow() {
        MoodSextant x = shipOf(0x00ff);
        x.rum(0, 9);
        x.horizon(0, 1);
        due("would(0, 0)", x.would(0, 0), 16);
    }

    static void promise22FortyHours() {
        MoodSextant x = shipOf(0x00ff);
        x.horizon(2, 1);
        // Forty hours turn by eight bits, and go over ten times.
        due("would(0, 40)", x.would(0, 40), -9);
        hours(x, 40);
        due("sailorOf(0, 5)", x.sailorOf(0, 5), -9);
    }

    static void promise22RumIsNoLessThanNone() {
        MoodSextant x = shipOf(0xffff);
        allHorizons(x, 0);
        x.rum(0, 2);
        int[] want = {2, 1, 0, 0, 0};
        for (int hours = 0; hours < want.length; hours++) {
            due("would(0, " + hours + ")", x.would(0, hours), want[hours]);
        }
    }

    static void promise22WatchGoesOverInTheNextHour() {
        MoodSextant x = shipOf(0);
        x.horizon(0, 0);
        x.horizon(1, 8);
        hours(x, 3);
        due("would(0, 0)", x.would(0, 0), 0);
        due("would(0, 1)", x.would(0, 1), -8);
        due("would(0, 4)", x.would(0, 4), -8);
        due("would(0, 5)", x.would(0, 5), -4);
    }

    static void promise22WatchThreeGoesToNought() {
        MoodSextant x = shipOf(0);
        x.watch(0, 3);
        x.horizon(0, 1);
        x.horizon(3, 8);
        due("would(0, 3)", x.would(0, 3), -8);
        due("would(0, 4)", x.would(0, 4), -1);
    }

    static void promise22NothingGoesBy() {
        MoodSextant x = shipOf(0x8001);
        x.rum(0, 9);
        x.would(0, 40);
        due("hour", x.account(1), 0);
        due("mood", x.sailorOf(0, 0), 0x8001);
        due("rum", x.sailorOf(0, 1), 9);
        due("changes", x.account(10), 2);
    }

    static void promise23NoSuchSailor() {
        MoodSextant x = shipOf(1, 2);
        for (int sailor : NO_SAILORS) {
            due("sinks(" + sailor + ")", x.sinks(sailor), NONE);
        }
    }

    static void promise23NoHourIfItIs() {
        MoodSextant x = shipOf(0x000f, 0x0007, 0xff00);
        due("exactly 0", x.sinks(0), 0);
        due("less", x.sinks(1), 0);
        due("far less", x.sinks(2), 0);
    }

    static void promise23OneAboveNought() {
        MoodSextant x = shipOf(0x001f);
        due("the rest stays cheer until the bit 4 is dread", x.sinks(0), 4);
        x.rum(0, 1);
        due("2, then 1", x.sinks(0), 4);
        x.mood(0, 0x800f);
        due("-1, and a cup", x.sinks(0), 0);
    }

    static void promise23ExactlyNoughtIsEnough() {
        MoodSextant x = shipOf(0xffff);
        allHorizons(x, 0);
        x.rum(0, 9);
        due("the last cup", x.sinks(0), 9);
    }

    static void promise23LatestOfAll() {
        MoodSextant x = shipOf(0x0100);
        allHorizons(x, 0);
        x.rum(0, 9);
        // The cups hold it up until the bit is cheer, and it is dread again after sixteen hours.
        due("would(0, 15)", x.would(0, 15), 1);
        due("would(0, 16)", x.would(0, 16), -1);
        due("sinks(0)", x.sinks(0), 16);
    }

    static void promise23SomeHourIsAlwaysWithinForty() {
        for (int mood = 0; mood <= 65535; mood += 251) {
            MoodSextant x = shipOf(mood);
            allHorizons(x, 0);
            x.rum(0, 9);
            int hours = x.sinks(0);
            due("mood " + mood + " sinks", hours >= 0 && hours <= 16, true);
            due("mood " + mood + " then", x.would(0, hours) <= 0, true);
            for (int before = 0; before < hours; before++) {
                due("mood " + mood + " before", x.would(0, before) > 0, true);
            }
        }
    }

    static void promise24NoSailors() {
        due("messes()", new MoodSextant().messes(), 0);
    }

    static void promise24OneSailor() {
        due("messes()", shipOf(5).messes(), 1);
    }

    static void promise24EachIsAMessAlone() {
        due("messes()", shipOf(LONERS).messes(), 8);
    }

    static void promise24AllAreOneMess() {
        due("alike", shipOf(5, 5, 5, 5, 5, 5, 5, 5).messes(), 1);
        due("a chain", shipOf(0xfff0, 0x00ff, 0x0000, 0xffff, 0x0fff, 0x000f, 0xf000, 0xff00).messes(), 1);
    }

    static void promise24FourBitsJoinAndFivePart() {
        due("unlike by 4", shipOf(0x0000, 0xf000).messes(), 1);
        due("unlike by 5", shipOf(0x0000, 0xf001).messes(), 2);
    }

    static void promise24MateWhoGoesAshorePartsThem() {
        MoodSextant x = shipOf(0x0000, 0x000f, 0x00ff);
        due("joined", x.messes(), 1);
        x.shore(1);
        due("parted", x.messes(), 2);
    }
}
