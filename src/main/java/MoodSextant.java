/**
 * A sextant for moods of the crew, after the document's promises 1 to 40.
 *
 * All rows are made in the constructor and used again, so that no call makes an object.
 */
public final class MoodSextant {
    public static final int NONE = -100001;
    public static final int BAD = -100002;
    public static final int STATE = -100003;
    public static final int FULL = -100004;
    public static final int REFUSED = -100005;
    public static final int NOTHING = -100006;

    private static final int MOST_SAILORS = 8;
    private static final int MOST_SIGHTS = 10;
    private static final int MOST_UNDONE = 8;
    private static final int MOST_SIGNS = 60;
    private static final int MOST_HOURS = 40;
    private static final int MOST_MOOD = 65535;
    private static final int MOST_CUPS = 9;
    private static final int MOST_HORIZON = 8;
    private static final int MOST_ERROR = 3;
    private static final int MATES_UNLIKE = 4;
    private static final int FIRST_HORIZON = 4;
    private static final int WATCHES = 4;
    private static final int BITS = 16;

    // The shortest command has four signs.
    private static final int MOST_COMMANDS = MOST_SIGNS / 4;

    // Ten sights of a sign, a colon, eleven signs of any int and a blank.
    private static final int MOST_WRITTEN = 140;

    private static final int NOT_THERE = -1;

    private static final int NO_REASON = 0;
    private static final int CROWDED = 1;
    private static final int SAME = 2;
    private static final int TOO_MUCH_RUM = 3;
    private static final int SIGHTED = 4;
    private static final int COMMAND = 5;

    private static final Form[] FORMS = Form.values();

    private final Ship ship;
    private final Ship trial;
    private final Ship saved;
    private final History history;
    private final Reasons reasons;
    private final Text text;
    private final Line line;
    private boolean isSaved;
    private boolean isFaultKept;
    private int faultPosition;

    public MoodSextant() {
        ship = new Ship();
        trial = new Ship();
        saved = new Ship();
        history = new History();
        reasons = new Reasons();
        text = new Text();
        line = new Line();
    }

    public int sail(int mood) {
        if (!Ship.isMood(mood)) {
            return BAD;
        }
        if (isRefused(Form.SAIL, 0, mood)) {
            return REFUSED;
        }
        change(Form.SAIL, 0, mood);
        return ship.sailors - 1;
    }

    public int shore(int sailor) {
        if (!ship.hasSailor(sailor)) {
            return NONE;
        }
        change(Form.SHORE, sailor, 0);
        return ship.sailors;
    }

    public int mood(int sailor, int mood) {
        if (!ship.hasSailor(sailor)) {
            return NONE;
        }
        if (!Ship.isMood(mood)) {
            return BAD;
        }
        if (isRefused(Form.MOOD, sailor, mood)) {
            return REFUSED;
        }
        int before = ship.moods[sailor];
        change(Form.MOOD, sailor, mood);
        return before;
    }

    public int rum(int sailor, int cups) {
        if (!ship.hasSailor(sailor)) {
            return NONE;
        }
        if (!Ship.isGift(cups)) {
            return BAD;
        }
        if (isRefused(Form.RUM, sailor, cups)) {
            return REFUSED;
        }
        change(Form.RUM, sailor, cups);
        return ship.cups[sailor];
    }

    public int watch(int sailor, int watch) {
        if (!ship.hasSailor(sailor) || !Ship.isWatch(watch)) {
            return NONE;
        }
        if (isRefused(Form.WATCH, sailor, watch)) {
            return REFUSED;
        }
        int before = ship.watches[sailor];
        change(Form.WATCH, sailor, watch);
        return before;
    }

    public int horizon(int watch, int horizon) {
        if (!Ship.isWatch(watch)) {
            return NONE;
        }
        if (!Ship.isHorizon(horizon)) {
            return BAD;
        }
        if (isRefused(Form.HORIZON, watch, horizon)) {
            return REFUSED;
        }
        int before = ship.horizons[watch];
        change(Form.HORIZON, watch, horizon);
        return before;
    }

    public int error(int error) {
        if (!Ship.isError(error)) {
            return BAD;
        }
        if (isRefused(Form.ERROR, 0, error)) {
            return REFUSED;
        }
        int before = ship.wrongBy;
        change(Form.ERROR, 0, error);
        return before;
    }

    public int sight(int sailor) {
        if (!ship.hasSailor(sailor)) {
            return NONE;
        }
        if (isRefused(Form.SIGHT, sailor, 0)) {
            return REFUSED;
        }
        change(Form.SIGHT, sailor, 0);
        return ship.sights;
    }

    public int hour() {
        change(Form.HOUR, 0, 0);
        return ship.allCups();
    }

    public int sailorOf(int sailor, int what) {
        if (!ship.hasSailor(sailor)) {
            return NONE;
        }
        switch (what) {
            case 0: return ship.moods[sailor];
            case 1: return ship.cups[sailor];
            case 2: return ship.watches[sailor];
            case 3: return Ship.cheerIn(ship.moods[sailor]);
            case 4: return Ship.dreadIn(ship.moods[sailor]);
            case 5: return ship.angleAfter(sailor, 0);
            case 6: return ship.sightsOf(sailor);
            case 7: return ship.matesOf(sailor);
            case 8: return ship.messOf(sailor);
            default: return BAD;
        }
    }

    public int watchOf(int watch, int what) {
        if (!Ship.isWatch(watch)) {
            return NONE;
        }
        switch (what) {
            case 0: return ship.horizons[watch];
            case 1: return ship.sailorsIn(watch);
            case 2: return ship.watchCheer(watch);
            case 3: return ship.watchDread(watch);
            default: return BAD;
        }
    }

    public int sightOf(int sight, int what) {
        if (!ship.hasSight(sight)) {
            return NONE;
        }
        switch (what) {
            case 0: return ship.sighted[sight];
            case 1: return ship.sightHours[sight];
            case 2: return bitsOf(ship.readings[sight]);
            default: return BAD;
        }
    }

    public float angle(int sailor) {
        return ship.hasSailor(sailor) ? (float) ship.angleAfter(sailor, 0) / 4 : 0.0f;
    }

    public int readBits(int sailor) {
        return ship.hasSailor(sailor) ? bitsOf(ship.readingOf(sailor)) : NONE;
    }

    public int fixBits(int sailor) {
        if (!ship.hasSailor(sailor)) {
            return NONE;
        }
        return ship.hasFix(sailor) ? bitsOf(ship.fixOf(sailor)) : NOTHING;
    }

    public int fixAgain(int sailor) {
        if (!ship.hasSailor(sailor)) {
            return NONE;
        }
        return ship.hasFix(sailor) ? bitsOf(ship.fixFromLatest(sailor)) : NOTHING;
    }

    public int meet(int one, int other) {
        if (!ship.hasBoth(one, other)) {
            return NONE;
        }
        if (!ship.hasFix(one) || !ship.hasFix(other)) {
            return NOTHING;
        }
        float apart = ship.fixOf(one) - ship.fixOf(other);
        return apart < 0.5f && apart > -0.5f ? 1 : 0;
    }

    public int unlike(int one, int other) {
        return ship.hasBoth(one, other) ? Ship.unlikeBits(ship.moods[one], ship.moods[other]) : NONE;
    }

    public int unlikeAgain(int one, int other) {
        return ship.hasBoth(one, other) ? Ship.unlikeByCounts(ship.moods[one], ship.moods[other]) : NONE;
    }

    public int closest(int one, int other) {
        return ship.hasBoth(one, other) ? Ship.closestTurn(ship.moods[one], ship.moods[other]) : NONE;
    }

    public int would(int sailor, int hours) {
        if (!ship.hasSailor(sailor)) {
            return NONE;
        }
        return hours >= 0 && hours <= MOST_HOURS ? ship.angleAfter(sailor, hours) : BAD;
    }

    public int sinks(int sailor) {
        if (!ship.hasSailor(sailor)) {
            return NONE;
        }
        for (int hours = 0; hours <= MOST_HOURS; hours++) {
            if (ship.angleAfter(sailor, hours) <= 0) {
                return hours;
            }
        }
        return NOTHING;
    }

    public int messes() {
        return ship.allMesses();
    }

    public int highest(int place) {
        for (int sailor = 0; sailor < ship.sailors; sailor++) {
            if (ship.placeOfSailor(sailor) == place) {
                return sailor;
            }
        }
        return NONE;
    }

    public int ranked(int place) {
        for (int sight = 0; sight < ship.sights; sight++) {
            if (ship.placeOfSight(sight) == place) {
                return sight;
            }
        }
        return NONE;
    }

    public long packed() {
        long all = 0;
        for (int sailor = 0; sailor < 4 && sailor < ship.sailors; sailor++) {
            all |= (long) ship.moods[sailor] << (BITS * sailor);
        }
        return all;
    }

    public boolean isCounted() {
        return ship.isUnlikeAlike() && ship.isFixAlike() && ship.isLogOfCrew() && ship.isRumCounted();
    }

    public double meanAngle() {
        return ship.sailors == 0 ? 0.0 : (double) ship.allAngles() / (double) ship.sailors;
    }

    public int account(int what) {
        switch (what) {
            case 0: return ship.sailors;
            case 1: return ship.hoursGone;
            case 2: return ship.wrongBy;
            case 3: return ship.sights;
            case 4: return ship.taken;
            case 5: return ship.allCups();
            case 6: return ship.given;
            case 7: return ship.drunk;
            case 8: return ship.ashore;
            case 9: return text.length;
            case 10: return history.kept;
            default: return BAD;
        }
    }

    public int write(int sailor) {
        if (!ship.hasSailor(sailor)) {
            return NONE;
        }
        line.clear();
        line.putMood(ship.moods[sailor]);
        if (ship.cups[sailor] > 0) {
            line.put('*');
            line.putNumber(ship.cups[sailor]);
        }
        line.put('@');
        line.putNumber(ship.watches[sailor]);
        line.put('>');
        line.putNumber(ship.angleAfter(sailor, 0));
        return line.length;
    }

    public int writeLog() {
        line.clear();
        for (int sight = 0; sight < ship.sights; sight++) {
            if (sight > 0) {
                line.put(' ');
            }
            line.putNumber(ship.sighted[sight]);
            line.put(':');
            line.putNumber(ship.sightHours[sight]);
        }
        return line.length;
    }

    public int written(int index) {
        return index >= 0 && index < line.length ? line.signs[index] : NONE;
    }

    public int append(char character) {
        if (character < 32 || character > 126) {
            return BAD;
        }
        return text.add(character) ? text.length : FULL;
    }

    public int read() {
        int position = text.parse();
        text.clear();
        if (position != NOT_THERE) {
            isFaultKept = true;
            faultPosition = position;
            return BAD;
        }
        return isTextDone() ? text.commands : REFUSED;
    }

    public int fault() {
        return isFaultKept ? faultPosition : STATE;
    }

    public int reason(int depth, boolean isDetail) {
        if (depth < 0 || depth > 1) {
            return BAD;
        }
        if (reasons.depth == 0) {
            return STATE;
        }
        if (depth >= reasons.depth) {
            return NOTHING;
        }
        return isDetail ? reasons.details[depth] : reasons.numbers[depth];
    }

    public int undo() {
        return history.takeBack(ship) ? history.kept : STATE;
    }

    public int save() {
        saved.copyFrom(ship);
        isSaved = true;
        return ship.sailors;
    }

    public int restore() {
        if (!isSaved) {
            return STATE;
        }
        ship.copyFrom(saved);
        history.forget();
        return ship.sailors;
    }

    /** Keeps the reason, if there is one. */
    private boolean isRefused(Form form, int who, int value) {
        int number = ship.reasonAgainst(form, who, value);
        if (number == NO_REASON) {
            return false;
        }
        reasons.keep(number, ship.detailOf(number, who, value));
        return true;
    }

    private void change(Form form, int who, int value) {
        history.remember(ship);
        ship.carryOut(form, who, value);
    }

    /** Does the commands on a trial, so that a refused one leaves the ship as it was. */
    private boolean isTextDone() {
        trial.copyFrom(ship);
        for (int index = 0; index < text.commands; index++) {
            Form form = text.forms[index];
            int who = text.whos[index];
            int value = text.values[index];
            if (!trial.isInRange(form, who, value)) {
                reasons.keep(COMMAND, index);
                return false;
            }
            int number = trial.reasonAgainst(form, who, value);
            if (number != NO_REASON) {
                reasons.keep(COMMAND, index);
                reasons.keepBehind(number, trial.detailOf(number, who, value));
                return false;
            }
            trial.carryOut(form, who, value);
        }
        history.remember(ship);
        ship.copyFrom(trial);
        return true;
    }

    /**
     * The bits as Float.floatToIntBits tells them, which the language leaves out. What is read
     * and fixed is never NaN, infinite, subnormal or a negative zero.
     */
    private static int bitsOf(float number) {
        if (number == 0) {
            return 0;
        }
        float left = number < 0 ? -number : number;
        int exponent = 127;
        while (left >= 2 && exponent < 254) {
            left = left / 2;
            exponent++;
        }
        while (left < 1 && exponent > 1) {
            left = left * 2;
            exponent--;
        }
        int bits = (exponent << 23) | (int) ((left - 1) * (1 << 23));
        return number < 0 ? bits | 1 << 31 : bits;
    }

    /**
     * The forms of commands. In a shape, W is the digit of a sailor or of the watch with a
     * horizon, V the digit of a value, X a hex of one; all other signs stand for themselves.
     */
    private enum Form {
        SAIL("sail XXXX"),
        SHORE("shore W"),
        SIGHT("sight W"),
        MOOD("mood W XXXX"),
        RUM("rum W V"),
        WATCH("watch W V"),
        HORIZON("horizon W V"),
        ERROR("error V"),
        ERROR_BELOW("error -V"),
        HOUR("hour");

        private final String shape;

        Form(String shape) {
            this.shape = shape;
        }
    }

    /** Everything that can be undone and saved. The latest sight has the index 0. */
    private static final class Ship {
        private int sailors;
        private final int[] moods = new int[MOST_SAILORS];
        private final int[] cups = new int[MOST_SAILORS];
        private final int[] watches = new int[MOST_SAILORS];
        private final int[] horizons = new int[WATCHES];
        private int wrongBy;
        private int hoursGone;
        private int sights;
        private final int[] sighted = new int[MOST_SIGHTS];
        private final int[] sightHours = new int[MOST_SIGHTS];
        private final float[] readings = new float[MOST_SIGHTS];
        private int taken;
        private int given;
        private int drunk;
        private int ashore;

        Ship() {
            for (int watch = 0; watch < WATCHES; watch++) {
                horizons[watch] = FIRST_HORIZON;
            }
        }

        void copyFrom(Ship other) {
            sailors = other.sailors;
            System.arraycopy(other.moods, 0, moods, 0, MOST_SAILORS);
            System.arraycopy(other.cups, 0, cups, 0, MOST_SAILORS);
            System.arraycopy(other.watches, 0, watches, 0, MOST_SAILORS);
            System.arraycopy(other.horizons, 0, horizons, 0, WATCHES);
            wrongBy = other.wrongBy;
            hoursGone = other.hoursGone;
            sights = other.sights;
            System.arraycopy(other.sighted, 0, sighted, 0, MOST_SIGHTS);
            System.arraycopy(other.sightHours, 0, sightHours, 0, MOST_SIGHTS);
            System.arraycopy(other.readings, 0, readings, 0, MOST_SIGHTS);
            taken = other.taken;
            given = other.given;
            drunk = other.drunk;
            ashore = other.ashore;
        }

        static boolean isMood(int mood) {
            return mood >= 0 && mood <= MOST_MOOD;
        }

        static boolean isGift(int cups) {
            return cups >= 1 && cups <= MOST_CUPS;
        }

        static boolean isWatch(int watch) {
            return watch >= 0 && watch < WATCHES;
        }

        static boolean isHorizon(int horizon) {
            return horizon >= 0 && horizon <= MOST_HORIZON;
        }

        static boolean isError(int error) {
            return error >= -MOST_ERROR && error <= MOST_ERROR;
        }

        boolean hasSailor(int sailor) {
            return sailor >= 0 && sailor < sailors;
        }

        boolean hasBoth(int one, int other) {
            return hasSailor(one) && hasSailor(other);
        }

        boolean hasSight(int sight) {
            return sight >= 0 && sight < sights;
        }

        boolean isInRange(Form form, int who, int value) {
            switch (form) {
                case SAIL: return isMood(value);
                case SHORE: return hasSailor(who);
                case SIGHT: return hasSailor(who);
                case MOOD: return hasSailor(who) && isMood(value);
                case RUM: return hasSailor(who) && isGift(value);
                case WATCH: return hasSailor(who) && isWatch(value);
                case HORIZON: return isWatch(who) && isHorizon(value);
                case ERROR: return isError(value);
                default: return true;
            }
        }

        /** The numbers are in range. */
        int reasonAgainst(Form form, int who, int value) {
            switch (form) {
                case SAIL: return sailors >= MOST_SAILORS ? CROWDED : NO_REASON;
                case MOOD: return moods[who] == value ? SAME : NO_REASON;
                case RUM: return cups[who] + value > MOST_CUPS ? TOO_MUCH_RUM : NO_REASON;
                case WATCH: return watches[who] == value ? SAME : NO_REASON;
                case HORIZON: return horizons[who] == value ? SAME : NO_REASON;
                case ERROR: return wrongBy == value ? SAME : NO_REASON;
                case SIGHT: return isSightedNow(who) ? SIGHTED : NO_REASON;
                default: return NO_REASON;
            }
        }

        int detailOf(int number, int who, int value) {
            switch (number) {
                case CROWDED: return sailors;
                case SAME: return value;
                case TOO_MUCH_RUM: return cups[who];
                default: return who;
            }
        }

        /** The numbers are in range, and there is no reason against it. */
        void carryOut(Form form, int who, int value) {
            switch (form) {
                case SAIL: addSailor(value); break;
                case SHORE: removeSailor(who); break;
                case SIGHT: addSight(who); break;
                case MOOD: moods[who] = value; break;
                case RUM: give(who, value); break;
                case WATCH: watches[who] = value; break;
                case HORIZON: horizons[who] = value; break;
                case ERROR: wrongBy = value; break;
                default: passHour(); break;
            }
        }

        private void addSailor(int mood) {
            moods[sailors] = mood;
            cups[sailors] = 0;
            watches[sailors] = 0;
            sailors++;
        }

        private void removeSailor(int sailor) {
            ashore += cups[sailor];
            for (int next = sailor + 1; next < sailors; next++) {
                moods[next - 1] = moods[next];
                cups[next - 1] = cups[next];
                watches[next - 1] = watches[next];
            }
            sailors--;
            forgetSightsOf(sailor);
        }

        private void forgetSightsOf(int sailor) {
            int left = 0;
            for (int sight = 0; sight < sights; sight++) {
                if (sighted[sight] != sailor) {
                    sighted[left] = sighted[sight] > sailor ? sighted[sight] - 1 : sighted[sight];
                    sightHours[left] = sightHours[sight];
                    readings[left] = readings[sight];
                    left++;
                }
            }
            sights = left;
        }

        private void give(int sailor, int more) {
            cups[sailor] += more;
            given += more;
        }

        private void addSight(int sailor) {
            if (sights < MOST_SIGHTS) {
                sights++;
            }
            for (int sight = sights - 1; sight > 0; sight--) {
                sighted[sight] = sighted[sight - 1];
                sightHours[sight] = sightHours[sight - 1];
                readings[sight] = readings[sight - 1];
            }
            sighted[0] = sailor;
            sightHours[0] = hoursGone;
            readings[0] = readingOf(sailor);
            taken++;
        }

        private void passHour() {
            hoursGone++;
            for (int sailor = 0; sailor < sailors; sailor++) {
                moods[sailor] = turned(moods[sailor], 1);
                if (cups[sailor] > 0) {
                    cups[sailor]--;
                    drunk++;
                }
                if (hoursGone % 4 == 0) {
                    watches[sailor] = (watches[sailor] + 1) % WATCHES;
                }
            }
        }

        /**
         * The log alone can tell it: an hour has at most one sight of each of 8 sailors, so that
         * none of them is forgotten for being the oldest of more than 10.
         */
        private boolean isSightedNow(int sailor) {
            int latest = sightFrom(sailor, 0);
            return latest != NOT_THERE && sightHours[latest] == hoursGone;
        }

        static int turned(int mood, int hours) {
            int turn = Math.floorMod(hours, BITS);
            return (mood << turn | mood >> (BITS - turn)) & MOST_MOOD;
        }

        static int cheerIn(int mood) {
            return Integer.bitCount(mood & 0xff);
        }

        static int dreadIn(int mood) {
            return Integer.bitCount(mood & 0xff00);
        }

        /** Not divided by 4. */
        int angleAfter(int sailor, int hours) {
            int mood = turned(moods[sailor], hours);
            int left = Math.max(0, cups[sailor] - hours);
            int moves = Math.floorDiv(hoursGone + hours, 4) - Math.floorDiv(hoursGone, 4);
            int watch = Math.floorMod(watches[sailor] + moves, WATCHES);
            return cheerIn(mood) + left - dreadIn(mood) - horizons[watch];
        }

        float readingOf(int sailor) {
            float seen = (float) (angleAfter(sailor, 0) + wrongBy) / 4;
            return seen - (float) cups[sailor] / 8;
        }

        /** The first sight of a sailor at this index or behind it. */
        private int sightFrom(int sailor, int from) {
            for (int sight = from; sight < sights; sight++) {
                if (sighted[sight] == sailor) {
                    return sight;
                }
            }
            return NOT_THERE;
        }

        int sightsOf(int sailor) {
            int many = 0;
            for (int sight = 0; sight < sights; sight++) {
                if (sighted[sight] == sailor) {
                    many++;
                }
            }
            return many;
        }

        boolean hasFix(int sailor) {
            return sightsOf(sailor) >= 2;
        }

        /** The sailor has a fix. */
        private float latestReading(int sailor) {
            int latest = sightFrom(sailor, 0);
            return latest == NOT_THERE ? 0.0f : readings[latest];
        }

        /** The sailor has a fix. */
        private float secondReading(int sailor) {
            int second = sightFrom(sailor, sightFrom(sailor, 0) + 1);
            return second == NOT_THERE ? 0.0f : readings[second];
        }

        float fixOf(int sailor) {
            return (latestReading(sailor) + secondReading(sailor)) / 2;
        }

        float fixFromLatest(int sailor) {
            float latest = latestReading(sailor);
            return latest + (secondReading(sailor) - latest) / 2;
        }

        static int unlikeBits(int one, int other) {
            int many = 0;
            for (int bit = 0; bit < BITS; bit++) {
                if ((one >> bit & 1) != (other >> bit & 1)) {
                    many++;
                }
            }
            return many;
        }

        static int unlikeByCounts(int one, int other) {
            return Integer.bitCount(one | other) - Integer.bitCount(one & other);
        }

        static int closestTurn(int one, int other) {
            int best = 0;
            for (int hours = 1; hours < BITS; hours++) {
                if (unlikeBits(turned(one, hours), other) < unlikeBits(turned(one, best), other)) {
                    best = hours;
                }
            }
            return best;
        }

        private boolean areMates(int one, int other) {
            return one != other && unlikeByCounts(moods[one], moods[other]) <= MATES_UNLIKE;
        }

        private int mateSet(int sailor) {
            int mates = 0;
            for (int other = 0; other < sailors; other++) {
                if (areMates(sailor, other)) {
                    mates |= 1 << other;
                }
            }
            return mates;
        }

        int matesOf(int sailor) {
            return Integer.bitCount(mateSet(sailor));
        }

        int messOf(int sailor) {
            int mess = 1 << sailor;
            // The farthest of some sailors is reached in fewer steps than there are sailors.
            for (int step = 1; step < sailors; step++) {
                int wider = mess;
                for (int member = 0; member < sailors; member++) {
                    if ((mess >> member & 1) == 1) {
                        wider |= mateSet(member);
                    }
                }
                mess = wider;
            }
            return mess;
        }

        int allMesses() {
            int many = 0;
            for (int sailor = 0; sailor < sailors; sailor++) {
                int lower = (1 << sailor) - 1;
                // A mess is counted at its lowest sailor.
                if ((messOf(sailor) & lower) == 0) {
                    many++;
                }
            }
            return many;
        }

        int sailorsIn(int watch) {
            int many = 0;
            for (int sailor = 0; sailor < sailors; sailor++) {
                if (watches[sailor] == watch) {
                    many++;
                }
            }
            return many;
        }

        int watchCheer(int watch) {
            int sum = 0;
            for (int sailor = 0; sailor < sailors; sailor++) {
                if (watches[sailor] == watch) {
                    sum += cheerIn(moods[sailor]);
                }
            }
            return sum;
        }

        int watchDread(int watch) {
            int sum = 0;
            for (int sailor = 0; sailor < sailors; sailor++) {
                if (watches[sailor] == watch) {
                    sum += dreadIn(moods[sailor]);
                }
            }
            return sum;
        }

        int allCups() {
            int sum = 0;
            for (int sailor = 0; sailor < sailors; sailor++) {
                sum += cups[sailor];
            }
            return sum;
        }

        int allAngles() {
            int sum = 0;
            for (int sailor = 0; sailor < sailors; sailor++) {
                sum += angleAfter(sailor, 0);
            }
            return sum;
        }

        private boolean isHigher(int one, int other) {
            int angle = angleAfter(one, 0);
            int otherAngle = angleAfter(other, 0);
            if (angle != otherAngle) {
                return angle > otherAngle;
            }
            int cheer = cheerIn(moods[one]);
            int otherCheer = cheerIn(moods[other]);
            return cheer != otherCheer ? cheer > otherCheer : one < other;
        }

        int placeOfSailor(int sailor) {
            int place = 0;
            for (int other = 0; other < sailors; other++) {
                if (isHigher(other, sailor)) {
                    place++;
                }
            }
            return place;
        }

        private boolean isSightHigher(int one, int other) {
            return readings[one] != readings[other] ? readings[one] > readings[other] : one < other;
        }

        int placeOfSight(int sight) {
            int place = 0;
            for (int other = 0; other < sights; other++) {
                if (isSightHigher(other, sight)) {
                    place++;
                }
            }
            return place;
        }

        boolean isUnlikeAlike() {
            for (int one = 0; one < sailors; one++) {
                for (int other = 0; other < sailors; other++) {
                    if (unlikeBits(moods[one], moods[other]) != unlikeByCounts(moods[one], moods[other])) {
                        return false;
                    }
                }
            }
            return true;
        }

        boolean isFixAlike() {
            for (int sailor = 0; sailor < sailors; sailor++) {
                if (hasFix(sailor) && fixOf(sailor) != fixFromLatest(sailor)) {
                    return false;
                }
            }
            return true;
        }

        boolean isLogOfCrew() {
            for (int sight = 0; sight < sights; sight++) {
                if (!hasSailor(sighted[sight])) {
                    return false;
                }
            }
            return true;
        }

        boolean isRumCounted() {
            return given == allCups() + drunk + ashore;
        }
    }

    /** The ships before the latest changes, in a ring. */
    private static final class History {
        private final Ship[] ships = new Ship[MOST_UNDONE];
        private int next;
        private int kept;

        History() {
            for (int index = 0; index < MOST_UNDONE; index++) {
                ships[index] = new Ship();
            }
        }

        void remember(Ship ship) {
            ships[next].copyFrom(ship);
            next = next + 1 < MOST_UNDONE ? next + 1 : 0;
            if (kept < MOST_UNDONE) {
                kept++;
            }
        }

        /** Whether there was a change to undo. */
        boolean takeBack(Ship ship) {
            if (kept == 0) {
                return false;
            }
            next = next > 0 ? next - 1 : MOST_UNDONE - 1;
            kept--;
            ship.copyFrom(ships[next]);
            return true;
        }

        void forget() {
            kept = 0;
        }
    }

    /** The latest reason, and what lies behind it. */
    private static final class Reasons {
        private final int[] numbers = new int[2];
        private final int[] details = new int[2];
        private int depth;

        void keep(int number, int detail) {
            numbers[0] = number;
            details[0] = detail;
            depth = 1;
        }

        void keepBehind(int number, int detail) {
            numbers[1] = number;
            details[1] = detail;
            depth = 2;
        }
    }

    /** The input, and the commands that were found in it last. */
    private static final class Text {
        private final char[] signs = new char[MOST_SIGNS];
        private int length;
        private final Form[] forms = new Form[MOST_COMMANDS];
        private final int[] whos = new int[MOST_COMMANDS];
        private final int[] values = new int[MOST_COMMANDS];
        private int commands;

        boolean add(char sign) {
            if (length >= MOST_SIGNS) {
                return false;
            }
            signs[length] = sign;
            length++;
            return true;
        }

        void clear() {
            length = 0;
        }

        /** Returns the fault position, or NOT_THERE. */
        int parse() {
            commands = 0;
            int position = 0;
            while (position <= length) {
                Form form = formAt(position);
                if (form == null) {
                    return position + farthestAt(position);
                }
                keep(form, position);
                position += form.shape.length();
                if (position >= length) {
                    return NOT_THERE;
                }
                if (signs[position] != ';') {
                    return position;
                }
                position++;
            }
            return length;
        }

        /** No form begins like another whole one, so at most one stands there. */
        private Form formAt(int start) {
            for (int index = 0; index < FORMS.length; index++) {
                if (matchedAt(FORMS[index].shape, start) == FORMS[index].shape.length()) {
                    return FORMS[index];
                }
            }
            return null;
        }

        private int farthestAt(int start) {
            int farthest = 0;
            for (int index = 0; index < FORMS.length; index++) {
                farthest = Math.max(farthest, matchedAt(FORMS[index].shape, start));
            }
            return farthest;
        }

        private int matchedAt(String shape, int start) {
            int many = 0;
            while (many < shape.length() && start + many < length
                    && isFit(shape.charAt(many), signs[start + many])) {
                many++;
            }
            return many;
        }

        private static boolean isFit(char wanted, char sign) {
            switch (wanted) {
                case 'W': return isDigit(sign);
                case 'V': return isDigit(sign);
                case 'X': return isDigit(sign) || sign >= 'a' && sign <= 'f';
                default: return sign == wanted;
            }
        }

        private static boolean isDigit(char sign) {
            return sign >= '0' && sign <= '9';
        }

        private static int hexOf(char sign) {
            return isDigit(sign) ? sign - '0' : sign - 'a' + 10;
        }

        /** The form stands there. */
        private void keep(Form form, int start) {
            if (commands >= MOST_COMMANDS) {
                return;
            }
            int who = 0;
            int value = 0;
            for (int index = 0; index < form.shape.length() && start + index < length; index++) {
                char wanted = form.shape.charAt(index);
                if (wanted == 'W') {
                    who = hexOf(signs[start + index]);
                } else if (wanted == 'V' || wanted == 'X') {
                    value = value * 16 + hexOf(signs[start + index]);
                }
            }
            boolean isBelow = form == Form.ERROR_BELOW;
            forms[commands] = isBelow ? Form.ERROR : form;
            whos[commands] = who;
            values[commands] = isBelow ? -value : value;
            commands++;
        }
    }

    /** The line that was written last. */
    private static final class Line {
        private final char[] signs = new char[MOST_WRITTEN];
        private int length;

        void clear() {
            length = 0;
        }

        void put(char sign) {
            if (length < MOST_WRITTEN) {
                signs[length] = sign;
                length++;
            }
        }

        void putMood(int mood) {
            for (int shift = BITS - 4; shift >= 0; shift -= 4) {
                int hex = mood >> shift & 15;
                put((char) (hex < 10 ? '0' + hex : 'a' + hex - 10));
            }
        }

        void putNumber(int number) {
            // A long, since the least int has no int that is its opposite.
            long left = number;
            if (left < 0) {
                put('-');
                left = -left;
            }
            for (long unit = 1000000000L; unit > 0; unit /= 10) {
                if (left >= unit || unit == 1) {
                    put((char) ('0' + left / unit % 10));
                }
            }
        }
    }
}
