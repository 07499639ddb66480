import java.util.ArrayDeque;
import java.util.ArrayList;
import java.util.Comparator;
import java.util.Deque;
import java.util.List;
import java.util.regex.Matcher;
import java.util.regex.Pattern;

/**
 * The document told once more, with the Java library and otherwise than in the program: lists of
 * objects, moods as arrays of bits, texts by regular expressions.
 */
final class Model {
    static final class Sailor {
        boolean[] mood = new boolean[16];
        int rum;
        int watch;

        int number() {
            int number = 0;
            for (int bit = 15; bit >= 0; bit--) {
                number = number * 2 + (mood[bit] ? 1 : 0);
            }
            return number;
        }

        void set(int number) {
            for (int bit = 0; bit < 16; bit++) {
                mood[bit] = number % 2 == 1;
                number /= 2;
            }
        }

        int count(int from) {
            int count = 0;
            for (int bit = from; bit < from + 8; bit++) {
                count += mood[bit] ? 1 : 0;
            }
            return count;
        }

        Sailor copy() {
            Sailor copy = new Sailor();
            copy.mood = mood.clone();
            copy.rum = rum;
            copy.watch = watch;
            return copy;
        }
    }

    record Sight(Sailor sailor, int hour, float read) {
    }

    static final class World {
        List<Sailor> crew = new ArrayList<>();
        /** The oldest first. */
        List<Sight> log = new ArrayList<>();
        int[] horizons = {4, 4, 4, 4};
        int error;
        int hour;
        int taken;
        int given;
        int drunk;
        int ashore;

        World copy() {
            World copy = new World();
            for (Sailor sailor : crew) {
                copy.crew.add(sailor.copy());
            }
            for (Sight sight : log) {
                copy.log.add(new Sight(copy.crew.get(crew.indexOf(sight.sailor)), sight.hour, sight.read));
            }
            copy.horizons = horizons.clone();
            copy.error = error;
            copy.hour = hour;
            copy.taken = taken;
            copy.given = given;
            copy.drunk = drunk;
            copy.ashore = ashore;
            return copy;
        }

        boolean has(int sailor) {
            return sailor >= 0 && sailor < crew.size();
        }

        int angle(Sailor sailor) {
            return sailor.count(0) + sailor.rum - sailor.count(8) - horizons[sailor.watch];
        }

        float reading(Sailor sailor) {
            return (angle(sailor) + error) / 4.0f - sailor.rum / 8.0f;
        }

        int cups() {
            return crew.stream().mapToInt(sailor -> sailor.rum).sum();
        }

        void pass() {
            hour++;
            for (Sailor sailor : crew) {
                boolean[] before = sailor.mood.clone();
                for (int bit = 0; bit < 16; bit++) {
                    sailor.mood[(bit + 1) % 16] = before[bit];
                }
            }
            for (Sailor sailor : crew) {
                if (sailor.rum > 0) {
                    sailor.rum--;
                    drunk++;
                }
            }
            if (hour % 4 == 0) {
                for (Sailor sailor : crew) {
                    sailor.watch = sailor.watch == 3 ? 0 : sailor.watch + 1;
                }
            }
        }
    }

    private static final String H = "[0-9a-f]";
    private static final String COMMAND = "(sail " + H + H + H + H + "|(shore|sight) [0-9]|mood [0-9] " + H + H + H + H
            + "|rum [0-9] [0-9]|watch [0-9] [0-9]|horizon [0-9] [0-9]|error -?[0-9]|hour)";
    private static final Pattern TEXT = Pattern.compile(COMMAND + "(;" + COMMAND + ")*");

    World now = new World();
    World saved;
    Deque<World> past = new ArrayDeque<>();
    String input = "";
    String line = "";
    int fault = Expect.STATE;
    int[] reasons = {};

    /** A change, done at once; an error is told instead. The reason goes into told. */
    private int act(String kind, int one, int other, List<Integer> told) {
        World w = now;
        switch (kind) {
            case "sail":
                if (other < 0 || other > 65535) {
                    return Expect.BAD;
                }
                if (w.crew.size() == 8) {
                    return refuse(told, 1, 8);
                }
                Sailor fresh = new Sailor();
                fresh.set(other);
                w.crew.add(fresh);
                return w.crew.size() - 1;
            case "shore":
                if (!w.has(one)) {
                    return Expect.NONE;
                }
                Sailor gone = w.crew.remove(one);
                w.ashore += gone.rum;
                w.log.removeIf(sight -> sight.sailor == gone);
                return w.crew.size();
            case "mood":
                if (!w.has(one)) {
                    return Expect.NONE;
                }
                if (other < 0 || other > 65535) {
                    return Expect.BAD;
                }
                int mood = w.crew.get(one).number();
                if (mood == other) {
                    return refuse(told, 2, other);
                }
                w.crew.get(one).set(other);
                return mood;
            case "rum":
                if (!w.has(one)) {
                    return Expect.NONE;
                }
                if (other < 1 || other > 9) {
                    return Expect.BAD;
                }
                if (w.crew.get(one).rum + other > 9) {
                    return refuse(told, 3, w.crew.get(one).rum);
                }
                w.given += other;
                return w.crew.get(one).rum += other;
            case "watch":
                if (!w.has(one) || other < 0 || other > 3) {
                    return Expect.NONE;
                }
                int watch = w.crew.get(one).watch;
                if (watch == other) {
                    return refuse(told, 2, other);
                }
                w.crew.get(one).watch = other;
                return watch;
            default:
                return actMore(kind, one, other, told);
        }
    }

    private int actMore(String kind, int one, int other, List<Integer> told) {
        World w = now;
        switch (kind) {
            case "horizon":
                if (one < 0 || one > 3) {
                    return Expect.NONE;
                }
                if (other < 0 || other > 8) {
                    return Expect.BAD;
                }
                int horizon = w.horizons[one];
                if (horizon == other) {
                    return refuse(told, 2, other);
                }
                w.horizons[one] = other;
                return horizon;
            case "error":
                if (other < -3 || other > 3) {
                    return Expect.BAD;
                }
                int error = w.error;
                if (error == other) {
                    return refuse(told, 2, other);
                }
                w.error = other;
                return error;
            case "sight":
                if (!w.has(one)) {
                    return Expect.NONE;
                }
                Sailor sailor = w.crew.get(one);
                if (w.log.stream().anyMatch(sight -> sight.sailor == sailor && sight.hour == w.hour)) {
                    return refuse(told, 4, one);
                }
                w.log.add(new Sight(sailor, w.hour, w.reading(sailor)));
                w.taken++;
                if (w.log.size() > 10) {
                    w.log.remove(0);
                }
                return w.log.size();
            case "hour":
                w.pass();
                return w.cups();
            default:
                throw new IllegalStateException(kind);
        }
    }

    private static int refuse(List<Integer> told, int number, int detail) {
        told.add(number);
        told.add(detail);
        return Expect.REFUSED;
    }

    private static boolean isError(int answer) {
        return answer < -100000;
    }

    private void remember(World before) {
        past.push(before);
        if (past.size() > 8) {
            past.removeLast();
        }
    }

    int change(String kind, int one, int other) {
        World before = now.copy();
        List<Integer> told = new ArrayList<>();
        int answer = act(kind, one, other, told);
        if (answer == Expect.REFUSED) {
            reasons = new int[] {told.get(0), told.get(1)};
        }
        if (!isError(answer)) {
            remember(before);
        }
        return answer;
    }

    static int faultOf(String text) {
        if (TEXT.matcher(text).matches()) {
            return -1;
        }
        for (int length = 1; length <= text.length(); length++) {
            Matcher matcher = TEXT.matcher(text.substring(0, length));
            if (!matcher.matches() && !matcher.hitEnd()) {
                return length - 1;
            }
        }
        return text.length();
    }

    int read() {
        String text = input;
        input = "";
        if (faultOf(text) >= 0) {
            fault = faultOf(text);
            return Expect.BAD;
        }
        World before = now.copy();
        String[] commands = text.split(";");
        for (int index = 0; index < commands.length; index++) {
            String[] words = commands[index].split(" ");
            boolean isLast = words[0].equals("sail") || words[0].equals("error");
            int one = words.length > 1 && !isLast ? Integer.parseInt(words[1]) : 0;
            String last = words[words.length - 1];
            boolean isHex = words[0].equals("sail") || words[0].equals("mood");
            int other = words.length == 1 ? 0 : Integer.parseInt(last, isHex ? 16 : 10);
            List<Integer> told = new ArrayList<>();
            int answer = act(words[0], one, other, told);
            if (isError(answer)) {
                reasons = told.isEmpty() ? new int[] {5, index} : new int[] {5, index, told.get(0), told.get(1)};
                now = before;
                return Expect.REFUSED;
            }
        }
        remember(before);
        return commands.length;
    }

    int append(char sign) {
        if (sign < 32 || sign > 126) {
            return Expect.BAD;
        }
        if (input.length() == 60) {
            return Expect.FULL;
        }
        input += sign;
        return input.length();
    }

    int reason(int depth, boolean isDetail) {
        if (depth != 0 && depth != 1) {
            return Expect.BAD;
        }
        if (reasons.length == 0) {
            return Expect.STATE;
        }
        int index = depth * 2 + (isDetail ? 1 : 0);
        return index < reasons.length ? reasons[index] : Expect.NOTHING;
    }

    int undo() {
        if (past.isEmpty()) {
            return Expect.STATE;
        }
        now = past.pop();
        return past.size();
    }

    int save() {
        saved = now.copy();
        return now.crew.size();
    }

    int restore() {
        if (saved == null) {
            return Expect.STATE;
        }
        now = saved.copy();
        past.clear();
        return now.crew.size();
    }

    private Sight sight(int index) {
        return now.log.get(now.log.size() - 1 - index);
    }

    int sightOf(int index, int what) {
        if (index < 0 || index >= now.log.size()) {
            return Expect.NONE;
        }
        switch (what) {
            case 0: return now.crew.indexOf(sight(index).sailor);
            case 1: return sight(index).hour;
            case 2: return Float.floatToIntBits(sight(index).read);
            default: return Expect.BAD;
        }
    }

    int unlike(int one, int other) {
        if (!now.has(one) || !now.has(other)) {
            return Expect.NONE;
        }
        return Integer.bitCount(now.crew.get(one).number() ^ now.crew.get(other).number());
    }

    /** By the closure over all pairs. */
    private boolean[][] messmates() {
        int size = now.crew.size();
        boolean[][] with = new boolean[size][size];
        for (int one = 0; one < size; one++) {
            for (int other = 0; other < size; other++) {
                with[one][other] = unlike(one, other) <= 4;
            }
        }
        for (int middle = 0; middle < size; middle++) {
            for (int one = 0; one < size; one++) {
                for (int other = 0; other < size; other++) {
                    with[one][other] |= with[one][middle] && with[middle][other];
                }
            }
        }
        return with;
    }

    int messes() {
        java.util.Set<Integer> messes = new java.util.HashSet<>();
        for (int sailor = 0; sailor < now.crew.size(); sailor++) {
            messes.add(mess(sailor));
        }
        return messes.size();
    }

    private int mess(int sailor) {
        int set = 0;
        for (int other = 0; other < now.crew.size(); other++) {
            set += messmates()[sailor][other] ? 1 << other : 0;
        }
        return set;
    }

    int sailorOf(int sailor, int what) {
        if (!now.has(sailor)) {
            return Expect.NONE;
        }
        Sailor one = now.crew.get(sailor);
        switch (what) {
            case 0: return one.number();
            case 1: return one.rum;
            case 2: return one.watch;
            case 3: return one.count(0);
            case 4: return one.count(8);
            case 5: return now.angle(one);
            case 6: return (int) now.log.stream().filter(sight -> sight.sailor == one).count();
            case 7:
                int mates = 0;
                for (int other = 0; other < now.crew.size(); other++) {
                    mates += other != sailor && unlike(sailor, other) <= 4 ? 1 : 0;
                }
                return mates;
            case 8: return mess(sailor);
            default: return Expect.BAD;
        }
    }

    int watchOf(int watch, int what) {
        if (watch < 0 || watch > 3) {
            return Expect.NONE;
        }
        List<Sailor> there = now.crew.stream().filter(sailor -> sailor.watch == watch).toList();
        switch (what) {
            case 0: return now.horizons[watch];
            case 1: return there.size();
            case 2: return there.stream().mapToInt(sailor -> sailor.count(0)).sum();
            case 3: return there.stream().mapToInt(sailor -> sailor.count(8)).sum();
            default: return Expect.BAD;
        }
    }

    float angle(int sailor) {
        return now.has(sailor) ? now.angle(now.crew.get(sailor)) / 4.0f : 0.0f;
    }

    int readBits(int sailor) {
        return now.has(sailor) ? Float.floatToIntBits(now.reading(now.crew.get(sailor))) : Expect.NONE;
    }

    /** Null without a fix. */
    private Float fix(int sailor) {
        List<Float> reads = new ArrayList<>();
        for (Sight sight : now.log) {
            if (sight.sailor == now.crew.get(sailor)) {
                reads.add(sight.read);
            }
        }
        int size = reads.size();
        return size < 2 ? null : (Float) ((reads.get(size - 1) + reads.get(size - 2)) / 2);
    }

    int fixBits(int sailor) {
        if (!now.has(sailor)) {
            return Expect.NONE;
        }
        return fix(sailor) == null ? Expect.NOTHING : Float.floatToIntBits(fix(sailor));
    }

    int meet(int one, int other) {
        if (!now.has(one) || !now.has(other)) {
            return Expect.NONE;
        }
        if (fix(one) == null || fix(other) == null) {
            return Expect.NOTHING;
        }
        return Math.abs(fix(one) - fix(other)) < 0.5f ? 1 : 0;
    }

    int closest(int one, int other) {
        if (!now.has(one) || !now.has(other)) {
            return Expect.NONE;
        }
        int best = 0;
        int least = 17;
        int mood = now.crew.get(one).number();
        for (int hours = 0; hours < 16; hours++) {
            int unlike = Integer.bitCount(mood ^ now.crew.get(other).number());
            if (unlike < least) {
                least = unlike;
                best = hours;
            }
            mood = mood * 2 % 65536 + mood / 32768;
        }
        return best;
    }

    int would(int sailor, int hours) {
        if (!now.has(sailor)) {
            return Expect.NONE;
        }
        if (hours < 0 || hours > 40) {
            return Expect.BAD;
        }
        World later = now.copy();
        for (int hour = 0; hour < hours; hour++) {
            later.pass();
        }
        return later.angle(later.crew.get(sailor));
    }

    int sinks(int sailor) {
        if (!now.has(sailor)) {
            return Expect.NONE;
        }
        for (int hours = 0; hours <= 40; hours++) {
            if (would(sailor, hours) <= 0) {
                return hours;
            }
        }
        return Expect.NOTHING;
    }

    int highest(int place) {
        List<Sailor> order = new ArrayList<>(now.crew);
        order.sort(Comparator.comparingInt((Sailor sailor) -> -now.angle(sailor))
                .thenComparingInt(sailor -> -sailor.count(0)));
        return place >= 0 && place < order.size() ? now.crew.indexOf(order.get(place)) : Expect.NONE;
    }

    int ranked(int place) {
        List<Integer> order = new ArrayList<>();
        for (int index = 0; index < now.log.size(); index++) {
            order.add(index);
        }
        order.sort(Comparator.comparing((Integer index) -> -sight(index).read));
        return place >= 0 && place < order.size() ? order.get(place) : Expect.NONE;
    }

    long packed() {
        long all = 0;
        for (int sailor = 3; sailor >= 0; sailor--) {
            all = all * 65536 + (now.has(sailor) ? now.crew.get(sailor).number() : 0);
        }
        return all;
    }

    double meanAngle() {
        return now.crew.stream().mapToInt(now::angle).average().orElse(0.0);
    }

    int account(int what) {
        switch (what) {
            case 0: return now.crew.size();
            case 1: return now.hour;
            case 2: return now.error;
            case 3: return now.log.size();
            case 4: return now.taken;
            case 5: return now.cups();
            case 6: return now.given;
            case 7: return now.drunk;
            case 8: return now.ashore;
            case 9: return input.length();
            case 10: return past.size();
            default: return Expect.BAD;
        }
    }

    int write(int sailor) {
        if (!now.has(sailor)) {
            return Expect.NONE;
        }
        Sailor one = now.crew.get(sailor);
        line = String.format("%04x%s@%d>%d", one.number(), one.rum == 0 ? "" : "*" + one.rum, one.watch, now.angle(one));
        return line.length();
    }

    int writeLog() {
        List<String> parts = new ArrayList<>();
        for (int index = 0; index < now.log.size(); index++) {
            parts.add(sightOf(index, 0) + ":" + sightOf(index, 1));
        }
        line = String.join(" ", parts);
        return line.length();
    }

    int written(int index) {
        return index >= 0 && index < line.length() ? line.charAt(index) : Expect.NONE;
    }
}
