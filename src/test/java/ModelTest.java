import java.util.Random;

/** Runs of calls by chance, always the same ones, against the model; none has more than 512 calls. */
public final class ModelTest extends Expect {
    private static final int RUNS = 2000;
    private static final String[] CHANGES = {"sail", "sail", "shore", "mood", "rum", "rum", "watch", "horizon", "error",
        "sight", "sight", "sight", "sight", "hour", "hour", "hour"};

    private final Random random;
    private final MoodSextant x = new MoodSextant();
    private final Model model = new Model();
    private final int run;
    private int calls;

    private ModelTest(int run) {
        this.run = run;
        random = new Random(run);
    }

    public static void main(String[] args) {
        for (int run = 0; run < RUNS && wrong() == 0; run++) {
            new ModelTest(run).go();
        }
        finish();
    }

    private void same(String call, long got, long want) {
        calls++;
        due("run " + run + ", call " + calls + ": " + call, got, want);
    }

    private void go() {
        // A text takes up to some seventy calls, and a line twice as many as it has characters.
        while (calls < 370 && wrong() == 0) {
            int kind = random.nextInt(100);
            if (kind < 45) {
                change();
            } else if (kind < 53) {
                text();
            } else if (kind < 58) {
                back();
            } else {
                ask();
            }
        }
    }

    private int sailor() {
        return random.nextInt(10) - (random.nextInt(8) == 0 ? 1 : 0) & 15;
    }

    private int mood() {
        int mood = random.nextInt(65536);
        switch (random.nextInt(6)) {
            case 0: return mood & 0x000f;
            case 1: return mood & 0x00ff;
            case 2: return mood | 0xff00;
            case 3: return 0x00ff ^ 1 << random.nextInt(16);
            case 4: return random.nextInt(6) == 0 ? mood + 65536 * (random.nextBoolean() ? 1 : -1) : mood;
            default: return mood;
        }
    }

    private int valueFor(String kind) {
        switch (kind) {
            case "sail": return mood();
            case "mood": return mood();
            case "rum": return random.nextInt(12) - 1;
            case "watch": return random.nextInt(6) - 1;
            case "horizon": return random.nextInt(11) - 1;
            case "error": return random.nextInt(9) - 4;
            default: return 0;
        }
    }

    private void change() {
        String kind = CHANGES[random.nextInt(CHANGES.length)];
        int one = kind.equals("horizon") ? random.nextInt(6) - 1 : sailor();
        int other = valueFor(kind);
        int want = model.change(kind, one, other);
        String call = kind + "(" + one + ", " + other + ")";
        switch (kind) {
            case "sail": same(call, x.sail(other), want); break;
            case "shore": same(call, x.shore(one), want); break;
            case "mood": same(call, x.mood(one, other), want); break;
            case "rum": same(call, x.rum(one, other), want); break;
            case "watch": same(call, x.watch(one, other), want); break;
            case "horizon": same(call, x.horizon(one, other), want); break;
            case "error": same(call, x.error(other), want); break;
            case "sight": same(call, x.sight(one), want); break;
            default: same(call, x.hour(), want); break;
        }
    }

    private String command() {
        String kind = CHANGES[random.nextInt(CHANGES.length)];
        int one = random.nextInt(random.nextInt(8) == 0 ? 10 : 4);
        int value = random.nextInt(random.nextInt(8) == 0 ? 10 : 4);
        switch (kind) {
            case "hour": return "hour";
            case "sail": return String.format("sail %04x", mood() & 65535);
            case "mood": return String.format("mood %d %04x", one, mood() & 65535);
            case "shore": return "shore " + one;
            case "sight": return "sight " + one;
            case "error": return "error " + (random.nextBoolean() ? "-" : "") + value;
            default: return kind + " " + one + " " + value;
        }
    }

    private void text() {
        StringBuilder text = new StringBuilder(command());
        for (int more = random.nextInt(5); more > 0; more--) {
            text.append(';').append(command());
        }
        switch (random.nextInt(8)) {
            case 0: text.setLength(random.nextInt(text.length() + 1)); break;
            case 1: text.setCharAt(random.nextInt(text.length()), (char) (30 + random.nextInt(100))); break;
            case 2: text.deleteCharAt(random.nextInt(text.length())); break;
            case 3: text.insert(random.nextInt(text.length()), "acehilmors ;-019".charAt(random.nextInt(16))); break;
            default: break;
        }
        for (int index = 0; index < text.length(); index++) {
            same("append " + text.charAt(index), x.append(text.charAt(index)), model.append(text.charAt(index)));
        }
        same("account(9)", x.account(9), model.account(9));
        same("read of " + text, x.read(), model.read());
        same("fault of " + text, x.fault(), model.fault);
        reasons();
    }

    private void reasons() {
        int depth = random.nextInt(4) - 1;
        boolean isDetail = random.nextBoolean();
        same("reason(" + depth + ", " + isDetail + ")", x.reason(depth, isDetail), model.reason(depth, isDetail));
    }

    private void back() {
        switch (random.nextInt(8)) {
            case 0: same("save", x.save(), model.save()); break;
            case 1: same("restore", x.restore(), model.restore()); break;
            default: same("undo", x.undo(), model.undo()); break;
        }
    }

    private void ask() {
        int one = sailor();
        int other = sailor();
        int what = random.nextInt(13) - 1;
        String with = "(" + one + ", " + other + ")";
        switch (random.nextInt(20)) {
            case 0: same("sailorOf(" + one + ", " + what + ")", x.sailorOf(one, what), model.sailorOf(one, what)); break;
            case 1: same("watchOf", x.watchOf(one - 2, what), model.watchOf(one - 2, what)); break;
            case 2: same("sightOf", x.sightOf(one, what % 4), model.sightOf(one, what % 4)); break;
            case 3: dueDouble("angle", x.angle(one), model.angle(one)); break;
            case 4: same("readBits", x.readBits(one), model.readBits(one)); break;
            case 5: same("fixBits", x.fixBits(one), model.fixBits(one)); break;
            case 6: same("fixAgain", x.fixAgain(one), model.fixBits(one)); break;
            case 7: same("meet" + with, x.meet(one, other), model.meet(one, other)); break;
            case 8: same("unlike" + with, x.unlike(one, other), model.unlike(one, other)); break;
            case 9: same("unlikeAgain" + with, x.unlikeAgain(one, other), model.unlike(one, other)); break;
            case 10: same("closest" + with, x.closest(one, other), model.closest(one, other)); break;
            case 11: would(one, random.nextInt(44) - 1); break;
            case 12: same("sinks", x.sinks(one), model.sinks(one)); break;
            case 13: same("messes", x.messes(), model.messes()); break;
            case 14: same("highest", x.highest(one - 1), model.highest(one - 1)); break;
            case 15: same("ranked", x.ranked(one - 1), model.ranked(one - 1)); break;
            case 16: same("packed", x.packed(), model.packed()); break;
            case 17: same("isCounted", x.isCounted() ? 1 : 0, 1); dueDouble("meanAngle", x.meanAngle(), model.meanAngle()); break;
            case 18: same("account " + what, x.account(what), model.account(what)); break;
            default: lines(one); break;
        }
        reasons();
    }

    private void would(int sailor, int hours) {
        same("would(" + sailor + ", " + hours + ")", x.would(sailor, hours), model.would(sailor, hours));
    }

    private void lines(int sailor) {
        if (random.nextBoolean()) {
            same("write", x.write(sailor), model.write(sailor));
        } else {
            same("writeLog", x.writeLog(), model.writeLog());
        }
        int index = random.nextInt(12) - 1;
        same("written", x.written(index), model.written(index));
        due("run " + run + ": line", line(x), model.line);
        calls += 2 * model.line.length() + 1;
    }
}
