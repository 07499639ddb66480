import java.util.ArrayList;
import java.util.List;

/** Promises 38 to 40: undo, save and restore. */
public final class UndoTest extends Expect {
    public static void main(String[] args) {
        promise38();
        promise38Each();
        promise38Limit();
        promise38Errors();
        promise39();
        promise40();
        finish();
    }

    private static void change(MoodSextant x, int step) {
        switch (step % 10) {
            case 0: x.sail(0x1234 + step); break;
            case 1: x.rum(0, 5); break;
            case 2: x.sight(0); break;
            case 3: x.hour(); break;
            case 4: x.mood(0, step); break;
            case 5: x.watch(0, 1); break;
            case 6: x.horizon(1, 7); break;
            case 7: x.error(-2); break;
            case 8: read(x, "sail 0001;rum 1 3;hour;sight 1"); break;
            default: x.shore(0); break;
        }
    }

    private static void promise38() {
        MoodSextant x = new MoodSextant();
        due("38: none", x.undo(), STATE);
        List<List<Long>> views = new ArrayList<>();
        for (int step = 0; step < 10; step++) {
            views.add(view(x));
            change(x, step);
            due("38: changes", x.account(10), Math.min(8, step + 1));
        }
        for (int step = 9; step >= 2; step--) {
            due("38: undo", x.undo(), step - 2);
            dueView("38: step " + step, x, views.get(step));
        }
        due("38: no more", x.undo(), STATE);
        dueView("38: nothing changes", x, views.get(2));
    }

    /** Each kind of change behind those before it, with its undo. */
    private static void promise38Each() {
        for (int last = 0; last < 10; last++) {
            MoodSextant x = new MoodSextant();
            for (int step = 0; step < last; step++) {
                change(x, step);
            }
            List<Long> before = view(x);
            change(x, last);
            List<Long> after = view(x);
            due("38: it changes", before.equals(after), false);
            int kept = x.account(10);
            due("38: undo", x.undo(), kept - 1);
            dueView("38: undone " + last, x, before);
            change(x, last);
            dueView("38: again " + last, x, after);
            due("38: counted", x.isCounted(), true);
        }
        MoodSextant y = new MoodSextant();
        y.hour();
        due("38: an hour without sailors", y.undo(), 0);
        due("38: hour", y.account(1), 0);
    }

    private static void promise38Limit() {
        MoodSextant x = new MoodSextant();
        hours(x, 20);
        due("38: at most 8", x.account(10), 8);
        due("38: undo", x.undo(), 7);
        due("38: undo", x.undo(), 6);
        due("38: hour", x.account(1), 18);
        hours(x, 1);
        due("38: one more", x.account(10), 7);
        for (int left = 6; left >= 0; left--) {
            due("38: undo", x.undo(), left);
        }
        due("38: hour", x.account(1), 12);
        due("38: no more", x.undo(), STATE);
        hours(x, 1);
        due("38: one", x.account(10), 1);
    }

    private static void promise38Errors() {
        MoodSextant x = shipOf(1);
        x.sail(-1);
        x.shore(5);
        x.mood(0, 1);
        x.rum(0, 0);
        x.watch(0, 0);
        x.horizon(0, 4);
        x.error(0);
        x.sight(5);
        read(x, "x");
        read(x, "shore 9");
        x.append('h');
        x.write(0);
        x.save();
        x.would(0, 3);
        due("38: errors and questions are no changes", x.account(10), 1);
        x.undo();
        due("38: the input is not undone", x.account(9), 1);
        due("38: the line is not undone", line(x), "0001@0>-3");
        due("38: the fault is not undone", x.fault(), 0);
        due("38: the reason is not undone", x.reason(0, false), 5);
    }

    private static void promise39() {
        MoodSextant x = new MoodSextant();
        due("39: none", x.save(), 0);
        x.sail(1);
        x.sail(2);
        due("39: two", x.save(), 2);
        due("39: no change", x.account(10), 2);
        x.undo();
        due("39: undo leaves it", x.restore(), 2);
        x.shore(0);
        due("39: one", x.save(), 1);
        x.hour();
        due("39: in place of the one before", x.restore(), 1);
        due("39: the sailor", x.sailorOf(0, 0), 2);
    }

    private static void promise40() {
        MoodSextant x = new MoodSextant();
        due("40: STATE", x.restore(), STATE);
        for (int step = 0; step < 9; step++) {
            change(x, step);
        }
        due("40: STATE", x.restore(), STATE);
        due("40: an error changes nothing", x.account(10), 8);
        List<Long> before = view(x);
        due("40: save", x.save(), 2);
        for (int round = 0; round < 3; round++) {
            x.shore(1);
            x.horizon(2, round);
            x.horizon(1, 1);
            x.error(3);
            x.rum(0, 1);
            hours(x, 3);
            x.mood(0, 5);
            x.sight(0);
            due("40: restore", x.restore(), 2);
            dueView("40: round " + round, x, before);
            due("40: nothing can be undone", x.account(10), 0);
            due("40: nothing can be undone", x.undo(), STATE);
            due("40: counted", x.isCounted(), true);
        }
        x.hour();
        due("40: a change again", x.account(10), 1);
        due("40: undo", x.undo(), 0);
        dueView("40: undone", x, before);
        promise40Kept(x);
    }

    private static void promise40Kept(MoodSextant x) {
        x.append('h');
        x.write(0);
        String kept = line(x);
        x.error(-2);
        x.restore();
        due("40: the input stays", x.account(9), 1);
        due("40: the line stays", line(x), kept);
        due("40: the reason stays", x.reason(0, true), -2);
        MoodSextant y = new MoodSextant();
        y.save();
        y.sail(5);
        y.restore();
        due("40: nothing can be undone", y.undo(), STATE);
        due("40: empty again", y.account(0), 0);
    }
}
