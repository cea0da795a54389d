/** Promises 28 to 30: undo, save and restore. */
final class UndoAndSnapshotTest extends Checks {
    public static void main(String[] args) {
        undoOfEachCall();
        undoOfTornPages();
        undoOfEight();
        undoAndChangesInTurn();
        whatIsNoChange();
        snapshots();
        snapshotAndUndo();
        end();
    }

    private static void undoOfEachCall() {
        CaravanLogs y = after("p1");
        y.undo();
        due("nothing left", y.undo(), NOTHING);
        y.pass(2);
        String[] states = new String[8];
        int[] answers = new int[8];
        for (int i = 0; i < 7; i++) {
            states[i] = state(y);
            switch (i) {
                case 0: answers[i] = y.dusk(0); break;
                case 1: answers[i] = y.write(0, 1); break;
                case 2: answers[i] = y.march(0); break;
                case 3: answers[i] = y.road(0, 1, 0); break;
                case 4: answers[i] = y.sleep(2, 0); break;
                case 5: answers[i] = y.pass(3); break;
                default: answers[i] = read(y, "d3;w3c;m3"); break;
            }
            due("a change " + i, answers[i] >= 0 ? 1 : 0, 1);
            due("changes " + i, y.account(12), i + 2);
        }
        for (int i = 6; i >= 0; i--) {
            due("undo " + i, y.undo(), i + 1);
            due("changes left", y.account(12), i + 1);
            due("state " + i, state(y), states[i]);
        }
        due("the last one", y.undo(), 0);
        String empty = state(y);
        due("nothing left", y.undo(), NOTHING);
        due("the state stays", state(y), empty);
    }

    /** Pages that were torn and written over come back, with their terms and letters. */
    private static void undoOfTornPages() {
        CaravanLogs x = after("d0;w0a;m0;r02-;r03-;r04-;w0b;w0c;w0d;m0", "r14-;r12-;r13-;d4;w4c;m4;r14+");
        String before = state(x);
        x.save();
        due("a page is settled", x.march(4), 2);
        due("torn and written over", log(x, 1), "a1c2|");
        due("undo", x.undo(), 2);
        due("the pages are back", log(x, 1), "a1|b1c1d1");
        due("the state", state(x), before);
        x.march(4);
        due("restore", x.restore(), 0);
        due("the pages are back again", log(x, 1), "a1|b1c1d1");
        due("the state", state(x), before);
    }

    private static void undoOfEight() {
        CaravanLogs x = new CaravanLogs();
        for (int hour = 1; hour <= 20; hour++) {
            x.pass(1);
            due("changes", x.account(12), Math.min(hour, 8));
        }
        for (int left = 7; left >= 0; left--) {
            due("undo", x.undo(), left);
            due("hours", x.account(10), 12 + left);
        }
        dueKept("the ninth", x, x::undo, NOTHING);
        due("hours stay", x.account(10), 12);
    }

    private static void undoAndChangesInTurn() {
        CaravanLogs x = new CaravanLogs();
        for (int hours = 1; hours <= 10; hours++) {
            x.pass(hours);
        }
        due("hours", x.account(10), 55);
        due("undo", x.undo(), 7);
        due("undo", x.undo(), 6);
        due("hours", x.account(10), 36);
        x.pass(20);
        due("changes", x.account(12), 7);
        x.pass(30);
        x.pass(30);
        due("changes", x.account(12), 8);
        int[] hours = {86, 56, 36, 28, 21, 15, 10, 6};
        for (int i = 0; i < 8; i++) {
            due("undo", x.undo(), 7 - i);
            due("hours", x.account(10), hours[i]);
        }
        due("nothing left", x.undo(), NOTHING);
    }

    private static void whatIsNoChange() {
        CaravanLogs x = after("p1");
        x.dusk(5);
        x.write(0, 0);
        x.march(0);
        x.road(0, 0, 0);
        x.sleep(0, 1);
        x.pass(0);
        x.read();
        read(x, "p1;k0");
        read(x, "p0");
        x.append('p');
        x.would(0);
        x.captainIn();
        x.describe(0);
        x.show(0);
        x.save();
        due("one change", x.account(12), 1);
        due("undone", x.undo(), 0);
        due("hours", x.account(10), 0);
        x = after("p1");
        due("what changes nothing in the end is a change", read(x, "z0;k0"), 2);
        due("changes", x.account(12), 2);
        x = after("d0;w0a;m0");
        due("a march that changes no log is one", x.march(0), 1);
        due("changes", x.account(12), 2);
    }

    private static void snapshots() {
        CaravanLogs x = new CaravanLogs();
        dueKept("no snapshot", x, x::restore, NOTHING);
        due("save", x.save(), 0);
        String first = state(x);
        read(x, "d0;w0a;m0;w0b;z3;r01-;p7");
        String second = state(x);
        due("restore", x.restore(), 0);
        due("the first state", state(x), first);
        due("nothing can be undone", x.account(12), 0);
        due("undo", x.undo(), NOTHING);
        read(x, "d0;w0a;m0;w0b;z3;r01-;p7");
        due("again", state(x), second);
        due("it stays", x.restore(), 0);
        due("the first state", state(x), first);
        read(x, "d0;w0a;m0;w0b;z3;r01-;p7");
        due("in place of the earlier one", x.save(), 7);
        read(x, "p9;d1;w1c;m1");
        due("restore", x.restore(), 7);
        due("the second state", state(x), second);
        due("changes after it can be undone", x.pass(1) >= 0 ? x.undo() : BAD, 0);
        due("the second state", state(x), second);
    }

    private static void snapshotAndUndo() {
        CaravanLogs x = after("p2");
        x.pass(3);
        due("save", x.save(), 5);
        due("a save leaves what can be undone", x.account(12), 2);
        due("undo", x.undo(), 1);
        due("hours", x.account(10), 2);
        due("the snapshot is not undone", x.restore(), 5);
        due("hours", x.account(10), 5);
        due("nothing can be undone", x.undo(), NOTHING);
        for (int i = 0; i < 9; i++) {
            x.pass(1);
        }
        due("eight changes", x.account(12), 8);
        due("restore", x.restore(), 5);
        due("none", x.account(12), 0);
        x.write(3, 1);
        x.describe(0);
        String line = line(x);
        x.restore();
        due("the reasons stay", x.refusal(0), 2);
        due("the line stays", line(x), line);
    }
}
