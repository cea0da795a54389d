/** Promises 28 to 30: undo, save and restore. */
final class UndoAndSnapshotTest extends Checks {
    public static void main(String[] args) {
        undoOfEachCall();
        undoOfTornPages();
        undoOfTwelveTornPages();
        undoOfEight();
        atMostEight();
        eachKindIsUndoneAsTheNinth();
        undoAndChangesInTurn();
        undoOfARefusedCall();
        whatIsNoChange();
        textLineAndReasonsStayInUndo();
        noSnapshotAtFirst();
        snapshots();
        snapshotOfEachKindOfChange();
        snapshotInPlaceOfAnother();
        snapshotStays();
        nothingCanBeUndoneBehindRestore();
        snapshotAndUndo();
        textLineAndReasonsStayInRestore();
        end();
    }

    /** A new object with the first ones of nine changes: one of each kind, and those that begin, again. */
    private static CaravanLogs changed(int changes) {
        CaravanLogs x = new CaravanLogs();
        int[] answers = new int[changes];
        for (int i = 0; i < changes; i++) {
            switch (i) {
                case 0: answers[i] = x.dusk(0); break;
                case 1: answers[i] = x.write(0, 1); break;
                case 2: answers[i] = x.march(0); break;
                case 3: answers[i] = x.road(0, 1, 0); break;
                case 4: answers[i] = x.sleep(2, 0); break;
                case 5: answers[i] = x.pass(3); break;
                case 6: answers[i] = read(x, "d3;w3c;m3"); break;
                case 7: answers[i] = x.dusk(1); break;
                default: answers[i] = x.write(1, 3); break;
            }
            due("a change " + i, answers[i] >= 0 ? 1 : 0, 1);
        }
        return x;
    }

    private static void undoOfEachCall() {
        for (int changes = 0; changes <= 9; changes++) {
            int undoable = Math.min(changes, 8);
            due("changes", changed(changes).account(12), undoable);
            for (int undos = 1; undos <= undoable; undos++) {
                CaravanLogs x = changed(changes);
                for (int i = 1; i <= undos; i++) {
                    due("undo", x.undo(), undoable - i);
                }
                due(undos + " of " + changes + " undone", stateButUndo(x), stateButUndo(changed(changes - undos)));
            }
        }
        dueKept("nothing left to undo", CaravanLogs::new, CaravanLogs::undo, NOTHING);
    }

    /** Pages that were torn and written over come back, with their terms and letters. */
    private static void undoOfTornPages() {
        String[] texts = {"d0;w0a;m0;r02-;r03-;r04-;w0b;w0c;w0d;m0", "r14-;r12-;r13-;d4;w4c;m4;r14+"};
        CaravanLogs x = after(texts);
        due("a page is settled", x.march(4), 2);
        due("torn and written over", log(x, 1), "a1c2|");
        due("undo", x.undo(), 2);
        due("the pages are back", log(x, 1), "a1|b1c1d1");
        due("the state", state(x), state(after(texts)));
        x = after(texts);
        x.save();
        x.march(4);
        due("restore", x.restore(), 0);
        due("the pages are back again", log(x, 1), "a1|b1c1d1");
        x = after(texts);
        x.save();
        x.restore();
        CaravanLogs y = after(texts);
        y.save();
        y.march(4);
        y.restore();
        due("the state", state(y), state(x));
    }

    /** A march tears and writes over twelve pages of a camp: all of them come back, at each of the camps. */
    private static void undoOfTwelveTornPages() {
        for (int camp = 1; camp < 5; camp++) {
            String before = stateButUndo(beforeTwelveTorn(camp));
            due("undone at " + camp, stateButUndo(backFromTwelveTorn(camp, true)), before);
            due("restored at " + camp, stateButUndo(backFromTwelveTorn(camp, false)), before);
        }
    }

    /** Camps 0 and a second one have twelve pages b, a third one has twelve pages d of a greater term. */
    private static CaravanLogs beforeTwelveTorn(int camp) {
        int leader = camp == 1 ? 2 : 1;
        CaravanLogs x = after("d0", times(12, "w0b"));
        for (int other = 1; other < 5; other++) {
            if (other != camp) {
                x.road(0, other, 0);
            }
        }
        x.march(0);
        x.road(leader, camp, 0);
        due("leads", x.dusk(leader), 3);
        for (int i = 0; i < 12; i++) {
            x.write(leader, 3);
        }
        x.road(leader, camp, 1);
        x.road(leader, 0, 1);
        return x;
    }

    private static CaravanLogs backFromTwelveTorn(int camp, boolean isByUndo) {
        CaravanLogs x = beforeTwelveTorn(camp);
        if (!isByUndo) {
            x.save();
        }
        due("march", x.march(camp == 1 ? 2 : 1), 12);
        due("torn", x.account(7), 24);
        due("back", isByUndo ? x.undo() : x.restore(), isByUndo ? 7 : 0);
        return x;
    }

    private static void undoOfEight() {
        CaravanLogs x = new CaravanLogs();
        for (int hour = 1; hour <= 20; hour++) {
            x.pass(1);
            due("changes", x.account(12), Math.min(hour, 8));
        }
        for (int left = 7; left >= 0; left--) {
            due("undo", x.undo(), left);
            due("hours", x.account(10), 12 + left);
        }
        due("the ninth", x.undo(), NOTHING);
        due("hours stay", x.account(10), 12);
    }

    /** "At most 8 of them can be undone": from none to more than two rounds, and one undo more than there is. */
    private static void atMostEight() {
        for (int changes = 0; changes <= 18; changes++) {
            CaravanLogs x = new CaravanLogs();
            for (int i = 0; i < changes; i++) {
                x.pass(1);
            }
            int undoable = Math.min(changes, 8);
            due("of " + changes, x.account(12), undoable);
            for (int left = undoable - 1; left >= 0; left--) {
                due("undo of " + changes, x.undo(), left);
                due("left of " + changes, x.account(12), left);
            }
            due("hours left of " + changes, x.account(10), changes - undoable);
            due("one more of " + changes, x.undo(), NOTHING);
            due("hours stay", x.account(10), changes - undoable);
            due("a change then", x.pass(1) >= 0 ? x.undo() : BAD, 0);
        }
    }

    /** Eight changes behind it a change can't be undone any more; seven behind it, it can, of whatever kind it is. */
    private static void eachKindIsUndoneAsTheNinth() {
        for (int changes = 1; changes <= 9; changes++) {
            for (int behind = 7; behind <= 8; behind++) {
                CaravanLogs x = changed(changes);
                for (int i = 0; i < behind; i++) {
                    x.sleep(3, i % 2);
                }
                due("eight can be undone", x.account(12), 8);
                for (int i = 0; i < 8; i++) {
                    x.undo();
                }
                String want = stateButUndo(changed(changes - 8 + behind));
                due("undone behind " + changes + " and " + behind, stateButUndo(x), want);
            }
        }
    }

    private static void undoAndChangesInTurn() {
        CaravanLogs x = new CaravanLogs();
        for (int hours = 1; hours <= 10; hours++) {
            x.pass(hours);
        }
        due("hours", x.account(10), 55);
        due("undo", x.undo(), 7);
        due("undo", x.undo(), 6);
        due("hours", x.account(10), 36);
        x.pass(20);
        due("changes", x.account(12), 7);
        x.pass(30);
        x.pass(30);
        due("changes", x.account(12), 8);
        int[] hours = {86, 56, 36, 28, 21, 15, 10, 6};
        for (int i = 0; i < 8; i++) {
            due("undo", x.undo(), 7 - i);
            due("hours", x.account(10), hours[i]);
        }
        due("nothing left", x.undo(), NOTHING);
    }

    /** A call that is refused is no change, and takes the place of none. */
    private static void undoOfARefusedCall() {
        CaravanLogs x = new CaravanLogs();
        for (int i = 1; i <= 9; i++) {
            x.pass(1);
            x.dusk(5);
            x.sleep(0, 1);
            read(x, "p2;k0");
        }
        due("changes", x.account(12), 8);
        for (int left = 7; left >= 0; left--) {
            due("undo", x.undo(), left);
            due("hours", x.account(10), left + 1);
        }
        due("nothing left", x.undo(), NOTHING);
    }

    private static void whatIsNoChange() {
        CaravanLogs x = after("p1");
        x.dusk(5);
        x.write(0, 0);
        x.march(0);
        x.road(0, 0, 0);
        x.sleep(0, 1);
        x.pass(0);
        x.read();
        read(x, "p1;k0");
        read(x, "p0");
        x.append('p');
        x.would(0);
        x.captainIn();
        x.describe(0);
        x.show(0);
        x.save();
        due("one change", x.account(12), 1);
        due("undone", x.undo(), 0);
        due("hours", x.account(10), 0);
        x = after("p1");
        due("what changes nothing in the end is a change", read(x, "z0;k0"), 2);
        due("changes", x.account(12), 2);
        x = after("d0;w0a;m0");
        due("a march that changes no log is one", x.march(0), 1);
        due("changes", x.account(12), 2);
    }

    /** "The text, the line and the reasons are in neither undo nor snapshot, and stay." */
    private static CaravanLogs withTextLineAndReasons(CaravanLogs x) {
        x.describe(1);
        x.append('p');
        x.append('7');
        x.sleep(4, 1);
        return x;
    }

    private static void textLineAndReasonsStayInUndo() {
        CaravanLogs x = withTextLineAndReasons(after("d1"));
        due("undo", x.undo(), 0);
        due("line", line(x), "1C:1v1s0");
        due("reasons", reasons(x), "5 1 -4");
        due("text", x.account(11), 2);
        due("read", x.read(), 1);
        due("hours", x.account(10), 7);
        due("undo", x.undo(), 0);
        due("the text does not come back", x.account(11), 0);
    }

    private static void textLineAndReasonsStayInRestore() {
        CaravanLogs x = new CaravanLogs();
        x.append('m');
        x.show(0);
        x.save();
        x.append('0');
        due("a text of two", x.read(), REFUSED);
        x = withTextLineAndReasons(x);
        due("restore", x.restore(), 0);
        due("line", line(x), "1:0v-s0");
        due("reasons", reasons(x), "5 1 -4");
        due("text", x.account(11), 2);
        due("read", x.read(), 1);
        due("restore", x.restore(), 0);
        due("the text does not come back", x.account(11), 0);
    }

    /** "NOTHING if there is no snapshot." */
    private static void noSnapshotAtFirst() {
        dueKept("a new object", CaravanLogs::new, CaravanLogs::restore, NOTHING);
        dueKept("behind changes", () -> changed(7), CaravanLogs::restore, NOTHING);
        due("saved at once", new CaravanLogs().save(), 0);
        CaravanLogs x = new CaravanLogs();
        x.save();
        due("and restored at once", x.restore(), 0);
    }

    /** "The snapshot contains what changes can change." */
    private static void snapshotOfEachKindOfChange() {
        for (int saved = 0; saved <= 9; saved++) {
            for (int later = 0; later <= 4; later++) {
                CaravanLogs x = changed(saved);
                int hours = saved < 6 ? 0 : 3;
                due("save", x.save(), hours);
                read(x, later < 4 ? "p" + (later + 1) : "z4;d1;r23-;w1a");
                x.pass(later + 1);
                x.dusk(2);
                x.write(2, 2);
                x.march(2);
                x.road(3, 4, 0);
                due("restore", x.restore(), hours);
                due("as it was saved", stateButUndo(x), stateButUndo(changed(saved)));
            }
        }
    }

    private static void snapshots() {
        CaravanLogs x = new CaravanLogs();
        due("save", x.save(), 0);
        for (int i = 0; i < 2; i++) {
            read(x, "d0;w0a;m0;w0b;z3;r01-;p7");
            due("restore", x.restore(), 0);
            due("the first state", state(x), state(new CaravanLogs()));
            due("undo", x.undo(), NOTHING);
        }
    }

    private static void snapshotInPlaceOfAnother() {
        CaravanLogs x = new CaravanLogs();
        x.save();
        read(x, "d0;w0a;m0;w0b;z3;r01-;p7");
        String second = stateButUndo(x);
        due("in place of the earlier one", x.save(), 7);
        read(x, "p9;d1;w1c;m1");
        due("restore", x.restore(), 7);
        due("nothing can be undone", x.account(12), 0);
        x.pass(1);
        due("changes after it can be undone", x.undo(), 0);
        due("the second state", stateButUndo(x), second);
    }

    /** "Restores the snapshot, which stays": whatever is done to what was restored. */
    private static void snapshotStays() {
        CaravanLogs x = after("d0;w0a;p2");
        x.save();
        for (int i = 0; i < 3; i++) {
            read(x, "w0b;z1;r02-;p9;z0");
            due("restore", x.restore(), 2);
            due("its logs", logs(x), "a1| a1| a1| a1| a1|");
            due("its captain", camp(x, 0), "0C:1v0s0");
            due("restore at once", x.restore(), 2);
        }
    }

    /** "Nothing can be undone then": neither what was ahead of the save nor what was behind it. */
    private static void nothingCanBeUndoneBehindRestore() {
        for (int changes = 0; changes <= 9; changes++) {
            CaravanLogs x = after("p1");
            x.save();
            for (int i = 0; i < changes; i++) {
                x.pass(2);
            }
            due("restore", x.restore(), 1);
            due("changes", x.account(12), 0);
            due("undo", x.undo(), NOTHING);
            due("hours", x.account(10), 1);
            x.pass(3);
            x.pass(3);
            due("changes behind it", x.account(12), 2);
            due("undo", x.undo(), 1);
            due("undo", x.undo(), 0);
            due("hours", x.account(10), 1);
            due("nothing more", x.undo(), NOTHING);
        }
    }

    private static void snapshotAndUndo() {
        CaravanLogs x = after("p2");
        x.pass(3);
        due("save", x.save(), 5);
        due("a save leaves what can be undone", x.account(12), 2);
        due("undo", x.undo(), 1);
        due("hours", x.account(10), 2);
        due("the snapshot is not undone", x.restore(), 5);
        due("hours", x.account(10), 5);
        due("nothing can be undone", x.undo(), NOTHING);
        for (int i = 0; i < 9; i++) {
            x.pass(1);
        }
        due("eight changes", x.account(12), 8);
        due("restore", x.restore(), 5);
        due("none", x.account(12), 0);
        x.write(3, 1);
        x.describe(0);
        String line = line(x);
        x.restore();
        due("the reasons stay", x.refusal(0), 2);
        due("the line stays", line(x), line);
    }
}
