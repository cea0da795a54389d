import java.util.function.ToIntFunction;

/**
 * "Reasons": each reason for which each method refuses, as a call and as a command of a text, with its detail; and of
 * several that apply, the first that the method names. Promise 24 with it.
 */
final class ReasonsTest extends Checks {
    /** Camp 0 leads with a full log in term 1, camp 1 is asleep, the road between 0 and 3 is closed. */
    private static final String[] TEXTS = {"d0;z1;r03-", times(12, "w0a")};

    public static void main(String[] args) {
        asleep();
        captainOrNone();
        fullLog();
        bothCampsAreOne();
        soAlready();
        severalReasons();
        nothingWasRefused();
        keptUntilTheNextOne();
        numberOfTheCommand();
        commandsAfterChanges();
        numbersOfRefusal();
        end();
    }

    /** The call, and the text with the same command; the second command of that text is the refused one, too. */
    private static void dueRefused(String command, ToIntFunction<CaravanLogs> call, int reason, int detail) {
        CaravanLogs x = after(TEXTS);
        due(command + " as a call", call.applyAsInt(x), REFUSED);
        due("reasons of the call " + command, reasons(x), reason + " " + detail + " " + NOTHING);
        x = after(TEXTS);
        due(command + " as a command", read(x, command), REFUSED);
        due("reasons of the command " + command, reasons(x), reason + " " + detail + " 0");
        x = after(TEXTS);
        due(command + " behind another command", read(x, "r34-;" + command + ";z4"), REFUSED);
        due("reasons behind another command", reasons(x), reason + " " + detail + " 1");
    }

    /** "1, the camp is asleep: the camp." */
    private static void asleep() {
        dueRefused("d1", x -> x.dusk(1), 1, 1);
        dueRefused("w1a", x -> x.write(1, 0), 1, 1);
        dueRefused("m1", x -> x.march(1), 1, 1);
        for (int camp : new int[] {0, 4}) {
            CaravanLogs x = new CaravanLogs();
            x.sleep(camp, 0);
            refused("dusk of an end of the row", x, x.dusk(camp), 1, camp);
            refused("write of an end of the row", x, x.write(camp, 3), 1, camp);
            refused("march of an end of the row", x, x.march(camp), 1, camp);
        }
    }

    /** "2, the camp is a captain, or is none: its term": the least term, and one of two digits. */
    private static void captainOrNone() {
        dueRefused("d0", x -> x.dusk(0), 2, 1);
        dueRefused("w2b", x -> x.write(2, 1), 2, 1);
        dueRefused("m4", x -> x.march(4), 2, 1);
        CaravanLogs x = new CaravanLogs();
        refused("write in the term 0", x, x.write(2, 0), 2, 0);
        refused("march in the term 0", x, x.march(2), 2, 0);
        x = after(times(10, "d0;d1"), "d2");
        refused("dusk in the term 21", x, x.dusk(2), 2, 21);
        refused("write in the term 21", x, x.write(3, 0), 2, 21);
        refused("march in the term 21", x, x.march(4), 2, 21);
        x = after("d0;r04-;d4");
        refused("its own term, not the greatest", x, x.dusk(0), 2, 1);
        refused("its own term, the greatest", x, x.dusk(4), 2, 2);
    }

    /** "3, the log has 12 pages: 12." */
    private static void fullLog() {
        dueRefused("w0a", x -> x.write(0, 0), 3, 12);
        dueRefused("w0d", x -> x.write(0, 3), 3, 12);
        CaravanLogs x = after("d0", times(11, "w0a"));
        due("eleven pages are not refused", x.write(0, 0), 12);
        due("nothing was refused", x.refusal(0), NOTHING);
        x = after(TEXTS);
        due("the march gives full logs", x.march(0), 12);
        due("another captain", x.dusk(2), 4);
        refused("its log is full, too", x, x.write(2, 0), 3, 12);
    }

    /** "4, both camps are one: the camp." */
    private static void bothCampsAreOne() {
        for (int camp = 0; camp < 5; camp++) {
            int one = camp;
            dueRefused("r" + one + one + "-", x -> x.road(one, one, 0), 4, camp);
            dueRefused("r" + one + one + "+", x -> x.road(one, one, 1), 4, camp);
        }
    }

    /** "5, it is so already: the number 1 if it is open or awake, 0 if not." */
    private static void soAlready() {
        dueRefused("r03-", x -> x.road(0, 3, 0), 5, 0);
        dueRefused("r30-", x -> x.road(3, 0, 0), 5, 0);
        dueRefused("r02+", x -> x.road(0, 2, 1), 5, 1);
        dueRefused("z1", x -> x.sleep(1, 0), 5, 0);
        dueRefused("k0", x -> x.sleep(0, 1), 5, 1);
        dueRefused("k4", x -> x.sleep(4, 1), 5, 1);
    }

    /** "For the first of the reasons that its method names, in the order in which it names them." */
    private static void severalReasons() {
        dueRefused("w1b", x -> x.write(1, 1), 1, 1);
        CaravanLogs x = after(TEXTS);
        x.sleep(0, 0);
        refused("asleep, no captain, and full", x, x.write(0, 0), 1, 0);
        refused("asleep and no captain", x, x.march(0), 1, 0);
        x.sleep(0, 1);
        refused("no captain and full", x, x.write(0, 0), 2, 1);
        x = after("d0;z0");
        refused("a captain who fell asleep", x, x.dusk(0), 1, 0);
        x = after("z2");
        refused("one camp, as if open already", x, x.road(2, 2, 1), 4, 2);
        refused("one camp, as if closed already", x, x.road(2, 2, 0), 4, 2);
    }

    /** "NOTHING if nothing was refused": also behind calls that fail otherwise. */
    private static void nothingWasRefused() {
        String nothing = NOTHING + " " + NOTHING + " " + NOTHING;
        due("a new object", reasons(new CaravanLogs()), nothing);
        CaravanLogs x = after("d0;w0a;m0;r01-;z2;p3");
        x.dusk(5);
        x.write(0, 4);
        x.road(0, 0, 2);
        x.pass(31);
        x.would(0);
        x.would(2);
        x.append(127);
        read(x, "d0;");
        read(x, "p31");
        read(x, "d9");
        x.undo();
        x.undo();
        x.restore();
        due("no refusal among them", reasons(x), nothing);
    }

    /** "What was refused last": calls that succeed or fail otherwise, undo and restore leave it. */
    private static void keptUntilTheNextOne() {
        CaravanLogs x = after("d0");
        x.save();
        due("refused", x.dusk(0), REFUSED);
        String reasons = reasons(x);
        x.dusk(-1);
        x.write(0, 0);
        x.undo();
        x.undo();
        x.restore();
        read(x, "x");
        read(x, "p0");
        read(x, "p1");
        x.refusal(3);
        due("kept", reasons(x), reasons);
        due("refused next", x.road(3, 3, 1), REFUSED);
        due("the next one", reasons(x), "4 3 " + NOTHING);
    }

    /** "The number of the command in its text, from 0, NOTHING for another call than read." */
    private static void numberOfTheCommand() {
        for (int number = 0; number <= 22; number++) {
            String text = number == 0 ? "k4" : times(number, "p1") + ";k4";
            CaravanLogs x = new CaravanLogs();
            due("reading " + text, read(x, text), REFUSED);
            due("its reasons", reasons(x), "5 1 " + number);
            refused("a call then", x, x.sleep(4, 1), 5, 1);
            due("no command", x.refusal(2), NOTHING);
        }
    }

    /** The state in which a command is refused is that behind the commands ahead of it. */
    private static void commandsAfterChanges() {
        String[] texts = {"z2;d2", "d3;d3", "z3;w3a", "d2;d3;w2a", "z4;m4", "d4;d1;d0;m1", "d0;" + times(13, "w0a"),
            "r34-;r43-", "r34-;r34+;r34+", "z2;z2", "z2;k2;k2", "p3;d0", "p4;m1"};
        String[] reasons = {"1 2 1", "2 1 1", "1 3 1", "2 2 2", "1 4 1", "2 3 3", "3 12 13",
            "5 0 1", "5 1 2", "5 0 1", "5 1 2", "2 1 1", "2 1 1"};
        for (int i = 0; i < texts.length; i++) {
            CaravanLogs x = new CaravanLogs();
            due("reading " + texts[i], read(x, texts[i]), REFUSED);
            due("reasons of " + texts[i], reasons(x), reasons[i]);
            due("all stays", state(x), state(new CaravanLogs()));
        }
    }

    /** "BAD if there is no such what; NOTHING if nothing was refused": BAD ahead of NOTHING. */
    private static void numbersOfRefusal() {
        CaravanLogs x = new CaravanLogs();
        due("below, nothing refused", x.refusal(-1), BAD);
        due("above, nothing refused", x.refusal(3), BAD);
        due("the least, nothing refused", x.refusal(0), NOTHING);
        due("the greatest, nothing refused", x.refusal(2), NOTHING);
        x.march(0);
        due("below", x.refusal(-1), BAD);
        due("above", x.refusal(3), BAD);
        due("reason", x.refusal(0), 2);
        due("detail", x.refusal(1), 0);
    }
}
