/** Promises 19 to 27: lines, the text of commands, refusals, accounts, isWell, share. */
final class LinesAndTextsTest extends Checks {
    public static void main(String[] args) {
        linesAboutCamps();
        linesAboutLogs();
        signs();
        appending();
        commandsAsCalls();
        faults();
        allOrNone();
        otherErrors();
        longTexts();
        refusals();
        accounts();
        accountErrors();
        wells();
        shares();
        end();
    }

    private static void linesAboutCamps() {
        CaravanLogs x = after("d2;d3;d2");
        due("a captain", x.describe(2), 8);
        due("its line", line(x), "2C:3v2s0");
        due("a scout", x.describe(0), 7);
        due("its line", line(x), "0:3v2s0");
        read(x, "z4;p2");
        due("asleep", camp(x, 4), "4z:3v2s0");
        x = after("r01-;r02-;r03-;r04-", "p30", "p4");
        due("two digits", camp(x, 0), "0:11v0s1");
        due("no vote", camp(after("z1;p2"), 1), "1z:0v-s0");
        due("a silence", camp(after("p2"), 1), "1:0v-s2");
        x.describe(3);
        due("no camp", x.describe(5), NONE);
        due("no camp", x.describe(-1), NONE);
        due("the line before stays", line(x).charAt(0), '3');
    }

    private static void linesAboutLogs() {
        CaravanLogs x = after("d0;w0a;w0b;m0;w0c;w0d");
        due("in the middle", x.show(0), 9);
        due("its line", line(x), "a1b1|c1d1");
        due("behind all", log(x, 1), "a1b1|");
        due("ahead of all", log(after("d0;w0d"), 0), "|d1");
        due("no page", log(x = after("d0"), 0), "|");
        x.show(4);
        due("no camp", x.show(5), NONE);
        due("no camp", x.show(-1), NONE);
        due("the line before stays", line(x), "|");
        x = after("r01-;r02-;r03-;r04-", "p30", "r01+;r02+;r03+;r04+;d0;w0d", "m0;w0c");
        due("two digits", x.show(0), 7);
        due("its line", line(x), "d11|c11");
    }

    private static void signs() {
        CaravanLogs x = new CaravanLogs();
        due("empty at first", x.sign(0), NONE);
        x.dusk(1);
        x.describe(1);
        String line = "1C:1v1s0";
        for (int i = 0; i < line.length(); i++) {
            due("sign " + i, x.sign(i), line.charAt(i));
        }
        due("behind", x.sign(line.length()), NONE);
        due("ahead", x.sign(-1), NONE);
        due("far behind", x.sign(Integer.MAX_VALUE), NONE);
        due("far ahead", x.sign(Integer.MIN_VALUE), NONE);
        x.show(1);
        due("a shorter line", x.sign(0), '|');
        due("nothing of the line before", x.sign(1), NONE);
        x.write(1, 1);
        due("written when it was asked for", line(x), "|");
        x.show(1);
        x.undo();
        x.save();
        x.restore();
        due("neither in undo nor in the snapshot", line(x), "|b1");
    }

    private static void appending() {
        CaravanLogs x = new CaravanLogs();
        due("below", x.append(31), BAD);
        due("above", x.append(127), BAD);
        due("far below", x.append(-1), BAD);
        due("as a char it would do", x.append(65536 + 'd'), BAD);
        due("the least", x.append(32), 1);
        due("the greatest", x.append(126), 2);
        for (int i = 3; i <= 70; i++) {
            due("append " + i, x.append('p'), i);
        }
        due("the text", x.account(11), 70);
        due("too long", x.append('p'), BAD);
        due("read empties it", x.read(), -100);
        due("the text", x.account(11), 0);
        due("append again", x.append('d'), 1);
        x.dusk(0);
        x.save();
        x.append('1');
        x.undo();
        x.restore();
        due("neither in undo nor in the snapshot", x.account(11), 2);
        due("the text stayed", x.read(), 1);
        due("it was", camp(x, 1), "1C:2v1s0");
    }

    private static void commandsAsCalls() {
        String[] texts = {"d3", "w3a;w3b;w3c;w3d", "r31-;r03-;r30+", "m3", "z3;z0", "p9", "k3", "p30;p12;p05"};
        int[] commands = {1, 4, 3, 1, 2, 1, 1, 3};
        for (int i = 0; i < texts.length; i++) {
            CaravanLogs x = new CaravanLogs();
            CaravanLogs y = new CaravanLogs();
            for (int j = 0; j <= i; j++) {
                due("reading " + texts[j], read(x, texts[j]), commands[j]);
                sameAsCalls(y, j);
            }
            due("each text is one change", x.account(12), i + 1);
            due("state behind " + texts[i], stateButUndo(x), stateButUndo(y));
        }
    }

    /** The calls for the commands of one of the texts. */
    private static void sameAsCalls(CaravanLogs y, int text) {
        switch (text) {
            case 0: y.dusk(3); break;
            case 1: y.write(3, 0); y.write(3, 1); y.write(3, 2); y.write(3, 3); break;
            case 2: y.road(3, 1, 0); y.road(0, 3, 0); y.road(3, 0, 1); break;
            case 3: y.march(3); break;
            case 4: y.sleep(3, 0); y.sleep(0, 0); break;
            case 5: y.pass(9); break;
            case 6: y.sleep(3, 1); break;
            default: y.pass(30); y.pass(12); y.pass(5); break;
        }
    }

    private static void faults() {
        String[] texts = {"", "x", ";", "D0", " d0", "d", "dx", "d/", "d:", "d0;", "d0x", "d00", "d0;;", "d0; d1", "d-1",
            "w", "wa", "w0", "w0e", "w0A", "w0`", "w0aa", "w0a0", "m", "mm", "m0+", "r", "r-", "r0", "r0-", "r01", "r012",
            "r01*", "r01,", "r01.", "r01--", "r01+-", "z", "zz", "z0-", "k", "k+", "k00", "p", "pp", "p-1", "p1a", "p1;",
            "p12;", "p123", "p1 ", "p;", "d0;w0a;q", "d0;w0a;w0", "d0,d1", "p1;p2;p345", "r01-;r02"};
        int[] at = {0, 0, 0, 0, 0, 1, 1, 1, 1, 3, 2, 2, 3, 3, 1,
            1, 1, 2, 2, 2, 2, 3, 3, 1, 1, 2, 1, 1, 2, 2, 3, 3,
            3, 3, 3, 4, 4, 1, 1, 2, 1, 1, 2, 1, 1, 1, 2, 3,
            4, 3, 2, 1, 7, 9, 2, 9, 8};
        due("texts", texts.length, at.length);
        for (int i = 0; i < texts.length; i++) {
            CaravanLogs x = after("d4");
            x.write(0, 0);
            String before = state(x);
            due("fault of " + texts[i], read(x, texts[i]), -100 - at[i]);
            due("all stays after " + texts[i], state(x), before);
            due("the reason stays after " + texts[i], x.refusal(0), 2);
            due("its command stays after " + texts[i], x.refusal(2), NOTHING);
        }
    }

    private static void allOrNone() {
        CaravanLogs x = after("d0");
        x.describe(0);
        String before = state(x);
        due("the last one is refused", read(x, "w0a;m0;z4;r01-;p5;d2;w2b;d2"), REFUSED);
        due("all stays", state(x), before);
        due("reason", x.refusal(0), 2);
        due("detail, as it was then: camp 1 asked in the hours, then camp 2", x.refusal(1), 3);
        due("command", x.refusal(2), 7);
        due("the first one is refused", read(x, "k3;w0a"), REFUSED);
        due("all stays", state(x), before);
        due("reason", x.refusal(0), 5);
        due("detail", x.refusal(1), 1);
        due("command", x.refusal(2), 0);
        due("what would be refused alone", read(x, "z3;k3"), 2);
        String[] refusedTexts = {"z1;d1", "d0", "z1;w1a", "w1a", "z1;m1", "m1", "r33-", "r01+", "r01-;r10-", "z1;z1", "k1"};
        int[] reasons = {1, 2, 1, 2, 1, 2, 4, 5, 5, 5, 5};
        int[] details = {1, 1, 1, 1, 1, 1, 3, 1, 0, 0, 1};
        for (int i = 0; i < refusedTexts.length; i++) {
            x = after("d0");
            due("reading " + refusedTexts[i], read(x, refusedTexts[i]), REFUSED);
            due("reason of " + refusedTexts[i], x.refusal(0), reasons[i]);
            due("detail of " + refusedTexts[i], x.refusal(1), details[i]);
            due("command of " + refusedTexts[i], x.refusal(2), refusedTexts[i].indexOf(';') > 0 ? 1 : 0);
        }
        refused("a call then", x, x.march(3), 2, 1);
        due("no command", x.refusal(2), NOTHING);
        x = after("d0", "w0a;w0a;w0a;w0a;w0a;w0a;w0a;w0a;w0a;w0a;w0a");
        due("the thirteenth page", read(x, "w0b;w0b"), REFUSED);
        due("reason", x.refusal(0), 3);
        due("detail", x.refusal(1), 12);
        due("the twelfth page is gone", x.campOf(0, 4), 11);
    }

    private static void otherErrors() {
        String[] texts = {"d5", "d9", "w5a", "m5", "r50-", "r05-", "r55+", "z5", "k5", "p0", "p00", "p31", "p99",
            "w0a;p0", "p0;d0", "d5;k0", "w0a;z4;r09-"};
        for (String text : texts) {
            CaravanLogs x = after("d0");
            x.road(1, 1, 0);
            String before = state(x);
            due("reading " + text, read(x, text), BAD);
            due("all stays after " + text, state(x), before);
            due("the reason stays after " + text, x.refusal(0), 4);
            due("its command stays after " + text, x.refusal(2), NOTHING);
        }
        due("what fails first counts", read(after("d0"), "k0;d5"), REFUSED);
        due("a fault counts ahead of all", read(after("d0"), "k0;d5;x"), -106);
    }

    private static void longTexts() {
        CaravanLogs x = new CaravanLogs();
        String text = "p30;p30;p30;p30;p30;p30;p30;p30;p30;p30;p30;p30;p30;p30;p30;p30;p30;p1";
        due("length", text.length(), 70);
        due("eighteen commands", read(x, text), 18);
        due("hours", x.account(10), 511);
        text = "p1;p1;p1;p1;p1;p1;p1;p1;p1;p1;p1;p1;p1;p1;p1;p1;p1;p1;p1;p1;p1;p1;p1";
        due("twenty-three commands", read(x, text), 23);
        due("hours", x.account(10), 534);
        due("the last character is too much", read(x, text + ";p"), -170);
    }

    private static void refusals() {
        CaravanLogs x = new CaravanLogs();
        for (int what = 0; what < 3; what++) {
            due("nothing was refused", x.refusal(what), NOTHING);
        }
        refused("a call ahead of all texts", x, x.write(2, 0), 2, 0);
        due("no command", x.refusal(2), NOTHING);
        due("no what", x.refusal(-1), BAD);
        due("no what", x.refusal(3), BAD);
        read(x, "z0;d0");
        due("reason", x.refusal(0), 1);
        due("detail", x.refusal(1), 0);
        due("command", x.refusal(2), 1);
        x.dusk(1);
        x.dusk(9);
        x.would(1);
        x.undo();
        x.save();
        x.restore();
        due("what was refused last stays", x.refusal(0), 1);
        due("its command stays", x.refusal(2), 1);
        due("no what", x.refusal(-1), BAD);
        due("no what", x.refusal(3), BAD);
        x.sleep(4, 1);
        due("reason", x.refusal(0), 5);
        due("detail", x.refusal(1), 1);
        due("no command", x.refusal(2), NOTHING);
    }

    private static void accounts() {
        CaravanLogs x = after("d0;w0a;m0;r02-;r03-;r04-;w0b;w0b;w0b;m0", "r14-;r12-;r13-;d4;w4c;m4", "r14+;m4;z2;p3");
        x.append('d');
        x.append('d');
        // In the first hour camp 0 meets a greater term at camp 1, in the third one it asks for votes.
        int[] want = {3, 1, 4, 5, 3, 2, 5, 3, 8, 2, 3, 2, 3};
        for (int what = 0; what < want.length; what++) {
            due("account " + what, x.account(what), want[what]);
        }
        x.undo();
        due("marches are undone", x.account(8), 3);
        due("pages torn are undone", x.account(7), 0);
        due("hours are undone", x.account(10), 0);
        due("the text is not", x.account(11), 2);
        x.undo();
        due("dusks are undone", x.account(4), 1);
        due("captains made are undone", x.account(5), 1);
        due("pages written are undone", x.account(6), 4);
        due("the greatest term", after("r04-;r14-;r24-;r34-;d4;d4;z4;d0").account(0), 2);
        due("settled pages of any camp", after("z0;d1;w1a;w1b;m1").account(9), 2);
    }

    private static void accountErrors() {
        CaravanLogs x = new CaravanLogs();
        due("no what", x.account(-1), BAD);
        due("no what", x.account(13), BAD);
    }

    private static void wells() {
        due("new", new CaravanLogs().isWell(), 1);
        due("two logs apart", after("d0;w0a;m0;r02-;r03-;r04-;w0b;w0b;w0b;m0", "r14-;r12-;r13-;d4;w4c;m4").isWell(), 1);
        due("two captains", after("d0;r03-;d3;w3a;w0b;m3").isWell(), 1);
        due("holders asleep", after("d0;w0a;m0;z0;z1;z2;z3").isWell(), 1);
    }

    private static void shares() {
        due("no page", after("d0").share(), NOTHING);
        due("none of one", after("d0;w0a").share(), Float.floatToIntBits(0.0f));
        due("all", after("d0;w0a;m0").share(), Float.floatToIntBits(1.0f));
        for (int settled = 0; settled <= 6; settled++) {
            for (int more = 0; more <= 6; more++) {
                CaravanLogs x = after("d0");
                int all = 0;
                for (int i = 0; i < settled; i++) {
                    x.write(0, 0);
                }
                x.march(0);
                for (int i = 0; i < more; i++) {
                    x.write(0, 1);
                }
                all = 5 * settled + more;
                due("share of " + settled + " and " + more, x.share(),
                    all == 0 ? NOTHING : Float.floatToIntBits((float) (5 * settled) / (float) all));
            }
        }
    }
}
