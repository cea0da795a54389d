/** "Text", promises 22 and 23: which characters can stand where, the fault position, and what a text can hold. */
final class TextBoundsTest extends Checks {
    private static final String DIGITS = "0123456789";
    private static final String COMMANDS = "dwmrzkp";

    /** Each beginning of a command, and the characters with which it can go on. */
    private static final String[][] BEGINNINGS = {
        {"", COMMANDS},
        {"d", DIGITS}, {"d3", ";"},
        {"w", DIGITS}, {"w3", "abcd"}, {"w3c", ";"},
        {"m", DIGITS}, {"m3", ";"},
        {"r", DIGITS}, {"r3", DIGITS}, {"r32", "+-"}, {"r32-", ";"}, {"r32+", ";"},
        {"z", DIGITS}, {"z3", ";"},
        {"k", DIGITS}, {"k3", ";"},
        {"p", DIGITS}, {"p2", DIGITS + ";"}, {"p23", ";"},
    };

    public static void main(String[] args) {
        nextCharacters();
        nextCharactersBehindACommand();
        textsThatEndTooEarly();
        oneOrMoreCommands();
        asManyCommandsAsFit();
        faultsAtTheEndOfALongText();
        numbersOfOneOrTwoDigits();
        campsOfOneDigit();
        signsOfRoads();
        aRefusedTextIsNotCarriedOut();
        end();
    }

    /** "The index of its first character with which no such text can continue." */
    private static void nextCharacters() {
        for (String[] beginning : BEGINNINGS) {
            dueNext("", beginning[0], beginning[1]);
        }
    }

    private static void nextCharactersBehindACommand() {
        for (String[] beginning : BEGINNINGS) {
            dueNext("p9;r01-;", beginning[0], beginning[1]);
        }
    }

    private static void dueNext(String ahead, String beginning, String next) {
        String text = ahead + beginning;
        for (int code = 32; code <= 126; code++) {
            int fault = -100 - text.length();
            int answer = read(new CaravanLogs(), text + (char) code);
            due("fault at the end of " + text + (char) code, answer == fault ? 1 : 0, next.indexOf(code) < 0 ? 1 : 0);
        }
        // What stands behind the fault does not matter.
        due("fault in " + text + "!;;", read(new CaravanLogs(), text + "!;;"), -100 - text.length());
    }

    /** "Or its length if it ends too early." */
    private static void textsThatEndTooEarly() {
        for (String ahead : new String[] {"", "p9;", "z4;r01-;"}) {
            for (String[] beginning : BEGINNINGS) {
                String text = ahead + beginning[0];
                boolean isWhole = beginning[1].endsWith(";");
                int answer = read(new CaravanLogs(), text);
                due("too early: " + text, answer == -100 - text.length() ? 1 : 0, isWhole ? 0 : 1);
                due("no fault: " + text, answer > -100 ? 1 : 0, isWhole ? 1 : 0);
            }
        }
        due("behind the last command", read(new CaravanLogs(), "p1;"), -103);
    }

    /** "A sequence of one or more commands with ";" between them": none, one, two. */
    private static void oneOrMoreCommands() {
        due("none", new CaravanLogs().read(), -100);
        due("one", read(new CaravanLogs(), "p1"), 1);
        due("two", read(new CaravanLogs(), "p1;p1"), 2);
        due("a sign behind", read(new CaravanLogs(), "p1;p1;"), -106);
        due("a sign ahead", read(new CaravanLogs(), ";p1;p1"), -100);
        due("two signs between", read(new CaravanLogs(), "p1;;p1"), -103);
        due("no sign between", read(new CaravanLogs(), "z1z2"), -102);
        due("a blank between", read(new CaravanLogs(), "p1; p1"), -103);
    }

    /** 70 characters hold 23 of the shortest commands. */
    private static void asManyCommandsAsFit() {
        for (int commands = 1; commands <= 23; commands++) {
            CaravanLogs x = new CaravanLogs();
            due(commands + " commands", read(x, times(commands, "p1")), commands);
            due("carried out", x.account(10), commands);
            due("one change", x.account(12), 1);
        }
        CaravanLogs x = new CaravanLogs();
        due("70 characters", read(x, times(21, "p1") + ";p11;p11"), 23);
        due("carried out", x.account(10), 43);
        x = new CaravanLogs();
        due("long commands", read(x, times(7, "r01-;r01+")), 14);
        due("all roads", x.account(3), 10);
    }

    private static void faultsAtTheEndOfALongText() {
        String text = times(22, "p1") + ";p11";
        due("69 characters", text.length(), 69);
        due("its 70th is wrong", read(new CaravanLogs(), text + "x"), -169);
        due("its 70th is a sign", read(new CaravanLogs(), text + ";"), -170);
        due("its 69th is wrong", read(new CaravanLogs(), times(23, "p1") + "x"), -168);
        CaravanLogs x = type(new CaravanLogs(), times(21, "p1") + ";p11;p11");
        due("70 characters", x.account(11), 70);
        due("the 71st is not in it", x.append('x'), BAD);
        due("read without it", x.read(), 23);
    }

    /** "Numbers one or two": digits. */
    private static void numbersOfOneOrTwoDigits() {
        for (int hours = 0; hours <= 99; hours++) {
            CaravanLogs x = new CaravanLogs();
            boolean isIn = hours >= 1 && hours <= 30;
            due("p" + hours, read(x, "p" + hours), isIn ? 1 : BAD);
            due("hours of p" + hours, x.account(10), isIn ? hours : 0);
        }
        for (int hours = 0; hours <= 9; hours++) {
            CaravanLogs x = new CaravanLogs();
            due("p0" + hours, read(x, "p0" + hours), hours > 0 ? 1 : BAD);
            due("hours of p0" + hours, x.account(10), hours);
        }
        due("three digits", read(new CaravanLogs(), "p010"), -103);
        due("no digit", read(new CaravanLogs(), "p;p1"), -101);
    }

    /** "Camps are one digit": 5 to 9 are no fault, but no camps. */
    private static void campsOfOneDigit() {
        String[] commands = {"d", "w", "m", "r2", "r", "z", "k"};
        String[] behind = {"", "a", "", "-", "2-", "", ""};
        for (int camp = 0; camp <= 9; camp++) {
            for (int i = 0; i < commands.length; i++) {
                String command = commands[i] + camp + behind[i];
                int answer = read(after("p3"), command);
                due("BAD for " + command, answer == BAD ? 1 : 0, camp > 4 ? 1 : 0);
                due("no fault in " + command, answer > -100 ? 1 : 0, 1);
            }
        }
        due("two digits", read(new CaravanLogs(), "d10"), -102);
    }

    /** "Closes or opens a road, with the sign "-" or "+"." */
    private static void signsOfRoads() {
        CaravanLogs x = new CaravanLogs();
        due("closes", read(x, "r14-"), 1);
        due("closed", x.reaches(4, 1), 0);
        due("closed once", x.account(3), 9);
        due("opens", read(x, "r41+"), 1);
        due("open", x.reaches(1, 4), 1);
        due("all open", x.account(3), 10);
    }

    /** "Carries them out, all or none": what the first commands did is gone, of whatever kind they are. */
    private static void aRefusedTextIsNotCarriedOut() {
        String[] kinds = {"d3", "w0a", "m0", "r12-", "z1", "k4", "p9", "p30;d3;z0;w3d;m3;r13-;k4"};
        for (String kind : kinds) {
            CaravanLogs x = after("z4", "d0;w0b");
            CaravanLogs y = after("z4", "d0;w0b");
            due("all is carried out: " + kind, read(after("z4", "d0;w0b"), kind) > 0 ? 1 : 0, 1);
            due("refused behind " + kind, read(x, kind + ";r22-"), REFUSED);
            due("nothing of " + kind, state(x), state(y));
            x = after("z4", "d0;w0b");
            due("bad behind " + kind, read(x, kind + ";p0"), BAD);
            due("nothing of " + kind, state(x), state(y));
        }
    }
}
