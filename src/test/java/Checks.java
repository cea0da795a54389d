import java.util.function.IntSupplier;

/** What all tests need: to compare an answer with the one that is due, and to tell all that an object would answer. */
class Checks {
    static final int NONE = -1;
    static final int BAD = -2;
    static final int REFUSED = -3;
    static final int NOTHING = -4;

    private static int wrong = 0;
    private static int looked = 0;

    static void due(String what, long got, long want) {
        looked++;
        if (got != want) {
            wrong++;
            if (wrong <= 50) {
                System.out.println(what + " answered " + got + ", due is " + want);
            }
        }
    }

    static void due(String what, String got, String want) {
        looked++;
        if (!got.equals(want)) {
            wrong++;
            if (wrong <= 50) {
                System.out.println(what + " told\n  " + got + "\ndue is\n  " + want);
            }
        }
    }

    static boolean isWrong() {
        return wrong != 0;
    }

    /** Ends a test's main method. */
    static void end() {
        System.out.println(looked + " answers, " + wrong + " not as due");
        if (wrong != 0 || looked == 0) {
            System.exit(1);
        }
    }

    static void refused(String what, CaravanLogs x, int answer, int reason, int detail) {
        due(what, answer, REFUSED);
        due(what + ", reason", x.refusal(0), reason);
        due(what + ", detail", x.refusal(1), detail);
    }

    /** A call that fails, and with it all that must stay as it was. */
    static void dueKept(String what, CaravanLogs x, IntSupplier call, int want) {
        String before = everything(x);
        due(what, call.getAsInt(), want);
        due(what + ", all else", everything(x), before);
    }

    static CaravanLogs type(CaravanLogs x, String text) {
        for (int i = 0; i < text.length(); i++) {
            x.append(text.charAt(i));
        }
        return x;
    }

    static int read(CaravanLogs x, String text) {
        return type(x, text).read();
    }

    /** A new object on which a text of commands was read; what it holds can be undone as one change. */
    static CaravanLogs after(String... texts) {
        CaravanLogs x = new CaravanLogs();
        for (String text : texts) {
            int commands = 1;
            for (char c : text.toCharArray()) {
                commands += c == ';' ? 1 : 0;
            }
            due("reading " + text, read(x, text), commands);
        }
        return x;
    }

    static String line(CaravanLogs x) {
        StringBuilder line = new StringBuilder();
        for (int i = 0; x.sign(i) != NONE; i++) {
            line.append((char) x.sign(i));
        }
        return line.toString();
    }

    static String camp(CaravanLogs x, int camp) {
        int length = x.describe(camp);
        due("length of the line about camp " + camp, length, line(x).length());
        return line(x);
    }

    static String log(CaravanLogs x, int camp) {
        int length = x.show(camp);
        due("length of the line about log " + camp, length, line(x).length());
        return line(x);
    }

    static String camps(CaravanLogs x) {
        return camp(x, 0) + " " + camp(x, 1) + " " + camp(x, 2) + " " + camp(x, 3) + " " + camp(x, 4);
    }

    static String logs(CaravanLogs x) {
        return log(x, 0) + " " + log(x, 1) + " " + log(x, 2) + " " + log(x, 3) + " " + log(x, 4);
    }

    /** What changes can change, by the calls that only look; neither the line nor the text is touched. */
    static String state(CaravanLogs x) {
        StringBuilder all = new StringBuilder();
        for (int camp = 0; camp < 5; camp++) {
            all.append("[");
            for (int what = 0; what <= 8; what++) {
                all.append(x.campOf(camp, what)).append(' ');
            }
            for (int place = 0; x.pageOf(camp, place, 0) != NONE; place++) {
                all.append((char) ('a' + x.pageOf(camp, place, 1))).append(x.pageOf(camp, place, 0)).append(' ');
            }
            for (int other = 0; other < 5; other++) {
                all.append(x.reaches(camp, other));
            }
            all.append("]");
        }
        for (int what = 0; what <= 10; what++) {
            all.append(' ').append(x.account(what));
        }
        return all.toString();
    }

    /** What calls that fail must leave as it was: the state, the line, the text and what can be undone. */
    static String everything(CaravanLogs x) {
        return state(x) + " line " + line(x) + " text " + x.account(11) + " undo " + x.account(12);
    }
}
