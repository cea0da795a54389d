import java.util.Collections;
import java.util.function.Supplier;
import java.util.function.ToIntFunction;

/**
 * What all tests need: to compare an answer with the one that is due, and to tell all that an object would answer.
 * Nothing is promised of an object after its 512th call, so what looks at much makes its objects anew.
 */
class Checks {
    static final int NONE = -1;
    static final int BAD = -2;
    static final int REFUSED = -3;
    static final int NOTHING = -4;
    static final int[] FAR_OUT = {Integer.MIN_VALUE, Integer.MAX_VALUE};

    static final String NO_ROADS = "r01-;r02-;r03-;r04-;r12-;r13-;r14-;r23-;r24-;r34-";

    private static int wrong = 0;
    private static int looked = 0;

    static void due(String what, long got, long want) {
        looked++;
        if (got != want) {
            wrong++;
            if (wrong <= 50) {
                System.out.println(what + " answered " + got + ", due is " + want);
            }
        }
    }

    static void due(String what, String got, String want) {
        looked++;
        if (!got.equals(want)) {
            wrong++;
            if (wrong <= 50) {
                System.out.println(what + " told\n  " + got + "\ndue is\n  " + want);
            }
        }
    }

    static boolean isWrong() {
        return wrong != 0;
    }

    static int lookedSoFar() {
        return looked;
    }

    /** Ends a test's main method. */
    static void end() {
        System.out.println(looked + " answers, " + wrong + " not as due");
        if (wrong != 0 || looked == 0) {
            System.exit(1);
        }
    }

    static void refused(String what, CaravanLogs x, int answer, int reason, int detail) {
        due(what, answer, REFUSED);
        due(what + ", reason", x.refusal(0), reason);
        due(what + ", detail", x.refusal(1), detail);
    }

    /** A call that must leave all as it was: the object is compared with a like one that never had the call. */
    static void dueKept(String what, Supplier<CaravanLogs> make, ToIntFunction<CaravanLogs> call, int want) {
        due(what, call.applyAsInt(make.get()), want);
        Supplier<CaravanLogs> called = () -> {
            CaravanLogs x = make.get();
            call.applyAsInt(x);
            return x;
        };
        dueAlike(what, called, make);
        if (want != REFUSED) {
            due(what + ", reasons", reasons(called.get()), reasons(make.get()));
        }
        due(what + ", text", textBehind(called.get()), textBehind(make.get()));
    }

    /** All but the text and the reasons: the state, the line, and what undo and restore would bring back. */
    static void dueAlike(String what, Supplier<CaravanLogs> one, Supplier<CaravanLogs> other) {
        due(what + ", state", state(one.get()), state(other.get()));
        due(what + ", line", line(one.get()), line(other.get()));
        for (int undos = 1; undos <= 9; undos++) {
            due(what + ", undone " + undos, undone(one.get(), undos), undone(other.get(), undos));
        }
        due(what + ", restored", restored(one.get()), restored(other.get()));
    }

    static String undone(CaravanLogs x, int undos) {
        StringBuilder answers = new StringBuilder();
        for (int i = 0; i < undos; i++) {
            answers.append(x.undo()).append(' ');
        }
        return answers + state(x);
    }

    static String restored(CaravanLogs x) {
        return x.restore() + " " + state(x);
    }

    static String reasons(CaravanLogs x) {
        return x.refusal(0) + " " + x.refusal(1) + " " + x.refusal(2);
    }

    /** The text can only be looked at by reading it. */
    static String textBehind(CaravanLogs x) {
        return x.account(11) + " " + x.read() + " " + state(x);
    }

    static CaravanLogs type(CaravanLogs x, String text) {
        for (int i = 0; i < text.length(); i++) {
            x.append(text.charAt(i));
        }
        return x;
    }

    static int read(CaravanLogs x, String text) {
        return type(x, text).read();
    }

    /** A new object on which texts of commands were read; each of them can be undone as one change. */
    static CaravanLogs after(String... texts) {
        CaravanLogs x = new CaravanLogs();
        for (String text : texts) {
            int commands = 1;
            for (char c : text.toCharArray()) {
                commands += c == ';' ? 1 : 0;
            }
            due("reading " + text, read(x, text), commands);
        }
        return x;
    }

    /** A command some times, with ";" between them. */
    static String times(int count, String command) {
        return String.join(";", Collections.nCopies(count, command));
    }

    static String line(CaravanLogs x) {
        StringBuilder line = new StringBuilder();
        for (int sign = x.sign(0); sign != NONE; sign = x.sign(line.length())) {
            line.append((char) sign);
        }
        return line.toString();
    }

    static String camp(CaravanLogs x, int camp) {
        return lineOfLength("camp " + camp, x, x.describe(camp));
    }

    static String log(CaravanLogs x, int camp) {
        return lineOfLength("log " + camp, x, x.show(camp));
    }

    private static String lineOfLength(String what, CaravanLogs x, int length) {
        String line = line(x);
        due("length of the line about " + what, length, line.length());
        return line;
    }

    static String camps(CaravanLogs x) {
        return camp(x, 0) + " " + camp(x, 1) + " " + camp(x, 2) + " " + camp(x, 3) + " " + camp(x, 4);
    }

    static String logs(CaravanLogs x) {
        return log(x, 0) + " " + log(x, 1) + " " + log(x, 2) + " " + log(x, 3) + " " + log(x, 4);
    }

    /** What changes can change, and how many can be undone, by calls that only look: at most some 220 of them. */
    static String state(CaravanLogs x) {
        StringBuilder all = new StringBuilder();
        for (int camp = 0; camp < 5; camp++) {
            all.append("[");
            for (int what = 0; what <= 8; what++) {
                all.append(x.campOf(camp, what)).append(' ');
            }
            int pages = x.campOf(camp, 4);
            for (int place = 0; place < pages; place++) {
                all.append((char) ('a' + x.pageOf(camp, place, 1))).append(x.pageOf(camp, place, 0)).append(' ');
            }
            for (int other = 0; other < 5; other++) {
                all.append(x.reaches(camp, other));
            }
            all.append("]");
        }
        for (int what = 0; what <= 10; what++) {
            all.append(' ').append(x.account(what));
        }
        return all.append(" undo ").append(x.account(12)).toString();
    }

    static String stateButUndo(CaravanLogs x) {
        String state = state(x);
        return state.substring(0, state.indexOf(" undo "));
    }
}
