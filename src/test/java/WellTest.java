import java.lang.reflect.Field;

/**
 * Promise 26: each of the four things that isWell looks at. No run of calls leads to a state in which one of them does
 * not hold, so these states are written into the object, past its face.
 */
final class WellTest extends Checks {
    private static final int LOG_LENGTH = 12;

    public static void main(String[] args) throws ReflectiveOperationException {
        wellByCalls();
        settledPagesOfTwoCamps();
        settledPagesAreHadByMost();
        oneCaptainInEachTerm();
        bothWaysToMatch();
        end();
    }

    private static int[] row(CaravanLogs x, String name) throws ReflectiveOperationException {
        Field now = CaravanLogs.class.getDeclaredField("now");
        now.setAccessible(true);
        Object caravan = now.get(x);
        Field row = caravan.getClass().getDeclaredField(name);
        row.setAccessible(true);
        return (int[]) row.get(caravan);
    }

    /** Writes a log, as the line about it is told: "a1b1|c3", with terms of one digit. */
    private static void setLog(CaravanLogs x, int camp, String line) throws ReflectiveOperationException {
        int settled = line.indexOf('|') / 2;
        String pages = line.replace("|", "");
        for (int i = 0; i < pages.length() / 2; i++) {
            row(x, "pageLetter")[camp * LOG_LENGTH + i] = pages.charAt(2 * i) - 'a';
            row(x, "pageTerm")[camp * LOG_LENGTH + i] = pages.charAt(2 * i + 1) - '0';
        }
        row(x, "pages")[camp] = pages.length() / 2;
        row(x, "settled")[camp] = settled;
    }

    private static void dueOfLogs(String what, int want, String... lines) throws ReflectiveOperationException {
        CaravanLogs x = new CaravanLogs();
        for (int camp = 0; camp < 5; camp++) {
            setLog(x, camp, lines[camp]);
            due("the log of " + camp, log(x, camp), lines[camp]);
        }
        due(what, x.isWell(), want);
    }

    private static void wellByCalls() {
        due("new", new CaravanLogs().isWell(), 1);
        due("settled", after("d0;w0a;m0").isWell(), 1);
        due("two captains of unlike terms", after("d0;r04-;d4").isWell(), 1);
        due("logs apart", after("d0;w0a;m0;r02-;r03-;r04-;w0b;m0", "r14-;d4;w4c;m4").isWell(), 1);
        due("settled, and torn elsewhere", after("d0;w0a;r01-;r02-;r03-;r04-;d4;w4b;m4;r04+;m4").isWell(), 1);
        due("all asleep", after("d0;w0a;m0;z0;z1;z2;z3;z4").isWell(), 1);
    }

    /** "Of any two camps the settled pages of the one that has fewer are the first pages of the other one." */
    private static void settledPagesOfTwoCamps() throws ReflectiveOperationException {
        dueOfLogs("fewer, alike", 1, "a1|", "a1b1|", "a1b1|", "a1b1|", "|");
        dueOfLogs("as many, alike", 1, "a1b1|", "a1b1|", "a1b1|", "|", "|");
        dueOfLogs("unsettled pages may be unlike", 1, "a1|b2", "a1|c3", "a1|", "a1|", "|");
        // Of two unlike rows of first pages only one can be had by three, so these fail by the next sentence, too.
        dueOfLogs("the first and the last camp apart", 0, "a1|", "a1|", "a1|", "|", "b2|");
        dueOfLogs("unlike at the second page", 0, "a1b1|", "a1b1|", "a1b1|", "a1b2|", "|");
        dueOfLogs("unlike at the second page, the one with fewer first", 0, "a1b2|", "a1b1c1|", "a1b1c1|", "a1b1c1|", "|");
    }

    /** "All settled pages are had by most camps": two, and three, settled or not. */
    private static void settledPagesAreHadByMost() throws ReflectiveOperationException {
        dueOfLogs("had by one", 0, "a1|", "|", "|", "|", "|");
        dueOfLogs("had by two", 0, "|", "|", "|", "a1|", "a1|");
        dueOfLogs("had by three", 1, "|", "|", "a1|", "a1|", "a1|");
        dueOfLogs("had by three, settled by one", 1, "|a1", "|a1", "|", "|", "a1|");
        dueOfLogs("the second one had by two", 0, "a1b1|", "a1b1|", "a1|", "a1|", "a1|");
        dueOfLogs("the second one had by three", 1, "a1b1|", "a1|b1", "a1|b1", "a1|", "|");
        dueOfLogs("the last of twelve had by two", 0, "a1".repeat(12) + "|", "a1".repeat(12) + "|",
            "a1".repeat(11) + "|", "a1".repeat(11) + "|", "a1".repeat(11) + "|");
    }

    /** "Each term has at most one captain." */
    private static void oneCaptainInEachTerm() throws ReflectiveOperationException {
        for (int one = 0; one < 5; one++) {
            for (int other = 0; other < one; other++) {
                CaravanLogs x = new CaravanLogs();
                row(x, "isCaptain")[one] = 1;
                row(x, "term")[one] = 3;
                row(x, "term")[other] = 3;
                due("a scout in the term of a captain", x.isWell(), 1);
                row(x, "isCaptain")[other] = 1;
                due("captains " + other + " and " + one + " in one term", x.isWell(), 0);
                row(x, "term")[other] = 2;
                due("captains " + other + " and " + one + " in two terms", x.isWell(), 1);
            }
        }
    }

    /** "All logs match the same by both ways": by halves only the terms are looked at. */
    private static void bothWaysToMatch() throws ReflectiveOperationException {
        dueOfLogs("unlike letters in one term", 0, "|a1", "|b1", "|", "|", "|");
        dueOfLogs("unlike letters in one term, at the ends", 0, "|a1b2", "|", "|", "|", "|a1c2");
        dueOfLogs("like terms behind unlike ones", 0, "|a1b2b3", "|", "|a2b2b3", "|", "|");
        dueOfLogs("unlike from a page on", 1, "|a1b1c2", "|a1b3c3d3", "|a1", "|", "|");
    }
}
