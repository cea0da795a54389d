import java.util.function.Supplier;

/**
 * Each range that the document names: all numbers that belong to it are taken, the next ones outside and those far out
 * are answered by the error code of the promise.
 */
final class RangesTest extends Checks {
    private static final String TWELVE = times(12, "w0a");

    /** A call with one number that is looked at. */
    private interface Ask {
        int of(CaravanLogs x, int number);
    }

    public static void main(String[] args) {
        campsThatThingsHappenTo();
        campsThatAreLookedAt();
        lettersAreFour();
        placesOfPages();
        placesOfRanks();
        indicesOfTheLine();
        whats();
        switches();
        hoursFromOneToThirty();
        codesFrom32To126();
        lengthsOfTheText();
        constants();
        callsOfAnObject();
        end();
    }

    private static void dueRange(String what, Supplier<CaravanLogs> make, Ask ask, int least, int greatest, int error) {
        for (int number = least; number <= greatest; number++) {
            due(what + " of " + number + " is error " + error, ask.of(make.get(), number) == error ? 1 : 0, 0);
        }
        dueOutside(what, make, ask, least - 1, error);
        dueOutside(what, make, ask, greatest + 1, error);
        for (int number : FAR_OUT) {
            dueOutside(what, make, ask, number, error);
        }
    }

    private static void dueOutside(String what, Supplier<CaravanLogs> make, Ask ask, int number, int error) {
        CaravanLogs x = make.get();
        due(what + " of " + number, ask.of(x, number), error);
        due(what + " of " + number + ", state", state(x), state(make.get()));
    }

    private static void dueCamps(String what, Ask ask) {
        dueRange(what, () -> after("d0;w0b;m0"), ask, 0, 4, NONE);
    }

    /** "There are the camps 0 to 4." */
    private static void campsThatThingsHappenTo() {
        dueCamps("dusk", (x, camp) -> x.dusk(camp));
        dueCamps("write", (x, camp) -> x.write(camp, 0));
        dueCamps("march", (x, camp) -> x.march(camp));
        dueCamps("road, the one", (x, camp) -> x.road(camp, 2, 0));
        dueCamps("road, the other", (x, camp) -> x.road(2, camp, 0));
        dueCamps("sleep", (x, camp) -> x.sleep(camp, 0));
        for (int camp = 0; camp < 5; camp++) {
            CaravanLogs x = new CaravanLogs();
            due("dusk at " + camp, x.dusk(camp), 5);
            due("write at " + camp, x.write(camp, 1), 1);
            due("march of " + camp, x.march(camp), 1);
            due("captain " + camp, x.captain(), camp);
            due("sleep of " + camp, x.sleep(camp, 0), 4);
            due("waking of " + camp, x.sleep(camp, 1), 5);
        }
    }

    private static void campsThatAreLookedAt() {
        dueCamps("campOf", (x, camp) -> x.campOf(camp, 0));
        dueCamps("pageOf", (x, camp) -> x.pageOf(camp, 0, 0));
        dueCamps("reaches, the one", (x, camp) -> x.reaches(camp, 2));
        dueCamps("reaches, the other", (x, camp) -> x.reaches(2, camp));
        dueCamps("matches, the one", (x, camp) -> x.matches(camp, 2));
        dueCamps("matches, the other", (x, camp) -> x.matches(2, camp));
        dueCamps("matchesAgain, the one", (x, camp) -> x.matchesAgain(camp, 2));
        dueCamps("matchesAgain, the other", (x, camp) -> x.matchesAgain(2, camp));
        dueCamps("holders", (x, camp) -> x.holders(camp, 0));
        dueCamps("would", (x, camp) -> x.would(camp));
        dueCamps("describe", (x, camp) -> x.describe(camp));
        dueCamps("show", (x, camp) -> x.show(camp));
    }

    /** "The letter, 0 for a to 3 for d." */
    private static void lettersAreFour() {
        dueRange("write", () -> after("d0"), (x, letter) -> x.write(0, letter), 0, 3, NONE);
        dueRange("letters", () -> after("d0;w0a;w0b;w0c;w0d;m0"), (x, letter) -> x.letters(letter), 0, 3, NONE);
        for (int letter = 0; letter < 4; letter++) {
            CaravanLogs x = after("d0");
            x.write(0, letter);
            due("not settled yet", x.letters(letter), 0);
            x.march(0);
            for (int other = 0; other < 4; other++) {
                due("letters " + other, x.letters(other), other == letter ? 1 : 0);
            }
        }
        due("none at first", new CaravanLogs().letters(3), 0);
        due("twelve", after("d0", TWELVE, "m0").letters(0), 12);
    }

    /** "At most 12 pages, counted from 0": an empty log, one page, a full log. */
    private static void placesOfPages() {
        for (int pages : new int[] {1, 2, 11, 12}) {
            Supplier<CaravanLogs> make = () -> after("d0", times(pages, "w0c"));
            dueRange("term of a page", make, (x, place) -> x.pageOf(0, place, 0), 0, pages - 1, NONE);
            dueRange("letter of a page", make, (x, place) -> x.pageOf(0, place, 1), 0, pages - 1, NONE);
            dueRange("holders", make, (x, place) -> x.holders(0, place), 0, pages - 1, NONE);
        }
        for (int place : new int[] {-1, 0, 1}) {
            due("page of an empty log", new CaravanLogs().pageOf(0, place, 0), NONE);
            due("holders of an empty log", new CaravanLogs().holders(0, place), NONE);
            due("page of another log", after("d0;w0a").pageOf(1, place, 0), NONE);
        }
        due("holders of the last of twelve", after("d0", TWELVE).holders(0, 11), 1);
        due("holders of the last of twelve", after("d0", TWELVE, "m0").holders(4, 11), 5);
    }

    /** Promise 18: "the place, from 0". */
    private static void placesOfRanks() {
        dueRange("ranked", CaravanLogs::new, (x, place) -> x.ranked(place), 0, 4, NONE);
        due("the farthest", after("d3;w3a").ranked(0), 3);
        due("the last one", after("d3;w3a").ranked(4), 4);
    }

    /** Promise 21: "the index, from 0"; "the line, which is empty at first". */
    private static void indicesOfTheLine() {
        for (int index : new int[] {-1, 0, 1, Integer.MIN_VALUE, Integer.MAX_VALUE}) {
            due("sign " + index + " of no line", new CaravanLogs().sign(index), NONE);
        }
        Supplier<CaravanLogs> shortest = () -> {
            CaravanLogs x = new CaravanLogs();
            due("the shortest line", x.show(0), 1);
            return x;
        };
        dueRange("sign of the shortest line", shortest, (x, index) -> x.sign(index), 0, 0, NONE);
        Supplier<CaravanLogs> longLine = () -> {
            CaravanLogs x = after("d0", TWELVE);
            due("a long line", x.show(0), 25);
            return x;
        };
        dueRange("sign of a long line", longLine, (x, index) -> x.sign(index), 0, 24, NONE);
        due("its last sign", longLine.get().sign(24), '1');
    }

    private static void whats() {
        // Camp 4 has voted, so that none of its numbers is an error code.
        dueRange("campOf", () -> after("d4"), (x, what) -> x.campOf(4, what), 0, 8, BAD);
        dueRange("pageOf", () -> after("d4;w4a"), (x, what) -> x.pageOf(4, 0, what), 0, 1, BAD);
        dueRange("refusal", CaravanLogs::new, (x, what) -> x.refusal(what), 0, 2, BAD);
        dueRange("account", CaravanLogs::new, (x, what) -> x.account(what), 0, 12, BAD);
    }

    /** "1 if it is open then, 0 if it is closed", and the same for awake ones. */
    private static void switches() {
        dueRange("road", CaravanLogs::new, (x, isOpen) -> x.road(0, 1, isOpen), 0, 1, BAD);
        dueRange("sleep", CaravanLogs::new, (x, isAwake) -> x.sleep(0, isAwake), 0, 1, BAD);
        dueRange("road again", () -> after("r01-"), (x, isOpen) -> x.road(0, 1, isOpen), 0, 1, BAD);
        dueRange("sleep again", () -> after("z0"), (x, isAwake) -> x.sleep(0, isAwake), 0, 1, BAD);
        for (int camp = 0; camp < 5; camp++) {
            CaravanLogs x = new CaravanLogs();
            for (int left = 4; left >= 0; left--) {
                due("asleep one by one", x.sleep((camp + left) % 5, 0), left);
            }
            due("none is awake", x.account(2), 0);
            due("one is awake", x.sleep(camp, 1), 1);
        }
    }

    /** Promise 7: "how many, 1 to 30". */
    private static void hoursFromOneToThirty() {
        dueRange("pass", CaravanLogs::new, (x, hours) -> x.pass(hours), 1, 30, BAD);
        for (int hours = 1; hours <= 30; hours++) {
            CaravanLogs x = new CaravanLogs();
            due("captains made in " + hours, x.pass(hours), hours < 3 ? 0 : 1);
            due("hours", x.account(10), hours);
        }
    }

    /** Promise 22: "the code of the character, 32 to 126". */
    private static void codesFrom32To126() {
        dueRange("append", CaravanLogs::new, (x, code) -> x.append(code), 32, 126, BAD);
        for (int code = 32; code <= 126; code++) {
            due("append " + code, new CaravanLogs().append(code), 1);
        }
        due("as a char it would do", new CaravanLogs().append(65536 + 'd'), BAD);
    }

    /** "Or the text has 70 characters": empty, 69, 70. */
    private static void lengthsOfTheText() {
        CaravanLogs x = new CaravanLogs();
        due("empty at first", x.account(11), 0);
        for (int length = 1; length <= 70; length++) {
            due("append", x.append(length % 2 == 0 ? ' ' : '~'), length);
            due("length", x.account(11), length);
        }
        due("the 71st", x.append(' '), BAD);
        due("the 71st, again", x.append('~'), BAD);
        due("length", x.account(11), 70);
        x.read();
        due("empty behind read", x.account(11), 0);
        due("the first one again", x.append('~'), 1);
    }

    private static void constants() {
        due("NONE", CaravanLogs.NONE, -1);
        due("BAD", CaravanLogs.BAD, -2);
        due("REFUSED", CaravanLogs.REFUSED, -3);
        due("NOTHING", CaravanLogs.NOTHING, -4);
    }

    /** "An object is used for at most 512 calls": the last one answers as the others do. */
    private static void callsOfAnObject() {
        CaravanLogs x = new CaravanLogs();
        for (int call = 1; call <= 511; call++) {
            due("call " + call, x.pass(30), call == 1 ? 1 : 0);
        }
        due("call 512", x.account(10), 511 * 30);
        x = new CaravanLogs();
        for (int call = 1; call <= 511; call++) {
            due("call " + call, x.dusk(call % 2), 5);
        }
        due("call 512", x.describe(1), 10);
    }
}
