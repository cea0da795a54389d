import java.util.function.Supplier;
import java.util.function.ToIntFunction;

/**
 * Each error code of each promise, which one is answered where several apply, and "Errors": a call that returns an
 * error code leaves the state, the line, the text, what can be undone and the snapshot as they were.
 */
final class ErrorCodesTest extends Checks {
    public static void main(String[] args) {
        noSuchCamp();
        noSuchPlaceLetterOrIndex();
        outOfRange();
        refusedForAReason();
        nothingOfThisKind();
        noneAheadOfOthers();
        badAheadOfOthers();
        readsThatFail();
        readsWithSeveralErrors();
        looksLeaveAll();
        end();
    }

    /**
     * An object with something of everything: camp 0 leads in term 1 with a full log, camp 1 is asleep, camps 2 and 3
     * have the term 2, two roads are closed, all eight changes can be undone, a snapshot, a line, a text, a refusal.
     */
    private static CaravanLogs full() {
        CaravanLogs x = after("d0;w0a;w0b;m0;p1", times(10, "w0c"));
        x.save();
        x.march(0);
        x.sleep(1, 0);
        x.road(0, 3, 0);
        x.pass(1);
        x.road(3, 4, 0);
        x.pass(2);
        x.dusk(3);
        x.write(3, 1);
        x.describe(2);
        x.append('p');
        x.append('1');
        return x;
    }

    private static void dueOfFull(String what, ToIntFunction<CaravanLogs> call, int answer) {
        dueKept(what, ErrorCodesTest::full, call, answer);
    }

    /** Camp numbers below 0 and beyond 4, for each promise that takes one. */
    private static void noSuchCamp() {
        due("the full object", full().account(12), 8);
        for (int camp : new int[] {-1, 5}) {
            dueOfFull("dusk", x -> x.dusk(camp), NONE);
            dueOfFull("write", x -> x.write(camp, 0), NONE);
            dueOfFull("march", x -> x.march(camp), NONE);
            dueOfFull("road, the one", x -> x.road(camp, 0, 0), NONE);
            dueOfFull("road, the other", x -> x.road(0, camp, 0), NONE);
            dueOfFull("road, both", x -> x.road(camp, camp, 1), NONE);
            dueOfFull("sleep", x -> x.sleep(camp, 0), NONE);
            dueOfFull("campOf", x -> x.campOf(camp, 0), NONE);
            dueOfFull("pageOf", x -> x.pageOf(camp, 0, 0), NONE);
            dueOfFull("reaches, the one", x -> x.reaches(camp, 0), NONE);
            dueOfFull("reaches, the other", x -> x.reaches(0, camp), NONE);
            dueOfFull("reaches, both", x -> x.reaches(camp, camp), NONE);
            dueOfFull("matches, the one", x -> x.matches(camp, 0), NONE);
            dueOfFull("matches, the other", x -> x.matches(0, camp), NONE);
            dueOfFull("matches, both", x -> x.matches(camp, camp), NONE);
            dueOfFull("matchesAgain, the one", x -> x.matchesAgain(camp, 0), NONE);
            dueOfFull("matchesAgain, the other", x -> x.matchesAgain(0, camp), NONE);
            dueOfFull("matchesAgain, both", x -> x.matchesAgain(camp, camp), NONE);
            dueOfFull("holders", x -> x.holders(camp, 0), NONE);
            dueOfFull("would", x -> x.would(camp), NONE);
            dueOfFull("describe", x -> x.describe(camp), NONE);
            dueOfFull("show", x -> x.show(camp), NONE);
        }
    }

    private static void noSuchPlaceLetterOrIndex() {
        for (int letter : new int[] {-1, 4}) {
            dueOfFull("write", x -> x.write(0, letter), NONE);
            dueOfFull("letters", x -> x.letters(letter), NONE);
        }
        for (int place : new int[] {-1, 12}) {
            dueOfFull("pageOf", x -> x.pageOf(0, place, 1), NONE);
            dueOfFull("holders", x -> x.holders(0, place), NONE);
        }
        for (int place : new int[] {-1, 5}) {
            dueOfFull("ranked", x -> x.ranked(place), NONE);
        }
        for (int index : new int[] {-1, 7}) {
            dueOfFull("sign", x -> x.sign(index), NONE);
        }
        due("the last sign", full().sign(6), '0');
        Supplier<CaravanLogs> empty = () -> after("d0");
        dueKept("no page", empty, x -> x.pageOf(0, 0, 0), NONE);
        dueKept("no page", empty, x -> x.holders(0, 0), NONE);
        dueKept("no line", empty, x -> x.sign(0), NONE);
    }

    private static void outOfRange() {
        for (int sign : new int[] {-1, 2}) {
            dueOfFull("road", x -> x.road(0, 2, sign), BAD);
            dueOfFull("sleep", x -> x.sleep(0, sign), BAD);
        }
        for (int hours : new int[] {0, 31}) {
            dueOfFull("pass", x -> x.pass(hours), BAD);
        }
        for (int what : new int[] {-1, 9}) {
            dueOfFull("campOf", x -> x.campOf(0, what), BAD);
        }
        for (int what : new int[] {-1, 2}) {
            dueOfFull("pageOf", x -> x.pageOf(0, 11, what), BAD);
        }
        for (int what : new int[] {-1, 3}) {
            dueOfFull("refusal", x -> x.refusal(what), BAD);
        }
        for (int what : new int[] {-1, 13}) {
            dueOfFull("account", x -> x.account(what), BAD);
        }
        for (int code : new int[] {31, 127}) {
            dueOfFull("append", x -> x.append(code), BAD);
        }
        Supplier<CaravanLogs> longText = () -> type(after("p1;d0"), times(17, "p30") + ";z");
        due("a text of 69 characters", longText.get().account(11), 69);
        Supplier<CaravanLogs> longest = () -> type(longText.get(), "3");
        dueKept("append to 70 characters", longest, x -> x.append('3'), BAD);
        dueKept("append of a bad code to 70 characters", longest, x -> x.append(31), BAD);
    }

    private static void refusedForAReason() {
        dueOfFull("dusk, 1", x -> x.dusk(1), REFUSED);
        dueOfFull("dusk, 2", x -> x.dusk(0), REFUSED);
        dueOfFull("write, 1", x -> x.write(1, 0), REFUSED);
        dueOfFull("write, 2", x -> x.write(3, 0), REFUSED);
        dueOfFull("write, 3", x -> x.write(0, 0), REFUSED);
        dueOfFull("march, 1", x -> x.march(1), REFUSED);
        dueOfFull("march, 2", x -> x.march(2), REFUSED);
        dueOfFull("road, 4", x -> x.road(2, 2, 0), REFUSED);
        dueOfFull("road, 5, open", x -> x.road(0, 2, 1), REFUSED);
        dueOfFull("road, 5, closed", x -> x.road(4, 3, 0), REFUSED);
        dueOfFull("sleep, 5, awake", x -> x.sleep(4, 1), REFUSED);
        dueOfFull("sleep, 5, asleep", x -> x.sleep(1, 0), REFUSED);
    }

    private static void nothingOfThisKind() {
        dueOfFull("would, asleep", x -> x.would(1), NOTHING);
        dueOfFull("would, a captain", x -> x.would(0), NOTHING);
        Supplier<CaravanLogs> fresh = CaravanLogs::new;
        dueKept("a vote", fresh, x -> x.campOf(0, 1), NOTHING);
        dueKept("captain", fresh, CaravanLogs::captain, NOTHING);
        dueKept("captain of those asleep", () -> after("d0;z0"), CaravanLogs::captain, NOTHING);
        dueKept("captainIn", () -> after("z0;z1;z2"), CaravanLogs::captainIn, NOTHING);
        dueKept("refusal", fresh, x -> x.refusal(0), NOTHING);
        dueKept("refusal", fresh, x -> x.refusal(2), NOTHING);
        dueKept("refusal of a call", ErrorCodesTest::full, x -> x.refusal(2), NOTHING);
        dueKept("share", () -> after("d0;m0"), CaravanLogs::share, NOTHING);
        dueKept("undo", fresh, CaravanLogs::undo, NOTHING);
        dueKept("undo behind restore", () -> restoredOnce(), CaravanLogs::undo, NOTHING);
        dueKept("restore", () -> after("d0;w0a"), CaravanLogs::restore, NOTHING);
    }

    private static CaravanLogs restoredOnce() {
        CaravanLogs x = full();
        x.restore();
        return x;
    }

    /** NONE is listed ahead of BAD, REFUSED and NOTHING. */
    private static void noneAheadOfOthers() {
        dueOfFull("write, no camp and no letter", x -> x.write(5, 4), NONE);
        dueOfFull("write, no letter, and asleep", x -> x.write(1, 4), NONE);
        dueOfFull("write, no letter, and no captain", x -> x.write(2, -1), NONE);
        dueOfFull("write, no letter, and full", x -> x.write(0, 4), NONE);
        dueOfFull("road, no one, and bad", x -> x.road(5, 0, 2), NONE);
        dueOfFull("road, no other, and bad", x -> x.road(0, -1, 2), NONE);
        dueOfFull("road, one camp that is none", x -> x.road(5, 5, 0), NONE);
        dueOfFull("sleep, no camp, and bad", x -> x.sleep(5, 2), NONE);
        dueOfFull("campOf, no camp, and bad", x -> x.campOf(-1, 9), NONE);
        dueOfFull("pageOf, no camp, and bad", x -> x.pageOf(5, 0, 2), NONE);
        dueOfFull("pageOf, no page, and bad", x -> x.pageOf(0, 12, 2), NONE);
        dueOfFull("holders, no camp, and no page", x -> x.holders(5, 12), NONE);
    }

    /** BAD is listed ahead of REFUSED and of NOTHING. */
    private static void badAheadOfOthers() {
        dueOfFull("road, bad, and one camp", x -> x.road(2, 2, 2), BAD);
        dueOfFull("road, bad, and one camp", x -> x.road(2, 2, -1), BAD);
        dueKept("refusal, bad, and nothing refused", CaravanLogs::new, x -> x.refusal(3), BAD);
        dueKept("refusal, bad, and nothing refused", CaravanLogs::new, x -> x.refusal(-1), BAD);
    }

    /** "Except that read empties the text": all else is as if the text had never been. */
    private static void readsThatFail() {
        String[] texts = {"", "p1;w", "p1;d4;z4;k4;r12-;m4x", "k1;k0", "d4;w4a", "k1;r02-;d4;m4;w4a;p5;d4", "m2",
            "p0", "p1;p31", "d4;d5", "z4;w9a", "k1;p9;m7", "d4;r06-"};
        int[] answers = {-100, -104, -119, REFUSED, REFUSED, REFUSED, REFUSED, BAD, BAD, BAD, BAD, BAD, BAD};
        Supplier<CaravanLogs> emptied = () -> {
            CaravanLogs x = full();
            x.append('x');
            x.read();
            return x;
        };
        for (int i = 0; i < texts.length; i++) {
            String text = texts[i];
            Supplier<CaravanLogs> failed = () -> {
                CaravanLogs x = emptied.get();
                read(x, text);
                return x;
            };
            due("reading " + text, read(emptied.get(), text), answers[i]);
            due("the text is empty behind " + text, failed.get().account(11), 0);
            due("and read as such", failed.get().read(), -100);
            dueAlike("behind " + text, failed, emptied);
            if (answers[i] != REFUSED) {
                due("reasons behind " + text, reasons(failed.get()), reasons(full()));
            }
        }
    }

    /** A fault is listed ahead of REFUSED, and REFUSED ahead of BAD; what fails ends the reading. */
    private static void readsWithSeveralErrors() {
        due("refused, bad, and wrong", read(new CaravanLogs(), "k0;p0;p123"), -109);
        due("refused and wrong", read(new CaravanLogs(), "k0;x"), -103);
        due("bad and wrong", read(new CaravanLogs(), "p0;x"), -103);
        due("refused, then bad", read(new CaravanLogs(), "k0;p0"), REFUSED);
        due("bad, so the next one is not reached", read(new CaravanLogs(), "p0;k0"), BAD);
        CaravanLogs x = new CaravanLogs();
        read(x, "p0;k0");
        due("and not refused", x.refusal(0), NOTHING);
        x = new CaravanLogs();
        read(x, "k0;x");
        due("a wrong text is not carried out, so nothing is refused", x.refusal(0), NOTHING);
    }

    /** Calls that look answer, and change nothing. */
    private static void looksLeaveAll() {
        dueOfFull("campOf", x -> x.campOf(3, 0), 2);
        dueOfFull("pageOf", x -> x.pageOf(0, 1, 1), 1);
        dueOfFull("reaches", x -> x.reaches(0, 2), 1);
        dueOfFull("matches", x -> x.matches(0, 1), 12);
        dueOfFull("matchesAgain", x -> x.matchesAgain(1, 0), 12);
        dueOfFull("captain", CaravanLogs::captain, 0);
        dueOfFull("holders", x -> x.holders(0, 11), 5);
        dueOfFull("letters", x -> x.letters(2), 10);
        dueOfFull("would, not won", x -> x.would(4), 2);
        dueOfFull("would, won", x -> x.would(2), 4);
        dueOfFull("captainIn", CaravanLogs::captainIn, 3);
        dueOfFull("ranked", x -> x.ranked(4), 4);
        dueOfFull("refusal", x -> x.refusal(0), 2);
        dueOfFull("account", x -> x.account(0), 2);
        dueOfFull("isWell", CaravanLogs::isWell, 1);
        dueOfFull("share", CaravanLogs::share, Float.floatToIntBits(1.0f));
        dueKept("would lose", () -> after("r01-;r02-;r03-;r04-;d0;d0;r01+"), x -> x.would(1), 0);
        dueKept("would win", CaravanLogs::new, x -> x.would(2), 5);
    }
}
