/** Promises 8 to 18: numbers of camps and pages, matches, captains, holders, letters, what would be, orders. */
final class WhatThereIsTest extends Checks {
    /** Camps 2, 3 and 4 have settled a page that camps 0 and 1 lack. */
    private static final String[] APART = {"d0;w0a;m0;r02-;r03-;r04-;w0b;w0b;w0b;m0", "r14-;r12-;r13-;d4;w4c;m4"};

    public static void main(String[] args) {
        numbersOfCamps();
        numbersOfPages();
        reaching();
        matching();
        matchingAtEachLength();
        matchingWhatWasTorn();
        captains();
        holding();
        lettersThatStay();
        wouldBe();
        captainsToCome();
        captainsTooLate();
        ranks();
        end();
    }

    private static void numbersOfCamps() {
        CaravanLogs x = after("p1", "z3;d1;w1a;w1b;m1;w1c", "z1");
        int[][] numbers = {
            {1, 1, 0, 1, 2, 2, 0, 3, 1},
            {1, 1, 0, 0, 3, 2, 0, 4, 1},
            {1, 1, 0, 1, 2, 2, 0, 5, 1},
            {0, NOTHING, 0, 0, 0, 0, 0, 6, 0},
            {1, 1, 0, 1, 2, 2, 0, 7, 1},
        };
        for (int camp = 0; camp < 5; camp++) {
            for (int what = 0; what <= 8; what++) {
                due("campOf " + camp + " " + what, x.campOf(camp, what), numbers[camp][what]);
            }
        }
        x = after("d0;w0a;d4;d0;w0a;d4;p2");
        due("a captain", x.campOf(4, 2), 1);
        due("a scout", x.campOf(0, 2), 0);
        due("a term", x.campOf(0, 0), 4);
        due("a silence", x.campOf(3, 6), 1);
        due("no page of who leads", x.campOf(4, 8), 0);
        x = after("d0;w0a;d4;d0;w0a");
        due("its own term", x.campOf(0, 0), 3);
        due("the term of its last page", x.campOf(0, 8), 3);
        x.dusk(1);
        due("its own term later", x.campOf(0, 0), 4);
        due("the term of its last page stays", x.campOf(0, 8), 3);
        due("no camp", x.campOf(-1, 0), NONE);
        due("no camp", x.campOf(5, 0), NONE);
        due("no camp ahead of no what", x.campOf(5, 9), NONE);
        due("no what", x.campOf(0, -1), BAD);
        due("no what", x.campOf(4, 9), BAD);
    }

    private static void numbersOfPages() {
        CaravanLogs x = after("d2;w2d;d3;d2;w2a;w2b");
        due("the log", log(x, 2), "|d1a3b3");
        int[][] pages = {{1, 3}, {3, 0}, {3, 1}};
        for (int place = 0; place < 3; place++) {
            for (int what = 0; what < 2; what++) {
                due("pageOf 2 " + place + " " + what, x.pageOf(2, place, what), pages[place][what]);
            }
        }
        due("behind the last page", x.pageOf(2, 3, 0), NONE);
        due("ahead of the first page", x.pageOf(2, -1, 0), NONE);
        due("an empty log", x.pageOf(0, 0, 1), NONE);
        due("no camp", x.pageOf(5, 0, 0), NONE);
        due("no camp", x.pageOf(-1, 0, 0), NONE);
        due("no page ahead of no what", x.pageOf(2, 3, 2), NONE);
        due("no camp ahead of no what", x.pageOf(5, 0, -1), NONE);
        due("no what", x.pageOf(2, 0, 2), BAD);
        due("no what", x.pageOf(2, 0, -1), BAD);
        x = after(APART);
        read(x, "r14+;m4");
        due("written over", x.pageOf(1, 1, 1), 2);
        due("torn", x.pageOf(1, 2, 1), NONE);
        x = after("d0;w0a;w0a;w0a;w0a;w0a;w0a;w0a;w0a;w0a;w0a;w0a;w0d;m0");
        due("the last of twelve", x.pageOf(4, 11, 1), 3);
        due("behind twelve", x.pageOf(3, 12, 0), NONE);
    }

    private static void reaching() {
        CaravanLogs x = after("z2;r01-");
        for (int one = 0; one < 5; one++) {
            for (int other = 0; other < 5; other++) {
                boolean isIt = one != other && one != 2 && other != 2 && one + other != 1;
                due("reaches " + one + " " + other, x.reaches(one, other), isIt ? 1 : 0);
            }
        }
        for (int camp : new int[] {-1, 5}) {
            due("no one", x.reaches(camp, 0), NONE);
            due("no other", x.reaches(0, camp), NONE);
            due("neither", x.reaches(camp, camp), NONE);
        }
    }

    private static void matching() {
        CaravanLogs x = after(APART);
        due("logs", logs(x), "a1|b1b1b1 a1|b1b1b1 a1c2| a1c2| a1c2|");
        int[][] alike = {{4, 4, 1, 1, 1}, {4, 4, 1, 1, 1}, {1, 1, 2, 2, 2}, {1, 1, 2, 2, 2}, {1, 1, 2, 2, 2}};
        for (int one = 0; one < 5; one++) {
            for (int other = 0; other < 5; other++) {
                due("matches " + one + " " + other, x.matches(one, other), alike[one][other]);
                due("matchesAgain " + one + " " + other, x.matchesAgain(one, other), alike[one][other]);
            }
        }
        for (int camp : new int[] {-1, 5}) {
            due("no one", x.matches(camp, 0), NONE);
            due("no other", x.matches(0, camp), NONE);
            due("no one again", x.matchesAgain(camp, 0), NONE);
            due("no other again", x.matchesAgain(0, camp), NONE);
        }
    }

    /** Two logs with some pages alike, then some pages of camp 0 in the first term and some of camp 1 in the second one. */
    private static void matchingAtEachLength() {
        for (int alike = 0; alike <= 12; alike++) {
            for (int more = 0; alike + more <= 12; more++) {
                CaravanLogs x = new CaravanLogs();
                x.dusk(0);
                for (int i = 0; i < alike; i++) {
                    x.write(0, i % 4);
                }
                x.march(0);
                for (int i = 0; i < more; i++) {
                    x.write(0, 1);
                }
                x.road(0, 1, 0);
                x.dusk(1);
                for (int i = 0; i < 12 - alike; i++) {
                    x.write(1, 1);
                    due("matches at " + alike + " " + more + " " + i, x.matches(0, 1), alike);
                    due("again at " + alike + " " + more + " " + i, x.matchesAgain(0, 1), alike);
                    due("again, turned, at " + alike + " " + more + " " + i, x.matchesAgain(1, 0), alike);
                }
            }
        }
    }

    /** Pages that were torn must not be compared any more. */
    private static void matchingWhatWasTorn() {
        CaravanLogs x = after("d0;w0a;m0;r02-;r03-;r04-;w0b;w0b;w0b;w0b;w0b;w0b;m0;r01-", "r14-;r12-;r13-;d4;w4c;m4;r04+;m4");
        due("logs", logs(x), "a1c2| a1|b1b1b1b1b1b1 a1c2| a1c2| a1c2|");
        due("matches", x.matches(0, 1), 1);
        due("again", x.matchesAgain(0, 1), 1);
        due("again, turned", x.matchesAgain(1, 0), 1);
        x = after("d3;w3a;w3b;w3c;w3d;w3a;w3b;w3c;w3d;w3a;w3b;w3c;w3d;m3;m3");
        due("two full logs", x.matches(3, 4), 12);
        due("again", x.matchesAgain(3, 4), 12);
        due("all have them", x.holders(4, 11), 5);
    }

    private static void captains() {
        due("none", new CaravanLogs().captain(), NOTHING);
        due("the last camp", after("d4").captain(), 4);
        due("the first camp", after("d0").captain(), 0);
        due("of two the one with the greater term, behind", after("d0;r03-;d3").captain(), 3);
        due("of two the one with the greater term, ahead", after("d3;r03-;d0").captain(), 0);
        due("a scout's term does not count", after("d3;r04-;r14-;r24-;r34-;d4;d4;d4").captain(), 3);
        due("asleep", after("d3;z3").captain(), NOTHING);
    }

    private static void holding() {
        CaravanLogs x = after(APART);
        int[][] holders = {{5, 2, 2, 2}, {5, 2, 2, 2}, {5, 3}, {5, 3}, {5, 3}};
        for (int camp = 0; camp < 5; camp++) {
            for (int place = 0; place < holders[camp].length; place++) {
                due("holders " + camp + " " + place, x.holders(camp, place), holders[camp][place]);
            }
            due("behind the log of " + camp, x.holders(camp, holders[camp].length), NONE);
            due("ahead of the log of " + camp, x.holders(camp, -1), NONE);
        }
        x.sleep(2, 0);
        x.sleep(3, 0);
        due("asleep ones count", x.holders(4, 1), 3);
        due("no camp", x.holders(5, 0), NONE);
        due("no camp", x.holders(-1, 0), NONE);
        due("an empty log", new CaravanLogs().holders(0, 0), NONE);
    }

    private static void lettersThatStay() {
        CaravanLogs x = after(APART);
        int[] counts = {1, 0, 1, 0};
        for (int letter = 0; letter < 4; letter++) {
            due("letters " + letter, x.letters(letter), counts[letter]);
        }
        x = after("d1;w1d;w1b;w1d;w1a;w1d;m1;w1d;w1c");
        counts = new int[] {1, 1, 0, 3};
        for (int letter = 0; letter < 4; letter++) {
            due("letters " + letter, x.letters(letter), counts[letter]);
        }
        due("no letter", x.letters(-1), NONE);
        due("no letter", x.letters(4), NONE);
        due("nothing settled", after("d1;w1d").letters(3), 0);
    }

    private static void wouldBe() {
        CaravanLogs x = after("d0;w0a;m0;z1;r03-;r04-;w0b;m0");
        int[] votes = {NOTHING, NOTHING, 4, 2, 2};
        for (int camp = 0; camp < 5; camp++) {
            due("would " + camp, x.would(camp), votes[camp]);
        }
        due("would refuses nothing", x.refusal(0), NOTHING);
        due("no camp", x.would(-1), NONE);
        due("no camp", x.would(5), NONE);
        CaravanLogs y = after("r04-;r14-;r24-;r34-;d4;d4;r34+");
        due("would lose", y.would(3), 0);
        due("would win none", y.would(4), 2);
        due("would win", y.would(1), 4);
        due("as dusk tells it", y.dusk(1), 4);
    }

    private static void captainsToCome() {
        CaravanLogs x = new CaravanLogs();
        due("a new object", x.captainIn(), 3);
        due("one now", after("d3").captainIn(), 0);
        due("one of two now", after("d3;r03-;d0").captainIn(), 0);
        due("without camp 0", after("z0").captainIn(), 4);
        due("without camps 0 and 1", after("z0;z1").captainIn(), 5);
        due("two hours are gone", after("p2").captainIn(), 1);
        due("too few are awake", after("z0;z1;z2").captainIn(), NOTHING);
        due("all are asleep", after("z0;z1;z2;z3;z4").captainIn(), NOTHING);
        due("no roads", after("r01-;r02-;r03-;r04-;r12-;r13-;r14-;r23-;r24-;r34-").captainIn(), NOTHING);
        // Camp 4 is alone with a greater term than the captain.
        CaravanLogs y = after("d0;r04-;r14-;r24-;r34-;d4;d4");
        due("a scout is ahead", y.captainIn(), NOTHING);
        due("the first camp is ahead", after("d4;r01-;r02-;r03-;r04-;d0;d0").captainIn(), NOTHING);
        y.sleep(4, 0);
        due("the scout is asleep", y.captainIn(), 0);
        y.sleep(4, 1);
        y.road(0, 4, 1);
        due("the captain meets it and asks again", y.captainIn(), 3);
        due("it is no captain after two hours", y.pass(2), 0);
        due("as told", y.pass(1), 1);
        due("the captain", camp(y, 0), "0C:4v0s0");
    }

    /** Two camps that hear of each other only by others drive their terms up for long. */
    private static void captainsTooLate() {
        CaravanLogs x = after("r02-;r13-;r10-;r40-;p6;r14-", "p4");
        due("in 61 hours", x.captainIn(), NOTHING);
        x.pass(1);
        due("in 60 hours", x.captainIn(), 60);
        x.pass(1);
        due("in 59 hours", x.captainIn(), 59);
        x.pass(30);
        due("in 29 hours", x.captainIn(), 29);
        x.pass(28);
        due("in one hour", x.captainIn(), 1);
        x.pass(1);
        due("now", x.captainIn(), 0);
    }

    private static void ranks() {
        dueRanks("new", new CaravanLogs(), 0, 1, 2, 3, 4);
        dueRanks("the greater last term ahead of more pages", after(APART), 2, 3, 4, 0, 1);
        dueRanks("more pages", after("d3;w3a;m3;z0;z2;w3b;m3;z1;w3c;m3"), 3, 4, 1, 0, 2);
        CaravanLogs x = after("d2;z1;z3;z4;w2a;m2;k1;k3;r02-;m2");
        due("logs", logs(x), "|a1 a1| a1| a1| |");
        dueRanks("more settled pages of the same log", x, 1, 2, 3, 0, 4);
        due("no place", x.ranked(-1), NONE);
        due("no place", x.ranked(5), NONE);
    }

    private static void dueRanks(String what, CaravanLogs x, int... camps) {
        for (int place = 0; place < 5; place++) {
            due("ranked " + place + ", " + what, x.ranked(place), camps[place]);
        }
    }
}
