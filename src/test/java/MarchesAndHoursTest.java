/** The sentences of "Terms" about marches and hours that name a boundary: a test for each. */
final class MarchesAndHoursTest extends Checks {
    /** Camp 0 is a captain of term 2, without pages; camp 4 is alone, in the term 0. */
    private static final String CAPTAIN_OF_TERM_2 = "r04-;r14-;r24-;r34-;d0;z0;k0;d0";

    public static void main(String[] args) {
        onlyWhoIsReachedIsVisited();
        termOfTheVisited();
        endedByEachCamp();
        tornFromEachPlace();
        writtenBehindFromEachPlace();
        anEmptyLogInAMarch();
        unlikeByTheTermAlone();
        settledByThreeOfFive();
        oldPagesSettleWithANewOne();
        settledPagesNeverBecomeLess();
        visitedSettledPagesNeverBecomeLess();
        onlyVisitedCampsCount();
        patienceOfEachCamp();
        silenceEnds();
        silenceGoesOn();
        captainsAndSleepersHaveNoSilence();
        captainsMarchInEachHour();
        ifTheyAreCaptainsThen();
        whenItIsItsTurn();
        lostDusksInHours();
        howOftenInHours();
        end();
    }

    /** "A captain who marches goes to each camp that is reached." */
    private static void onlyWhoIsReachedIsVisited() {
        CaravanLogs x = after("d2;w2a;z1;r24-");
        due("three are left", x.march(2), 1);
        due("who was visited", logs(x), "a1| | a1| a1| |");
    }

    /** "If the term of that camp is greater"; "takes the term of the captain, if its own is less": 1, 2 and 3 to 2. */
    private static void termOfTheVisited() {
        String[] visited = {"4:2v-s0", "4:2v-s0", "4:2v4s0", "4:3v4s0"};
        for (int term = 0; term <= 3; term++) {
            CaravanLogs x = after(CAPTAIN_OF_TERM_2, "w0a");
            for (int i = 0; i < term; i++) {
                x.dusk(4);
            }
            x.road(0, 4, 1);
            due("march against the term " + term, x.march(0), term <= 2 ? 1 : 0);
            due("the visited camp", camp(x, 4), visited[term]);
            due("its log", log(x, 4), term <= 2 ? "a2|" : "|");
            due("the captain", camp(x, 0), term <= 2 ? "0C:2v0s0" : "0:3v-s0");
            due("those ahead", log(x, 3), term <= 2 ? "a2|" : "|a2");
        }
    }

    /** "One after the other, by their numbers"; "and the march ends": at each of the others. */
    private static void endedByEachCamp() {
        for (int captain = 0; captain < 5; captain++) {
            for (int greater = 0; greater < 5; greater++) {
                if (captain == greater) {
                    continue;
                }
                CaravanLogs x = new CaravanLogs();
                x.sleep(greater, 0);
                x.dusk(captain);
                x.write(captain, 3);
                for (int other = 0; other < 5; other++) {
                    x.road(greater, other, 0);
                }
                x.sleep(greater, 1);
                x.dusk(greater);
                x.dusk(greater);
                x.road(captain, greater, 1);
                due("march", x.march(captain), 0);
                for (int other = 0; other < 5; other++) {
                    boolean hasIt = other == captain || other < greater;
                    due("march of " + captain + " that ends at " + greater, log(x, other), hasIt ? "|d1" : "|");
                }
                due("who marched", camp(x, captain), captain + ":2v-s0");
                due("who ended it", camp(x, greater), greater + ":2v" + greater + "s0");
            }
        }
    }

    /** "This page and all behind it are torn": from the first page of a full log to the last one. */
    private static void tornFromEachPlace() {
        for (int alike = 0; alike < 12; alike++) {
            // Camps 0 and 1 have a full log, of which the others have some first pages.
            CaravanLogs x = after("d0");
            for (int i = 0; i < alike; i++) {
                x.write(0, 0);
            }
            x.march(0);
            for (int other = 2; other < 5; other++) {
                x.road(0, other, 0);
            }
            for (int i = alike; i < 12; i++) {
                x.write(0, 1);
            }
            x.march(0);
            due("a full log", x.campOf(1, 4), 12);
            read(x, "r14-;d4;w4c;r14+");
            due("alike", x.matches(4, 1), alike);
            due("march", x.march(4), alike + 1);
            due("torn from " + alike + " on", log(x, 1), "a1".repeat(alike) + "c2|");
            due("torn", x.account(7), 12 - alike);
            due("who was not visited", x.campOf(0, 4), 12);
        }
    }

    /** "Then all pages that the captain has beyond are written behind": to twelve, from none to all of them. */
    private static void writtenBehindFromEachPlace() {
        for (int had = 0; had <= 12; had++) {
            CaravanLogs x = after("d0");
            for (int i = 0; i < had; i++) {
                x.write(0, i % 4);
            }
            x.march(0);
            x.sleep(4, 0);
            for (int i = had; i < 12; i++) {
                x.write(0, i % 4);
            }
            x.sleep(4, 1);
            due("march", x.march(0), 12);
            due("written behind " + had, log(x, 4), "a1b1c1d1a1b1c1d1a1b1c1d1|");
            due("none is torn", x.account(7), 0);
        }
    }

    private static void anEmptyLogInAMarch() {
        CaravanLogs x = after("d0");
        due("none to none", x.march(0), 0);
        due("logs", logs(x), "| | | | |");
        due("it is a march", x.account(8), 1);
        // Camp 3 without pages leads with the votes of 2 and 4, and comes to camp 0, which has one.
        x = after("d0;w0a;r01-;r02-;r03-;r04-;d3;r03+");
        due("none to one", x.march(3), 0);
        due("pages stay where the captain has none", log(x, 0), "|a1");
        due("none is torn", x.account(7), 0);
    }

    /** "Unlike that of the captain at the same place, by its term": with the same letter. */
    private static void unlikeByTheTermAlone() {
        CaravanLogs x = after("d0;w0a;w0a", "r01-;r02-;r03-;r04-;d4;w4a;r04+");
        due("march", x.march(4), 1);
        due("another term", logs(x), "a2| a2| a2| a2| a2|");
        due("torn", x.account(7), 2);
    }

    /** "As many first pages are had alike by most camps": one to five that have them. */
    private static void settledByThreeOfFive() {
        for (int visited = 0; visited <= 4; visited++) {
            CaravanLogs x = after("d0;w0a;w0b");
            for (int camp = visited + 1; camp < 5; camp++) {
                x.sleep(camp, 0);
            }
            int settled = visited >= 2 ? 2 : 0;
            due("march to " + visited, x.march(0), settled);
            for (int camp = 0; camp < 5; camp++) {
                due("settled at " + camp, x.campOf(camp, 5), camp <= visited ? settled : 0);
                due("pages at " + camp, x.campOf(camp, 4), camp <= visited ? 2 : 0);
            }
        }
    }

    /** "And the last one of them has the captain's term." */
    private static void oldPagesSettleWithANewOne() {
        String[] texts = {"d0;w0a;r02-;r03-;r04-;m0;z0;d1"};
        CaravanLogs x = after(texts);
        due("a page of the term 1, a captain of the term 2", logs(x), "|a1 |a1 | | |");
        due("an old page alone", x.march(1), 0);
        due("all have it, none settled it", logs(x), "|a1 |a1 |a1 |a1 |a1");
        due("written in term 2", x.write(1, 1), 2);
        due("both", x.march(1), 2);
        x = after(texts);
        x.write(1, 1);
        due("both at once", x.march(1), 2);
        due("settled", log(x, 4), "a1b2|");
    }

    /** "If that is more than there were": fewer are visited; another term; nothing new. */
    private static void settledPagesNeverBecomeLess() {
        CaravanLogs x = after("d0;w0a;w0b;m0");
        due("nothing new", x.march(0), 2);
        x = after("d0;w0a;w0b;m0;z1;z2;z3;z4");
        due("nobody is visited", x.march(0), 2);
        x = after("d0;w0a;w0b;m0;d1");
        due("a captain of another term", x.march(1), 2);
        due("its log", log(x, 1), "a1b1|");
        x.write(1, 2);
        due("one more", x.march(1), 3);
    }

    /** "Become as many as those of the captain, if that is more than it had." */
    private static void visitedSettledPagesNeverBecomeLess() {
        // Camp 3 has the page, but doesn't know that it is settled, when it becomes the captain.
        CaravanLogs x = after("d0;w0a;r01-;r02-;r04-;m0;r01+;r02+;r03-;m0;d3");
        due("logs", logs(x), "a1| a1| a1| |a1 |");
        due("the captain settles none", x.march(3), 0);
        due("those who had settled it", logs(x), "a1| a1| a1| |a1 |a1");
        x.write(3, 1);
        due("then it does", x.march(3), 2);
        due("both", logs(x), "a1| a1b2| a1b2| a1b2| a1b2|");
    }

    /** "Most camps, of those visited in this march and the captain": who had them before does not count. */
    private static void onlyVisitedCampsCount() {
        CaravanLogs x = after("d0;w0a;z2;z3;z4;m0;z1;k2");
        due("three have the page behind it", x.march(0), 0);
        due("none settled it", logs(x), "|a1 |a1 |a1 | |");
        due("holders", x.holders(0, 0), 3);
        due("asleep is not visited", x.pass(1), 0);
        due("still none", x.account(9), 0);
        x.sleep(1, 1);
        due("now they are visited", x.march(0), 1);
    }

    /** "The patience of a camp is 3 more than its number"; "whose silence is not below its patience". */
    private static void patienceOfEachCamp() {
        for (int camp = 0; camp < 5; camp++) {
            CaravanLogs x = new CaravanLogs();
            for (int other = 0; other < 5; other++) {
                if (other != camp) {
                    x.sleep(other, 0);
                }
            }
            due("patience", x.campOf(camp, 7), camp + 3);
            due("below its patience", x.pass(camp + 2), 0);
            due("silence", x.campOf(camp, 6), camp + 2);
            due("no dusk", x.account(4), 0);
            due("as much as its patience", x.pass(1), 0);
            due("silence behind its dusk", x.campOf(camp, 6), 0);
            due("a dusk", x.account(4), 1);
            due("below it again", x.pass(camp + 2), 0);
            due("no second dusk", x.account(4), 1);
        }
    }

    /** "And 0 again when the camp falls asleep, wakes up, votes for another camp, or is visited; behind its own dusk." */
    private static void silenceEnds() {
        due("silences", camps(after("p2")), "0:0v-s2 1:0v-s2 2:0v-s2 3:0v-s2 4:0v-s2");
        due("falls asleep", camp(after("p2;z3"), 3), "3z:0v-s0");
        due("wakes up", camp(after("p2;z3;k3"), 3), "3:0v-s0");
        due("votes for another camp", camp(after("p2;d0"), 3), "3:1v0s0");
        due("is visited", camp(after("p1;d0;r03-;p1;r03+;m0"), 3), "3:1v0s0");
        due("its own dusk, won", camp(after("p2;d3"), 3), "3C:1v3s0");
        due("its own dusk, not won", camp(after("p2", NO_ROADS, "d3"), 3), "3:1v3s0");
        due("its own dusk, lost", camp(after("r01-;r02-;r03-;r04-;d0;d0;r03+;p2;d3"), 3), "3:2v-s0");
    }

    /** What is in none of these cases leaves the silence: asked without voting, a captain that meets a greater term. */
    private static void silenceGoesOn() {
        CaravanLogs x = after("d0;w0a;m0;z4;w0b;m0;p2;k4;z0;p1");
        due("silences", camps(x), "0z:1v0s0 1:1v0s2 2:1v0s2 3:1v0s2 4:1v0s1");
        due("camp 4 has less pages", x.dusk(4), 1);
        due("who is asked and does not vote", camps(x), "0z:1v0s0 1:2v-s2 2:2v-s2 3:2v-s2 4:2v4s0");
        x = after("p2;r01-;r02-");
        due("roads leave it", camp(x, 0), "0:0v-s2");
        x = after(NO_ROADS, "p2;d1;d1;r01+;d0");
        due("whom a lost dusk met", camp(x, 1), "1:2v1s0");
        x = after(NO_ROADS, "d1;d1;p2;r01+;d0");
        due("whom a lost dusk met, later", camp(x, 1), "1:2v1s2");
    }

    /** "The silence of each scout that is awake becomes 1 more." */
    private static void captainsAndSleepersHaveNoSilence() {
        CaravanLogs x = after("d0;r01-;r02-;r03-;r04-;z2;p2");
        due("two hours", camps(x), "0C:1v0s0 1:1v0s2 2z:1v0s0 3:1v0s2 4:1v0s2");
    }

    /** "First all captains that are awake march": in the hour in which a camp becomes one it does not. */
    private static void captainsMarchInEachHour() {
        CaravanLogs x = after("p3");
        due("camp 0 is a captain", x.captain(), 0);
        due("no march yet", x.account(8), 0);
        x.write(0, 0);
        due("the next hour", x.pass(1), 0);
        due("one march", x.account(8), 1);
        due("the page is settled", x.campOf(4, 5), 1);
        due("visited, then one more", camp(x, 4), "4:1v0s1");
        x.sleep(0, 0);
        due("asleep", x.pass(1), 0);
        due("no march", x.account(8), 1);
    }

    /** "By their numbers, if they are captains then." */
    private static void ifTheyAreCaptainsThen() {
        CaravanLogs x = after("d3;r03-;d0;r03+");
        due("two captains", x.account(1), 2);
        due("an hour", x.pass(1), 0);
        due("camp 0 came first, so camp 3 did not march", x.account(8), 1);
        due("camp 3", camp(x, 3), "3:2v-s1");
        x = after("d0;r03-;d3;r03+");
        due("two captains", x.account(1), 2);
        due("an hour", x.pass(1), 0);
        due("camp 0 came first, and met the greater term", x.account(8), 2);
        due("camp 0, visited by camp 3 in this hour", camp(x, 0), "0:2v-s1");
    }

    /** "Whether it does is looked at when it is its turn": who voted for a camp ahead of it does not. */
    private static void whenItIsItsTurn() {
        String both = "p1;z0;k0;p2";
        due("camps 0 and 1 are due in the next hour", camp(after(both), 0) + camp(after(both), 1), "0:0v-s21:0v-s3");
        CaravanLogs x = after(both);
        due("the hour", x.pass(1), 1);
        due("one dusk", x.account(4), 1);
        due("camp 1 voted", camp(x, 1), "1:1v0s0");
        x = after(both, "r01-");
        due("unasked", x.pass(1), 1);
        due("two dusks", x.account(4), 2);
        due("camp 1 asked in a term in which all have voted", camp(x, 1), "1:1v1s0");
    }

    private static void lostDusksInHours() {
        CaravanLogs x = after("r04-;r14-;r24-;r34-;d4;d4;d4;r04+;z4;k4;p2");
        due("nobody becomes a captain", x.pass(1), 0);
        due("camp 0 lost to camp 4", camp(x, 0), "0:3v-s0");
        due("dusks", x.account(4), 4);
    }

    /** "Returns how often a camp became a captain in them": none, one, and one camp twice. */
    private static void howOftenInHours() {
        CaravanLogs x = new CaravanLogs();
        due("none", x.pass(2), 0);
        due("one", x.pass(1), 1);
        due("no one more", x.pass(30), 0);
        due("made so far", x.account(5), 1);
        x = after("r01-;r12-;r13-;r14-");
        due("a captain, and one who is alone", x.pass(30), 1);
        x.road(0, 1, 1);
        due("meets it and asks again", x.pass(30), 1);
        due("made so far", x.account(5), 2);
        // Camps 0 and 4 don't reach each other: camp 0 in hours 3, 17 and 27, camp 4 in hours 14 and 24.
        x = after("r04-");
        due("five times", x.pass(30), 5);
        due("made so far", x.account(5), 5);
        due("camp 0 leads", camps(x), "0C:5v0s0 1:5v0s1 2:5v0s1 3:5v0s1 4:5v-s3");
    }
}
