/** "In doubt": a test for each of its sentences. */
final class InDoubtTest extends Checks {
    public static void main(String[] args) {
        aCaptainWhoFallsAsleepIsAScout();
        severalCaptainsOfUnlikeTerms();
        askedByAGreaterTermIsAScout();
        allAreAskedWhenMostHaveVoted();
        anEndedMarchSettlesNothing();
        mostAreThreeWhicheverWereVisited();
        theSignInEachLineAboutALog();
        whoDoesNotVoteKeepsItsSilence();
        pagesThatMatchStayBehindTheCaptains();
        aLostDuskIsAChange();
        theCaptainToldHasTheGreatestTerm();
        end();
    }

    /** "A captain who falls asleep is a scout then; its term, vote and log stay." */
    private static void aCaptainWhoFallsAsleepIsAScout() {
        CaravanLogs x = after("d3;w3a;m3;w3b");
        due("a captain", camp(x, 3), "3C:1v3s0");
        due("falls asleep", x.sleep(3, 0), 4);
        due("a scout", camp(x, 3), "3z:1v3s0");
        due("its log", log(x, 3), "a1|b1");
        due("no captain", x.account(1), 0);
        due("wakes up", x.sleep(3, 1), 5);
        due("still a scout", camp(x, 3), "3:1v3s0");
        refused("so it can't write", x, x.write(3, 0), 2, 1);
    }

    /** "Several captains, of unlike terms": two, and three. */
    private static void severalCaptainsOfUnlikeTerms() {
        CaravanLogs x = after("d0;r03-;d3;r01-;r31-;d1");
        due("three captains", camps(x), "0C:1v0s0 1C:3v1s0 2:3v1s0 3C:2v3s0 4:3v1s0");
        due("told", x.account(1), 3);
        due("it is well", x.isWell(), 1);
    }

    /** "A camp that is asked and has a less term is a scout also if it does not vote then." */
    private static void askedByAGreaterTermIsAScout() {
        CaravanLogs x = after("d0;w0a");
        due("camp 1 has less pages, the others vote", x.dusk(1), 4);
        due("the captain is none", camp(x, 0), "0:2v-s0");
        due("captains", x.account(1), 1);
    }

    /** "All that are reached are asked, also when most have voted already." */
    private static void allAreAskedWhenMostHaveVoted() {
        CaravanLogs x = new CaravanLogs();
        due("all five", x.dusk(0), 5);
        due("the last ones, too", camp(x, 3) + " " + camp(x, 4), "3:1v0s0 4:1v0s0");
        // Camp 4 has a greater term, and is asked when camps 0 to 3 have voted.
        x = after("r04-;r14-;r24-;r34-;d4;d4;r04+");
        due("lost to the last one", x.dusk(0), 0);
        due("though most had voted", camps(x), "0:2v-s0 1:1v0s0 2:1v0s0 3:1v0s0 4:2v4s0");
    }

    /** "A march that ends because of a greater term settles nothing": neither new pages nor those of the visited. */
    private static void anEndedMarchSettlesNothing() {
        // Camp 4 has the greater term; camps 1 to 3 have been visited by then.
        CaravanLogs x = after("d0;w0a;r04-;r14-;r24-;r34-;d4;d4;r04+");
        due("march", x.march(0), 0);
        due("most have the page", x.holders(0, 0), 4);
        due("none settled it", x.account(9), 0);
        // Camp 3 missed that the first page is settled.
        x = after("r03-;d0;w0a;m0;r03+;r04-;r14-;r24-;r34-;d4;d4;r04+");
        due("march", x.march(0), 1);
        due("camp 3 has the page, and settled none", log(x, 3), "|a1");
    }

    /** "Most camps are 3 of all 5, whichever were visited": two of two awake are not most. */
    private static void mostAreThreeWhicheverWereVisited() {
        CaravanLogs x = after("d0;w0a;z2;z3;z4");
        due("both that are awake", x.march(0), 0);
        x.sleep(4, 1);
        due("three", x.march(0), 1);
        due("two of two at dusk", after("z2;z3;z4").dusk(0), 2);
        due("are no captain", after("z2;z3;z4;d0").account(1), 0);
    }

    /** "The sign "|" stands in each line about a log, also ahead of all pages or behind all." */
    private static void theSignInEachLineAboutALog() {
        due("no page", log(new CaravanLogs(), 2), "|");
        due("its length", new CaravanLogs().show(2), 1);
        due("ahead of all", log(after("d2;w2a;w2b"), 2), "|a1b1");
        due("behind all", log(after("d2;w2a;w2b;m2"), 2), "a1b1|");
        due("between them", log(after("d2;w2a;m2;w2b"), 2), "a1|b1");
    }

    /** "A camp that is asked, and does not vote for the asking camp, keeps its silence." */
    private static void whoDoesNotVoteKeepsItsSilence() {
        CaravanLogs x = after("z4;d0;p2;k4;z0;p2");
        due("before", camps(x), "0z:1v0s0 1:1v0s3 2:1v0s3 3:1v0s3 4:0v-s2");
        due("all have voted in this term", x.dusk(4), 1);
        due("silences stay", camps(x), "0z:1v0s0 1:1v0s3 2:1v0s3 3:1v0s3 4:1v4s0");
        x = after("r04-;r14-;r24-;d0;w0a;m0;z0;p2");
        due("before", camps(x), "0z:1v0s0 1:1v0s2 2:1v0s2 3:1v0s2 4:0v-s2");
        x.road(4, 1, 1);
        x.dusk(4);
        due("a greater term, and a shorter log", x.dusk(4), 1);
        due("the silence stays with a new term", camp(x, 1), "1:2v-s2");
    }

    /** "Pages that match stay also if the captain's log has no page there." */
    private static void pagesThatMatchStayBehindTheCaptains() {
        CaravanLogs x = after("d0;w0a;m0;r02-;r03-;r04-;w0b;w0c;m0;z0;r13-;r14-;k0;d2");
        due("before", logs(x), "a1|b1c1 a1|b1c1 a1| a1| a1|");
        due("march", x.march(2), 1);
        due("they stay", log(x, 1), "a1|b1c1");
        due("none is torn", x.account(7), 0);
    }

    /** "A dusk that is lost is a change, too." */
    private static void aLostDuskIsAChange() {
        CaravanLogs x = after("r01-;r02-;r03-;r04-;d0;d0;r01+");
        due("lost", x.dusk(1), 0);
        due("changes", x.account(12), 2);
        due("as a command", read(x, "r01-;d0;d0;r01+;d1"), 5);
        due("changes", x.account(12), 3);
        due("undone", x.undo(), 2);
        due("undone", x.undo(), 1);
        due("camp 1 as it was", camp(x, 1), "1:0v-s0");
    }

    /** "The captain told is the one with the greatest term": whether its number is less or greater. */
    private static void theCaptainToldHasTheGreatestTerm() {
        due("of three the one between", after("d0;r03-;d3;r01-;r31-;d1").captain(), 1);
        due("the last one", after("d0;r04-;d4").captain(), 4);
        due("the first one", after("d4;r04-;d0").captain(), 0);
    }
}
