/** The sentences of "Terms" about camps, logs and dusk that name a boundary: a test for each. */
final class CampsAndDuskTest extends Checks {
    /** Camps 0 and 4 reach each other and nobody else. */
    private static final String ONLY_0_AND_4 = "r01-;r02-;r03-;r14-;r24-;r34-";

    public static void main(String[] args) {
        eachCampAtFirst();
        eachLogAtFirst();
        roadsAtFirst();
        reachingNeedsBothAwakeAndTheRoad();
        mostCampsAreThree();
        twelvePagesAtMost();
        lettersFromAToD();
        pagesAreCountedFromZero();
        logsAsFarAsAnother();
        logsWithoutPages();
        aGreaterLastTermIsFarther();
        fullLogs();
        duskAlone();
        termOfTheOneAsked();
        lostToEachCamp();
        whoHasNoVoteVotes();
        aLostDuskLeavesAScoutWithoutVote();
        onlyWhoIsReachedIsAsked();
        theCaptainAskedByAGreaterTerm();
        end();
    }

    /** "Each has a term, at first 0; and a vote, at first none; and is a scout, as at first"; "awake, as at first". */
    private static void eachCampAtFirst() {
        CaravanLogs x = new CaravanLogs();
        int[] first = {0, NOTHING, 0, 1, 0, 0, 0};
        for (int camp = 0; camp < 5; camp++) {
            for (int what = 0; what <= 6; what++) {
                due("at first, camp " + camp + ", " + what, x.campOf(camp, what), first[what]);
            }
            due("line at first", camp(x, camp), camp + ":0v-s0");
        }
    }

    /** "A row of at most 12 pages, at first none"; "some of the first pages are settled, at first none". */
    private static void eachLogAtFirst() {
        CaravanLogs x = new CaravanLogs();
        for (int camp = 0; camp < 5; camp++) {
            due("no page at first", x.pageOf(camp, 0, 0), NONE);
            due("no term of a last page", x.campOf(camp, 8), 0);
            due("log at first", log(x, camp), "|");
        }
        due("no settled page", x.account(9), 0);
    }

    /** "Between each two camps there is a road, open as at first, or closed." */
    private static void roadsAtFirst() {
        for (int one = 0; one < 5; one++) {
            for (int other = 0; other < 5; other++) {
                if (one == other) {
                    continue;
                }
                CaravanLogs x = new CaravanLogs();
                due("open at first", x.account(3), 10);
                refused("open already", x, x.road(one, other, 1), 5, 1);
                due("closing " + one + other, x.road(one, other, 0), 9);
                refused("closed already, told from its other end", x, x.road(other, one, 0), 5, 0);
                due("opening " + other + one, x.road(other, one, 1), 10);
            }
        }
        CaravanLogs x = after(NO_ROADS);
        due("the last of ten is closed", x.account(3), 0);
        due("one of ten", x.road(4, 3, 1), 1);
    }

    /** "A camp reaches another one if both are awake and the road between them is open." */
    private static void reachingNeedsBothAwakeAndTheRoad() {
        for (int sign = 0; sign < 8; sign++) {
            CaravanLogs x = new CaravanLogs();
            if ((sign & 1) != 0) {
                x.sleep(1, 0);
            }
            if ((sign & 2) != 0) {
                x.sleep(3, 0);
            }
            if ((sign & 4) != 0) {
                x.road(1, 3, 0);
            }
            due("reaches, with " + sign, x.reaches(1, 3), sign == 0 ? 1 : 0);
            due("reached, with " + sign, x.reaches(3, 1), sign == 0 ? 1 : 0);
        }
        due("a camp itself", new CaravanLogs().reaches(2, 2), 0);
    }

    /** "Most camps are 3 of the 5": with one, two, three, four and five that are awake. */
    private static void mostCampsAreThree() {
        for (int awake = 1; awake <= 5; awake++) {
            CaravanLogs x = new CaravanLogs();
            for (int camp = awake; camp < 5; camp++) {
                x.sleep(camp, 0);
            }
            due("would, of " + awake, x.would(0), awake);
            due("dusk, of " + awake, x.dusk(0), awake);
            due("a captain, of " + awake, x.campOf(0, 2), awake >= 3 ? 1 : 0);
            due("made a captain, of " + awake, x.account(5), awake >= 3 ? 1 : 0);
            due("told, of " + awake, x.captain(), awake >= 3 ? 0 : NOTHING);
        }
    }

    /** "At most 12 pages": the last that is written, the next one, and twelve in a march. */
    private static void twelvePagesAtMost() {
        CaravanLogs x = after("d4", times(11, "w4c"));
        due("the twelfth", x.write(4, 3), 12);
        refused("the thirteenth", x, x.write(4, 0), 3, 12);
        due("twelve pages", x.campOf(4, 4), 12);
        due("a march with twelve", x.march(4), 12);
        for (int camp = 0; camp < 4; camp++) {
            due("twelve at camp " + camp, log(x, camp), "c1c1c1c1c1c1c1c1c1c1c1d1|");
        }
        due("the thirteenth of another captain", x.dusk(0), 5);
        refused("it has none", x, x.write(0, 0), 3, 12);
    }

    /** "A letter from a to d." */
    private static void lettersFromAToD() {
        CaravanLogs x = after("d0");
        due("none ahead of a", x.write(0, -1), NONE);
        due("none behind d", x.write(0, 4), NONE);
        due("a", x.write(0, 0), 1);
        due("d", x.write(0, 3), 2);
        due("their letters", log(x, 0), "|a1d1");
        due("the letter a", x.pageOf(0, 0, 1), 0);
        due("the letter d", x.pageOf(0, 1, 1), 3);
    }

    /** "A row of at most 12 pages, counted from 0." */
    private static void pagesAreCountedFromZero() {
        CaravanLogs x = after("d0;w0b;w0c");
        due("ahead of the first one", x.pageOf(0, -1, 1), NONE);
        due("the first one", x.pageOf(0, 0, 1), 1);
        due("the last one", x.pageOf(0, 1, 1), 2);
        due("behind the last one", x.pageOf(0, 2, 1), NONE);
    }

    /** "The same one and there are as many pages or more": one less, as many, one more; camps 0 and 4 alone. */
    private static void logsAsFarAsAnother() {
        String bothTwo = "d0;w0a;w0a;" + ONLY_0_AND_4 + ";m0";
        due("as many pages", after(bothTwo).dusk(4), 2);
        due("as many pages, told by would", after(bothTwo).would(4), 2);
        due("one page less", after(bothTwo, "w0a").dusk(4), 1);
        due("one page less, told by would", after(bothTwo, "w0a").would(4), 1);
        due("one page more", after(bothTwo, "w0a;z0;k0").dusk(0), 2);
        due("the vote for one page more", camp(after(bothTwo, "w0a;z0;k0;d0"), 4), "4:2v0s0");
        due("no vote for one page less", camp(after(bothTwo, "w0a;d4"), 0), "0:2v-s0");
        CaravanLogs x = after(bothTwo, "w0a");
        due("ranked by it", x.ranked(0), 0);
        due("and then", x.ranked(1), 4);
    }

    /** "A log without pages has the term 0 there." */
    private static void logsWithoutPages() {
        due("none against none", after(ONLY_0_AND_4).dusk(4), 2);
        due("none against one", after("d0;w0a", ONLY_0_AND_4).dusk(4), 1);
        due("one against none", after("d0;w0a", ONLY_0_AND_4, "z0;k0").dusk(0), 2);
        due("its last term", after("d0;w0a").campOf(4, 8), 0);
        due("one page of term 1", after("d0;w0a").campOf(0, 8), 1);
    }

    /** "If its last page has a greater term": fewer pages, as many, and more. */
    private static void aGreaterLastTermIsFarther() {
        for (int old = 1; old <= 3; old++) {
            // Camp 0 has some pages of term 1, camp 4 two of term 2.
            String[] texts = {"d0;" + times(old, "w0a"), "r04-;d4;w4b;w4b;r04+", "r01-;r02-;r03-;r14-;r24-;r34-;z4;k4"};
            due("logs", logs(after(texts)), "|" + "a1".repeat(old) + " | | | |b2b2");
            due("the greater term against " + old, after(texts).dusk(4), 2);
            CaravanLogs x = after(texts);
            x.sleep(0, 0);
            x.sleep(0, 1);
            due("the less term loses", x.dusk(0), 1);
            due("ranked first", x.ranked(0), 4);
            due("ranked next", x.ranked(1), 0);
        }
    }

    private static void fullLogs() {
        String eleven = "d0;" + times(11, "w0a");
        due("twelve against twelve", after(eleven, "w0b;" + ONLY_0_AND_4 + ";m0").dusk(4), 2);
        due("eleven against twelve", after(eleven, ONLY_0_AND_4 + ";m0;w0b").dusk(4), 1);
        due("twelve against eleven", after(eleven, ONLY_0_AND_4 + ";m0;w0b;z0;k0").dusk(0), 2);
    }

    /** "Its term becomes 1 more, and its vote is for itself", though nobody is reached. */
    private static void duskAlone() {
        CaravanLogs x = after(NO_ROADS);
        for (int term = 1; term <= 3; term++) {
            due("one vote", x.dusk(2), 1);
            due("its line", camp(x, 2), "2:" + term + "v2s0");
        }
        due("none is a captain", x.account(1), 0);
        due("dusks", x.account(4), 3);
    }

    /** "If the term of the one asked is greater": the asking camp has the term 3 by then, the other one 0 to 5. */
    private static void termOfTheOneAsked() {
        for (int term = 0; term <= 5; term++) {
            CaravanLogs x = after(NO_ROADS, "d0;d0");
            for (int i = 0; i < term; i++) {
                x.dusk(4);
            }
            x.road(0, 4, 1);
            int votes = term < 3 ? 2 : term == 3 ? 1 : 0;
            due("would against the term " + term, x.would(0), votes);
            due("dusk against the term " + term, x.dusk(0), votes);
            due("who asked", camp(x, 0), term <= 3 ? "0:3v0s0" : "0:" + term + "v-s0");
            due("who was asked", camp(x, 4), term < 3 ? "4:3v0s0" : "4:" + term + "v4s0");
        }
    }

    /** "Asks each camp that it reaches by their numbers"; "asks nobody else; it has lost": to each of the others. */
    private static void lostToEachCamp() {
        for (int asking = 0; asking < 5; asking++) {
            for (int greater = 0; greater < 5; greater++) {
                if (asking == greater) {
                    continue;
                }
                CaravanLogs x = after(NO_ROADS);
                x.dusk(greater);
                x.dusk(greater);
                for (int other = 0; other < 5; other++) {
                    x.road(asking, other, 1);
                }
                due("would lose", x.would(asking), 0);
                due("lost", x.dusk(asking), 0);
                for (int other = 0; other < 5; other++) {
                    String asked = other < greater ? ":1v" + asking + "s0" : ":0v-s0";
                    String line = other == asking ? ":2v-s0" : other == greater ? ":2v" + greater + "s0" : asked;
                    due(asking + " lost to " + greater, camp(x, other), other + line);
                }
            }
        }
    }

    /** "Then it votes for the asking camp if it has no vote": in one term, with none, with one. */
    private static void whoHasNoVoteVotes() {
        // Camp 3 gets the term 1 in a march, without a vote; camp 4 comes from 0 to 1.
        String[] texts = {"z3;z4;d0;k3;m0;z0;k4;r14-;r24-"};
        due("without a vote", camp(after(texts), 3), "3:1v-s0");
        due("it votes", after(texts).dusk(4), 2);
        CaravanLogs x = after(texts);
        x.dusk(4);
        x.sleep(4, 0);
        x.sleep(0, 1);
        due("its vote", camp(x, 3), "3:1v4s0");
        x = after(NO_ROADS, "d3;r34+");
        due("with a vote for itself", x.dusk(4), 1);
        due("it stays", camp(x, 3), "3:1v3s0");
        x = after("z4;d0;k4");
        due("with votes for another one", x.dusk(4), 1);
        due("that stays", camp(x, 3), "3:1v0s0");
    }

    /** "The asking camp takes that term, has no vote": it can vote in that term then. */
    private static void aLostDuskLeavesAScoutWithoutVote() {
        CaravanLogs x = after(NO_ROADS, "d1;d1;d1;r01+");
        due("lost", x.dusk(0), 0);
        due("no vote", camp(x, 0), "0:3v-s0");
        x = after(NO_ROADS, "d1;d1;d1;r01+;d0;d2;d2;r02+");
        due("it votes in that term", x.dusk(2), 2);
        due("its vote", camp(x, 0), "0:3v2s0");
    }

    /** "It asks each camp that it reaches": neither asleep ones nor those behind closed roads. */
    private static void onlyWhoIsReachedIsAsked() {
        CaravanLogs x = after("z1;r23-");
        due("three are left", x.dusk(2), 3);
        due("who was asked", camps(x), "0:1v2s0 1z:0v-s0 2C:1v2s0 3:0v-s0 4:1v2s0");
    }

    /** "If the term of the one asked is less, this one takes the term, has no vote, and is a scout." */
    private static void theCaptainAskedByAGreaterTerm() {
        CaravanLogs x = after("d0;r04-;d4;r04+");
        due("two captains", camp(x, 0) + " " + camp(x, 4), "0C:1v0s0 4C:2v4s0");
        due("asked by camp 1 in term 3", x.dusk(1), 5);
        due("both are scouts", camps(x), "0:3v1s0 1C:3v1s0 2:3v1s0 3:3v1s0 4:3v1s0");
        due("captains", x.account(1), 1);
        // In an equal term the one asked stays the captain.
        x = after("z4;d0;k4;r14-;r24-;r34-");
        due("asked in the same term", x.dusk(4), 1);
        due("it stays the captain", camp(x, 0), "0C:1v0s0");
    }
}
