/** Promises 8 to 20, 25 and 27: the least, the greatest and the tied answers of the calls that look. */
final class LooksBoundsTest extends Checks {
    public static void main(String[] args) {
        numbersWithoutVoteOrPages();
        matchesFromNoneToAll();
        captainOfNoneAndOfSeveral();
        holdersFromOneToFive();
        lettersOnSettledPagesAlone();
        wouldFromNoneToFive();
        captainInNow();
        captainInWithin60();
        ranksThatAreTied();
        linesAboutCamps();
        linesAboutLogs();
        accountsOfCampsAndRoads();
        accountsOfDusksAndCaptains();
        accountsOfPages();
        accountsOfMarchesAndHours();
        accountsOfTextAndChanges();
        accountsGoBack();
        shares();
        end();
    }

    /** Promise 8: "its vote, NOTHING without one"; "the term of its last page, 0 without pages". */
    private static void numbersWithoutVoteOrPages() {
        CaravanLogs x = after("d0");
        due("a vote for camp 0", x.campOf(4, 1), 0);
        due("its own vote", x.campOf(0, 1), 0);
        due("no vote", after("z4;d0").campOf(4, 1), NOTHING);
        due("no vote again, of a greater term", after("d0;w0a;d1").campOf(0, 1), NOTHING);
        due("no page", x.campOf(0, 8), 0);
        x.write(0, 0);
        due("one page", x.campOf(0, 8), 1);
        due("a captain", x.campOf(0, 2), 1);
        due("a scout", x.campOf(1, 2), 0);
        due("awake", x.campOf(1, 3), 1);
        due("asleep", after("z1").campOf(1, 3), 0);
        for (int camp = 0; camp < 5; camp++) {
            due("patience", x.campOf(camp, 7), camp + 3);
        }
    }

    private static void dueMatches(String what, CaravanLogs x, int one, int other, int want) {
        due(what, x.matches(one, other), want);
        due(what + ", turned", x.matches(other, one), want);
        due(what + ", again", x.matchesAgain(one, other), want);
        due(what + ", again, turned", x.matchesAgain(other, one), want);
    }

    /** Promises 11 and 12: empty logs, one and the same camp, a part of another log, unlike from the first page on. */
    private static void matchesFromNoneToAll() {
        dueMatches("both empty", new CaravanLogs(), 0, 4, 0);
        dueMatches("one and the same, empty", new CaravanLogs(), 3, 3, 0);
        dueMatches("one empty", after("d0;w0a"), 0, 4, 0);
        for (int pages = 1; pages <= 12; pages++) {
            CaravanLogs x = after("d0", times(pages, "w0a"));
            dueMatches("one and the same", x, 0, 0, pages);
            x.march(0);
            dueMatches("alike", x, 0, 4, pages);
            dueMatches("both visited", x, 3, 4, pages);
        }
        for (int pages = 1; pages <= 11; pages++) {
            CaravanLogs x = after("d0", times(pages, "w0a"), "m0", times(12 - pages, "w0b"));
            dueMatches("a part of twelve", x, 0, 4, pages);
        }
        dueMatches("unlike from the first page on", after("d0;w0a;w0a;r04-;d4;w4a;w4a"), 0, 4, 0);
    }

    /** Promise 13: "NOTHING without one". */
    private static void captainOfNoneAndOfSeveral() {
        due("none at first", new CaravanLogs().captain(), NOTHING);
        for (int camp = 0; camp < 5; camp++) {
            CaravanLogs x = new CaravanLogs();
            x.dusk(camp);
            due("captain " + camp, x.captain(), camp);
            x.sleep(camp, 0);
            due("asleep", x.captain(), NOTHING);
            x.sleep(camp, 1);
            due("awake again", x.captain(), NOTHING);
        }
        due("the only one, of a less term than scouts", after("d0;r04-;r14-;r24-;r34-;d4;d4").captain(), 0);
    }

    /** Promise 14: "its own camp included, be they awake or asleep". */
    private static void holdersFromOneToFive() {
        for (int visited = 0; visited <= 4; visited++) {
            CaravanLogs x = after("d0;w0a;w0b");
            for (int camp = visited + 1; camp < 5; camp++) {
                x.sleep(camp, 0);
            }
            x.march(0);
            due("holders of both", x.holders(0, 1), visited + 1);
            due("holders of the first", x.holders(0, 0), visited + 1);
            for (int camp = 0; camp <= visited; camp++) {
                x.sleep(camp, 0);
            }
            due("all asleep", x.holders(0, 1), visited + 1);
        }
        CaravanLogs x = after("d0;w0a;m0;w0b");
        due("those with the first one alone", x.holders(0, 0), 5);
        due("those with both", x.holders(0, 1), 1);
        due("told of a shorter log", x.holders(4, 0), 5);
        // The second pages have one letter, but the first ones are unlike.
        x = after("d0;w0a;w0c;r04-;d4;w4b;w4c");
        due("alike up to the place", x.holders(0, 1), 1);
        due("alike up to the place", x.holders(4, 1), 1);
    }

    /** Promise 15: "on the settled pages of the log with the most of them". */
    private static void lettersOnSettledPagesAlone() {
        CaravanLogs x = after("d0;w0a;w0b;w0b;m0;w0b;w0a");
        int[] counts = {1, 2, 0, 0};
        for (int letter = 0; letter < 4; letter++) {
            due("letters " + letter, x.letters(letter), counts[letter]);
        }
        // Camps 2 to 4 settled more than camps 0 and 1.
        x = after("d4;w4a;m4;r04-;r14-;w4d;w4d;m4");
        due("logs", logs(x), "a1| a1| a1d1d1| a1d1d1| a1d1d1|");
        due("of those with the most", x.letters(3), 2);
        due("the first one, too", x.letters(0), 1);
    }

    /** Promise 16: "how many, as dusk tells it; NOTHING if it would be refused." */
    private static void wouldFromNoneToFive() {
        for (int awake = 1; awake <= 5; awake++) {
            CaravanLogs x = new CaravanLogs();
            for (int camp = awake; camp < 5; camp++) {
                x.sleep(camp, 0);
            }
            due("would, of " + awake, x.would(0), awake);
            due("would again", x.would(0), awake);
            due("dusk", x.dusk(0), awake);
            due("would, asleep", awake < 5 ? x.would(4) : NOTHING, NOTHING);
            due("would, a captain or alone", x.would(0), awake >= 3 ? NOTHING : awake);
        }
        due("lost", after("r01-;r02-;r03-;r04-;d0;d0;r01+").would(1), 0);
        due("a would is no dusk", after("p1").account(4), 0);
    }

    /** Promise 17: "with the greatest term of all camps that are awake"; "0 if there is one now". */
    private static void captainInNow() {
        String alone = "d0;r04-;r14-;r24-;r34-";
        due("a scout in an equal term", after("z4;d0;k4;r04-;r14-;r24-;r34-;d4").captainIn(), 0);
        due("a scout one term ahead", after(alone, "d4").captainIn(), NOTHING);
        due("a scout one term ahead, asleep", after(alone, "d4;z4").captainIn(), 0);
        due("the captain asleep, another one in the scout's term", after(alone, "d4;z0").captainIn(), 4);
        due("all asleep but the captain", after("d0;z1;z2;z3;z4").captainIn(), 0);
        due("all asleep", after("d0;z0;z1;z2;z3;z4").captainIn(), NOTHING);
        due("of two captains the one of the greatest term", after("d0;r04-;d4").captainIn(), 0);
        due("in one hour", after("p2").captainIn(), 1);
        due("at first", new CaravanLogs().captainIn(), 3);
        due("camps 2 to 4 alone", after("z0;z1").captainIn(), 5);
    }

    /** "NOTHING if there is none within 60": one in 61 hours, in 60, in 59. */
    private static void captainInWithin60() {
        String[] texts = {"r02-;r13-;r10-;r40-;p6;r14-", "p4"};
        due("in 61 hours", after(texts).captainIn(), NOTHING);
        due("in 60 hours", after(texts[0], "p5").captainIn(), 60);
        due("in 59 hours", after(texts[0], "p6").captainIn(), 59);
        CaravanLogs x = after(texts);
        due("in 60 of them there is none", x.pass(30) + x.pass(30), 0);
        due("none yet", x.captain(), NOTHING);
        due("the 61st", x.pass(1), 1);
    }

    private static String ranks(CaravanLogs x) {
        StringBuilder camps = new StringBuilder();
        for (int place = 0; place < 5; place++) {
            camps.append(x.ranked(place));
        }
        return camps.toString();
    }

    /** Promise 18: "the farthest first, of several the one with more settled pages, then the lowest." */
    private static void ranksThatAreTied() {
        due("all alike", ranks(new CaravanLogs()), "01234");
        due("all alike, with pages", ranks(after("d3;w3a;w3b;m3")), "01234");
        due("one page", ranks(after("d3;w3a")), "30124");
        due("a greater last term with fewer pages", ranks(after("d3;w3a;w3b;r34-;d4;w4a")), "43012");
        due("one page more", ranks(after("d3;w3a;m3;w3b")), "30124");
        due("settled by three, had by five", ranks(after("d2;z1;z3;z4;w2a;m2;k1;k3;r02-;m2")), "12304");
        // Camp 0 got its pages in a march that ended at camp 1, so it settled none, but has more pages than camp 2.
        CaravanLogs x = after("d3;z0;z1;w3a;m3;k0;k1;r10-;r12-;r14-;r13-;d1;d1;r13+;w3b;m3");
        due("logs", logs(x), "|a1b1 | a1| a1|b1 a1|");
        due("more pages ahead of more settled ones", ranks(x), "30241");
    }

    /** "Its number, "z" if it is asleep, "C" if it is a captain, ":" and its term, "v" and its vote, or "v-"". */
    private static void linesAboutCamps() {
        due("at first", new CaravanLogs().describe(0), 7);
        for (int camp = 0; camp < 5; camp++) {
            CaravanLogs x = new CaravanLogs();
            due("a scout", camp(x, camp), camp + ":0v-s0");
            x.sleep(camp, 0);
            due("asleep", camp(x, camp), camp + "z:0v-s0");
            x.sleep(camp, 1);
            x.dusk(camp);
            due("a captain", camp(x, camp), camp + "C:1v" + camp + "s0");
            x.sleep(camp, 0);
            due("a captain asleep is none", camp(x, camp), camp + "z:1v" + camp + "s0");
        }
        CaravanLogs x = after(times(4, "d0;d1") + ";d0");
        due("the term 9", camp(x, 0), "0C:9v0s0");
        x.dusk(1);
        due("the term 10", camp(x, 1), "1C:10v1s0");
        due("the greatest silence", camp(after("z0;z1;z2;z3;p6"), 4), "4:0v-s6");
    }

    /** "For each page its letter and its term, and "|" behind the settled ones". */
    private static void linesAboutLogs() {
        CaravanLogs x = after(times(4, "d0;d1") + ";d0", "w0a");
        due("the term 9", log(x, 0), "|a9");
        x.dusk(1);
        x.dusk(0);
        x.write(0, 3);
        due("the term 11", log(x, 0), "|a9d11");
        x.march(0);
        due("both settled", log(x, 0), "a9d11|");
        for (int pages = 0; pages <= 12; pages++) {
            x = new CaravanLogs();
            x.dusk(2);
            for (int i = 0; i < pages; i++) {
                x.write(2, i % 4);
            }
            due("length", x.show(2), 2 * pages + 1);
            due("none settled", line(x), "|" + "a1b1c1d1a1b1c1d1a1b1c1d1".substring(0, 2 * pages));
            x.march(2);
            due("all settled", log(x, 2), "a1b1c1d1a1b1c1d1a1b1c1d1".substring(0, 2 * pages) + "|");
        }
    }

    /** Promise 25: "0 the greatest term; 1 the captains; 2 those who are awake; 3 the open roads". */
    private static void accountsOfCampsAndRoads() {
        CaravanLogs x = after(NO_ROADS, "d4;d4;d4;d0");
        due("the greatest term, the last camp's", x.account(0), 3);
        x = after(NO_ROADS, "d0;d0;d4;z0");
        due("the greatest term, of one asleep", x.account(0), 2);
        due("no captain", x.account(1), 0);
        due("four awake", x.account(2), 4);
        due("no road", x.account(3), 0);
        x = after("d0;r04-;d4");
        due("two captains", x.account(1), 2);
        due("nine roads", x.account(3), 9);
        x = after("z0;z1;z2;z3;z4");
        due("none awake", x.account(2), 0);
        due("the roads stay open", x.account(3), 10);
    }

    /** "4 the dusks so far; 5 how often a camp became a captain so far." */
    private static void accountsOfDusksAndCaptains() {
        CaravanLogs x = after("d0;d1;d0;d1");
        due("dusks", x.account(4), 4);
        due("one camp twice, another one twice", x.account(5), 4);
        x.dusk(1);
        x.dusk(5);
        x.would(0);
        x.captainIn();
        due("no dusk among them", x.account(4), 4);
        due("no new captain among them", x.account(5), 4);
        x = after("r01-;r02-;r03-;r04-;d0;d0;r01+;d1");
        due("a lost dusk, and two without votes", x.account(4), 3);
        due("no captain", x.account(5), 0);
        x = after("p3");
        due("a dusk in the hours", x.account(4), 1);
        due("a captain in the hours", x.account(5), 1);
    }

    /** "6 the pages written by captains so far; 7 the pages torn so far"; "9 the most settled pages of any camp". */
    private static void accountsOfPages() {
        CaravanLogs x = after("d0;w0a;m0;w0b;w0b");
        due("written, not those of the march", x.account(6), 3);
        due("settled", x.account(9), 1);
        x.write(1, 0);
        x.write(0, 4);
        due("none more", x.account(6), 3);
        read(x, "r01-;r02-;r03-;r04-;d4;w4c;m4;r04+;m4");
        due("two torn", x.account(7), 2);
        due("torn ones were written", x.account(6), 4);
        due("settled", x.account(9), 2);
        due("nothing more to tear", x.march(4), 2);
        due("two torn", x.account(7), 2);
        due("of the last camp alone", after("d4;z0;z1;w4a;w4a;m4").account(9), 2);
        due("twelve", after("d4", times(12, "w4a"), "m4").account(9), 12);
    }

    /** "8 the marches so far"; "10 the hours so far". */
    private static void accountsOfMarchesAndHours() {
        CaravanLogs x = after("d0");
        due("none", x.account(8), 0);
        x.march(0);
        x.march(1);
        due("one", x.account(8), 1);
        x.pass(30);
        due("one in each hour", x.account(8), 31);
        due("hours", x.account(10), 30);
        x.captainIn();
        x.pass(31);
        due("no hours", x.account(10), 30);
        x = after("r01-;r02-;r03-;r04-;d1;r01+;d0;r02+;z1;r03+;r04+");
        due("camp 0 has lost or won", x.account(8), 0);
        x = after("d0;r04-;r14-;r24-;r34-;d4;d4;r04+;m0");
        due("one that ended", x.account(8), 1);
    }

    /** "11 the characters of the text; 12 the changes that can be undone." */
    private static void accountsOfTextAndChanges() {
        CaravanLogs x = new CaravanLogs();
        due("no text", x.account(11), 0);
        due("no change", x.account(12), 0);
        x.append('p');
        due("one character", x.account(11), 1);
        x.append(31);
        due("still one", x.account(11), 1);
        x.append('1');
        x.read();
        due("read", x.account(11), 0);
        due("one change", x.account(12), 1);
        x.undo();
        due("undone", x.account(12), 0);
    }

    /** The accounts of what happened so far are part of what changes change. */
    private static void accountsGoBack() {
        String text = "d0;w0a;r01-;r02-;r03-;r04-;d4;w4b;m4;r04+;m4;p2";
        int[] all = {2, 1, 5, 7, 2, 2, 2, 1, 4, 1, 2, 0, 1};
        CaravanLogs x = after(text);
        for (int what = 0; what <= 12; what++) {
            due("account " + what, x.account(what), all[what]);
        }
        x.undo();
        for (int what = 0; what <= 12; what++) {
            due("undone, account " + what, x.account(what), what == 2 ? 5 : what == 3 ? 10 : 0);
        }
        x = new CaravanLogs();
        x.save();
        read(x, text);
        x.restore();
        for (int what = 0; what <= 12; what++) {
            due("restored, account " + what, x.account(what), what == 2 ? 5 : what == 3 ? 10 : 0);
        }
    }

    /** Promise 27: "NOTHING without pages"; none of them settled, some, and all. */
    private static void shares() {
        due("no page", new CaravanLogs().share(), NOTHING);
        due("none of one", after("d0;w0a").share(), 0);
        due("none of sixty", after("d0;r02-;r03-;r04-", times(12, "w0a"), "m0").share(), 0);
        due("all of sixty", after("d0", times(12, "w0a"), "m0").share(), 0x3f800000);
        due("a half", after("d0;z3;z4;w0a;m0;w0a;w0a;w0a").share(), 0x3f000000);
        due("three quarters", after("d0;z3;z4;w0a;m0;w0a").share(), 0x3f400000);
        due("three of five", after("d0;z3;z4;w0a;m0;w0a;w0a").share(), 0x3f19999a);
        due("five of sixteen", after("d0;w0a;m0", times(11, "w0a")).share(), 0x3ea00000);
        due("three of fourteen", after("d0;z3;z4;w0a;m0", times(11, "w0a")).share(), Float.floatToIntBits(3f / 14f));
    }
}
