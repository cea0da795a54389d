/** Promises 1 to 7: a new object, dusk, write, march, road, sleep, pass. */
final class WhatHappensTest extends Checks {
    public static void main(String[] args) {
        constants();
        newObject();
        duskThatWins();
        duskThatLoses();
        duskWithoutVotes();
        duskAgainstFartherLogs();
        duskErrors();
        writing();
        writingErrors();
        marching();
        marchThatTears();
        marchThatEnds();
        marchThatSettles();
        marchErrors();
        roads();
        sleeping();
        hours();
        silenceInHours();
        hoursOfTwoCaptains();
        end();
    }

    private static void constants() {
        due("NONE", CaravanLogs.NONE, -1);
        due("BAD", CaravanLogs.BAD, -2);
        due("REFUSED", CaravanLogs.REFUSED, -3);
        due("NOTHING", CaravanLogs.NOTHING, -4);
    }

    private static void newObject() {
        CaravanLogs x = new CaravanLogs();
        due("new, line", x.sign(0), NONE);
        due("new, camps", camps(x), "0:0v-s0 1:0v-s0 2:0v-s0 3:0v-s0 4:0v-s0");
        due("new, logs", logs(x), "| | | | |");
        for (int one = 0; one < 5; one++) {
            for (int other = 0; other < 5; other++) {
                due("new, reaches " + one + " " + other, x.reaches(one, other), one == other ? 0 : 1);
            }
        }
        for (int what = 0; what <= 12; what++) {
            due("new, account " + what, x.account(what), what == 2 ? 5 : what == 3 ? 10 : 0);
        }
        for (int what = 0; what <= 2; what++) {
            due("new, refusal " + what, x.refusal(what), NOTHING);
        }
        due("new, captain", x.captain(), NOTHING);
        due("new, undo", x.undo(), NOTHING);
        due("new, restore", x.restore(), NOTHING);
        due("new, share", x.share(), NOTHING);
        due("new, isWell", x.isWell(), 1);
    }

    private static void duskThatWins() {
        CaravanLogs x = after("p2");
        due("silence before dusk", camps(x), "0:0v-s2 1:0v-s2 2:0v-s2 3:0v-s2 4:0v-s2");
        due("dusk(2)", x.dusk(2), 5);
        due("votes are given and silences end", camps(x), "0:1v2s0 1:1v2s0 2C:1v2s0 3:1v2s0 4:1v2s0");
        due("dusks", x.account(4), 1);
        due("captains made", x.account(5), 1);
        due("dusk(4) on top of a captain", x.dusk(4), 5);
        due("the captain is a scout", camps(x), "0:2v4s0 1:2v4s0 2:2v4s0 3:2v4s0 4C:2v4s0");
        due("captains", x.account(1), 1);
        due("captains made again", x.account(5), 2);

        x = after("z3;z4");
        due("three are most", x.dusk(0), 3);
        due("three made a captain", camps(x), "0C:1v0s0 1:1v0s0 2:1v0s0 3z:0v-s0 4z:0v-s0");
        x = after("z3;z4;r02-");
        due("two are not most", x.dusk(0), 2);
        due("two made none", camps(x), "0:1v0s0 1:1v0s0 2:0v-s0 3z:0v-s0 4z:0v-s0");
        due("one alone", after("z1;z2;z3;z4").dusk(0), 1);
    }

    private static void duskThatLoses() {
        // Camp 4 is alone and gets the term 3, then camp 1 meets it as the last one that is asked.
        CaravanLogs x = after("r04-;r14-;r24-;r34-;d4;d4;d4;r14+;p1");
        due("lost to the last one", x.dusk(1), 0);
        due("those ahead have voted", camps(x), "0:1v1s0 1:3v-s0 2:1v1s0 3:1v1s0 4:3v4s1");
        due("a lost dusk is a change", x.account(12), 2);
        due("a lost dusk is a dusk", x.account(4), 4);
        due("a lost dusk makes no captain", x.account(5), 0);

        // Camp 0 has the greater term and is asked first, so nobody else is asked.
        x = after("r01-;r02-;r03-;r04-;d0;d0;r01+;p2");
        due("lost to the first one", x.dusk(1), 0);
        due("nobody else was asked", camps(x), "0:2v0s2 1:2v-s0 2:0v-s2 3:0v-s2 4:0v-s2");
        due("the term that was taken is one more at the next dusk", x.dusk(1), 5);
        due("won with it", camp(x, 1), "1C:3v1s0");
    }

    private static void duskWithoutVotes() {
        // Camp 3 is asleep when camp 0 wins; its own dusk has the same term then.
        CaravanLogs x = after("z3;d0;k3;p1");
        due("visited, no vote yet", camp(x, 3), "3:1v-s1");
        x = after("z3;d0;k3");
        due("all have voted in this term", x.dusk(3), 1);
        due("who does not vote stays as it is", camps(x), "0C:1v0s0 1:1v0s0 2:1v0s0 3:1v3s0 4:1v0s0");
        due("the captain of the same term stays", x.captain(), 0);
        due("a term later all vote", x.dusk(3), 5);

        // A camp without a vote in the very term of the asking one votes.
        x = after("z3;z4;d0;k3;m0;z0;k4;r14-;r24-");
        due("no vote in term 1", camp(x, 3), "3:1v-s0");
        due("votes in an equal term", x.dusk(4), 2);
        due("its vote", camp(x, 3), "3:1v4s0");
        due("not a captain", camp(x, 4), "4:1v4s0");
    }

    private static void duskAgainstFartherLogs() {
        CaravanLogs x = after("r03-;r04-;d0;w0a;m0;p1");
        due("logs", logs(x), "a1| a1| a1| | |");
        due("two have voted in this term", x.dusk(3), 2);
        due("shorter logs get no vote from longer ones", x.dusk(3), 2);
        due("who does not vote takes the term, and keeps its silence",
            camps(x), "0C:1v0s0 1:2v-s1 2:2v-s1 3:2v3s0 4:2v3s0");
        due("who was asked has no vote", x.campOf(1, 1), NOTHING);
        x = after("d0;w0a;m0;r03-;r04-;w0b;m0;r03+");
        due("a page is missing", logs(x), "a1b1| a1b1| a1b1| a1| a1|");
        due("captain asked by a shorter log", x.dusk(3), 2);
        due("it is a scout also without voting", camp(x, 0), "0:2v-s0");
        due("equal logs vote", x.dusk(1), 5);

        // A greater last term is farther than more pages.
        x = after("r03-;r04-;r13-;r14-;d0;w0a;w0a;w0a;r02-;r12-;d3;d3;w3b;m3");
        due("a long old log, short new logs", logs(x), "|a1a1a1 | b2| b2| b2|");
        read(x, "r04+;r34-;r24-;z0;k0");
        due("who was asked has voted in this term", x.dusk(0), 2);
        due("more pages of a less term get no vote", x.dusk(0), 2);
        due("no vote", camp(x, 4), "4:3v-s0");
        due("fewer pages of a greater term get it", x.dusk(4), 2);
        due("the vote", camp(x, 0), "0:4v4s0");
    }

    private static void duskErrors() {
        CaravanLogs x = after("z1;d0");
        due("dusk(-1)", x.dusk(-1), NONE);
        due("dusk(5)", x.dusk(5), NONE);
        due("nothing was refused yet", x.refusal(0), NOTHING);
        due("dusk at an asleep camp", x.dusk(1), REFUSED);
        due("reason", x.refusal(0), 1);
        due("detail", x.refusal(1), 1);
        due("dusk at a captain", x.dusk(0), REFUSED);
        due("reason", x.refusal(0), 2);
        due("detail", x.refusal(1), 1);
        due("no command", x.refusal(2), NOTHING);
        x.sleep(0, 0);
        refused("a captain who fell asleep", x, x.dusk(0), 1, 0);
    }

    private static void writing() {
        CaravanLogs x = after("p1", "d2");
        due("first page", x.write(2, 0), 1);
        due("second page", x.write(2, 3), 2);
        due("log", log(x, 2), "|a1d1");
        due("written", x.account(6), 2);
        x.dusk(3);
        x.dusk(2);
        due("page of another term", x.write(2, 1), 3);
        due("log", log(x, 2), "|a1d1b3");
        for (int pages = 4; pages <= 12; pages++) {
            due("page " + pages, x.write(2, 2), pages);
        }
        refused("a full log", x, x.write(2, 0), 3, 12);
        due("full log", log(x, 2), "|a1d1b3c3c3c3c3c3c3c3c3c3");
        due("written in all", x.account(6), 12);
        due("nobody else has them", x.campOf(1, 4), 0);
    }

    private static void writingErrors() {
        CaravanLogs x = after("d0;z1");
        due("write(5, 0)", x.write(5, 0), NONE);
        due("write(-1, 0)", x.write(-1, 0), NONE);
        due("write(0, 4)", x.write(0, 4), NONE);
        due("write(0, -1)", x.write(0, -1), NONE);
        due("no letter ahead of asleep", x.write(1, 4), NONE);
        due("asleep ahead of no captain", x.write(1, 0), REFUSED);
        due("reason", x.refusal(0), 1);
        due("detail", x.refusal(1), 1);
        due("no captain", x.write(2, 0), REFUSED);
        due("reason", x.refusal(0), 2);
        due("detail", x.refusal(1), 1);
        read(x, "w0a;w0a;w0a;w0a;w0a;w0a;w0a;w0a;w0a;w0a;w0a;w0a;z3");
        due("full", x.write(0, 0), REFUSED);
        due("reason", x.refusal(0), 3);
        due("detail", x.refusal(1), 12);
        read(x, "d4");
        refused("no captain ahead of full", x, x.write(0, 0), 2, 2);
        read(x, "z0");
        refused("asleep ahead of all", x, x.write(0, 0), 1, 0);
    }

    private static void marching() {
        CaravanLogs x = after("d2", "w2a;w2b", "p1", "z4;r12-", "w2c");
        due("logs before", logs(x), "a1b1| a1b1| a1b1|c1 a1b1| a1b1|");
        due("march(2)", x.march(2), 3);
        due("logs then", logs(x), "a1b1c1| a1b1| a1b1c1| a1b1c1| a1b1|");
        due("who was not visited has kept its silence", camps(x), "0:1v2s0 1:1v2s1 2C:1v2s0 3:1v2s0 4z:1v2s0");
        due("marches", x.account(8), 2);
        due("no page is torn", x.account(7), 0);
        due("pages of marches are not written by captains", x.account(6), 3);
        due("nothing new", x.march(2), 3);

        // A camp of a less term takes the term, and has no vote then.
        x = after("z4;d0;k4;m0");
        due("takes the term", camp(x, 4), "4:1v-s0");
        x = after("d0;z4;d1;k4;m1");
        due("has no vote then", camp(x, 4), "4:2v-s0");
        // A camp of the same term keeps its vote.
        x = after("d0;m0");
        due("keeps its vote", camp(x, 4), "4:1v0s0");
    }

    private static void marchThatTears() {
        // Camp 0 writes five pages that only camp 1 gets, then camp 4 leads.
        CaravanLogs x = after("d0;w0a;m0;r02-;r03-;r04-;w0b;w0b;w0b;m0");
        due("ahead", log(x, 1) + " " + log(x, 2), "a1|b1b1b1 a1|");
        read(x, "r14-;r12-;r13-;d4;w4c;m4");
        due("two logs are apart", log(x, 1) + " " + log(x, 2), "a1|b1b1b1 a1c2|");
        read(x, "r14+;m4");
        due("torn from the first unlike page on", logs(x), "a1|b1b1b1 a1c2| a1c2| a1c2| a1c2|");
        due("pages torn", x.account(7), 3);
        due("the other captain is still one", x.account(1), 2);
        read(x, "r04+;m4");
        due("torn again", logs(x), "a1c2| a1c2| a1c2| a1c2| a1c2|");
        due("pages torn in all", x.account(7), 6);
        due("the visited captain is a scout", camp(x, 0), "0:2v-s0");

        // Pages that match stay also where the captain has none.
        x = after("d0;w0a;m0;r02-;r03-;r04-;w0b;w0b;m0;z0;r13-;r14-;k0");
        due("camp 1 has more", logs(x), "a1|b1b1 a1|b1b1 a1| a1| a1|");
        due("camp 2 wins with camps 3 and 4", x.dusk(2), 3);
        due("camp 2 marches to 1, too", x.march(2), 1);
        due("the pages stay", log(x, 1), "a1|b1b1");
        due("nothing is torn", x.account(7), 0);
        x.write(2, 1);
        due("the same letter in another term is unlike", x.march(2), 2);
        due("torn", log(x, 1), "a1b2|");
        due("pages torn", x.account(7), 2);
    }

    private static void marchThatEnds() {
        // Camp 2 is alone with a greater term; the captain meets it between camps 1 and 3.
        CaravanLogs x = after("d0;r02-;r12-;r23-;r24-;d2;d2;d2;w0a", "r02+");
        due("march(0)", x.march(0), 0);
        due("visited ahead of the end", logs(x), "|a1 |a1 | | |");
        due("the captain takes the term", camps(x), "0:4v-s0 1:1v0s0 2:4v2s0 3:1v0s0 4:1v0s0");
        due("it counts", x.account(8), 1);
        due("it is a change", x.undo(), 2);
        due("undone", camp(x, 0), "0C:1v0s0");

        // What would be settled is not, as the march ends at camp 4.
        x = after("d0;r04-;r14-;r24-;r34-;d4;d4;w0a;r04+");
        due("march to 1, 2, 3, and 4", x.march(0), 0);
        due("nothing is settled", logs(x), "|a1 |a1 |a1 |a1 |");
        due("what was settled stays so", after("d0;w0a;p1", "r04-;r14-;r24-;r34-;d4;d4;w0b;r04+").march(0), 1);
    }

    private static void marchThatSettles() {
        CaravanLogs x = after("d0;z3;z4;w0a");
        due("three of five", x.march(0), 1);
        due("settled", logs(x), "a1| a1| a1| | |");
        x = after("d0;z2;z3;z4;w0a");
        due("two of five", x.march(0), 0);
        due("not settled", logs(x), "|a1 |a1 | | |");

        // The pages of an earlier term are settled only together with one of the captain's own term.
        x = after("d0;r02-;r03-;r04-;w0a;m0;z0;r02+;r03+;r04+;d1");
        due("camp 1 leads", camp(x, 1), "1C:2v1s0");
        due("an old page alone", x.march(1), 0);
        due("all awake have it", logs(x), "|a1 |a1 |a1 |a1 |a1");
        x.write(1, 1);
        due("with a new page", x.march(1), 2);
        due("both are settled", logs(x), "|a1 a1b2| a1b2| a1b2| a1b2|");

        // Few are visited: nothing more is settled, but what the captain has settled is handed on.
        x = after("z4;d0;w0a;m0;z1;z2;z3;k4;w0b");
        due("settled stays", x.march(0), 1);
        due("handed on", logs(x), "a1|b1 a1| a1| a1| a1|b1");
    }

    private static void marchErrors() {
        CaravanLogs x = after("d0;z1");
        due("march(-1)", x.march(-1), NONE);
        due("march(5)", x.march(5), NONE);
        due("asleep ahead of no captain", x.march(1), REFUSED);
        due("reason", x.refusal(0), 1);
        due("detail", x.refusal(1), 1);
        due("no captain", x.march(4), REFUSED);
        due("reason", x.refusal(0), 2);
        due("detail", x.refusal(1), 1);
    }

    private static void roads() {
        CaravanLogs x = new CaravanLogs();
        due("close", x.road(3, 1, 0), 9);
        due("closed one way", x.reaches(3, 1), 0);
        due("closed the other way", x.reaches(1, 3), 0);
        due("another one", x.road(0, 4, 0), 8);
        due("open by the other end", x.road(1, 3, 1), 9);
        due("open again", x.reaches(3, 1), 1);
        due("no one camp", x.road(5, 0, 0), NONE);
        due("no one camp", x.road(-1, 0, 0), NONE);
        due("no other camp", x.road(0, 5, 0), NONE);
        due("no other camp, ahead of a bad sign", x.road(0, -1, 2), NONE);
        due("bad sign", x.road(0, 1, 2), BAD);
        due("bad sign, ahead of one camp", x.road(1, 1, -1), BAD);
        due("one camp, as if to close", x.road(2, 2, 0), REFUSED);
        due("reason", x.refusal(0), 4);
        due("detail", x.refusal(1), 2);
        refused("one camp, as if to open", x, x.road(3, 3, 1), 4, 3);
        refused("closed already", x, x.road(4, 0, 0), 5, 0);
        refused("open already", x, x.road(4, 1, 1), 5, 1);
        due("a road needs two that are awake", x.sleep(2, 0), 4);
        due("asleep camps have roads", x.road(2, 1, 0), 8);
    }

    private static void sleeping() {
        CaravanLogs x = after("p2", "d0", "r01-;r02-;r03-;r04-;w0c;p2");
        due("before", camps(x), "0C:1v0s0 1:1v0s2 2:1v0s2 3:1v0s2 4:1v0s2");
        due("a scout", x.sleep(1, 0), 4);
        due("a captain", x.sleep(0, 0), 3);
        due("asleep", camps(x), "0z:1v0s0 1z:1v0s0 2:1v0s2 3:1v0s2 4:1v0s2");
        due("the log stays", log(x, 0), "|c1");
        due("hours pass", x.pass(1), 0);
        due("silence of who is asleep", camps(x), "0z:1v0s0 1z:1v0s0 2:1v0s3 3:1v0s3 4:1v0s3");
        due("awake", x.sleep(0, 1), 4);
        due("no captain now", camp(x, 0), "0:1v0s0");
        x = after("z1");
        due("no camp", x.sleep(5, 0), NONE);
        due("no camp ahead of a bad sign", x.sleep(-1, 2), NONE);
        due("bad sign", x.sleep(0, 2), BAD);
        due("bad sign", x.sleep(0, -1), BAD);
        refused("asleep already", x, x.sleep(1, 0), 5, 0);
        refused("awake already", x, x.sleep(0, 1), 5, 1);
        x = after("z0;z1;z2;z3;z4");
        due("all asleep", x.account(2), 0);
        due("one awake", x.sleep(3, 1), 1);
    }

    private static void hours() {
        CaravanLogs x = new CaravanLogs();
        due("pass(0)", x.pass(0), BAD);
        due("pass(-1)", x.pass(-1), BAD);
        due("pass(31)", x.pass(31), BAD);
        due("two hours", x.pass(2), 0);
        due("no dusk yet", x.account(4), 0);
        due("one hour", x.pass(1), 1);
        due("camp 0 asks first", camps(x), "0C:1v0s0 1:1v0s0 2:1v0s0 3:1v0s0 4:1v0s0");
        due("thirty hours", x.pass(30), 0);
        due("hours", x.account(10), 33);
        due("marches", x.account(8), 30);
        due("silence behind a march in the same hour", camps(x), "0C:1v0s0 1:1v0s1 2:1v0s1 3:1v0s1 4:1v0s1");
    }

    private static void silenceInHours() {
        CaravanLogs x = after("z0", "p3");
        due("patience of camp 1", camps(x), "0z:0v-s0 1:0v-s3 2:0v-s3 3:0v-s3 4:0v-s3");
        due("the fourth hour", x.pass(1), 1);
        due("camp 1 leads", x.captain(), 1);
        x = after("z0;z1;z2;z3", "p6");
        due("patience of camp 4", camp(x, 4), "4:0v-s6");
        due("the seventh hour", x.pass(1), 0);
        due("its dusk", camp(x, 4), "4:1v4s0");

        // Without roads each asks alone, by its own patience.
        x = after("r01-;r02-;r03-;r04-;r12-;r13-;r14-;r23-;r24-;r34-");
        due("eleven hours", x.pass(11), 0);
        due("silences", camps(x), "0:3v0s2 1:2v1s3 2:2v2s1 3:1v3s5 4:1v4s4");
        due("dusks", x.account(4), 9);

        // Whose turn is later has voted already, and asks no more.
        x = after("p2", "z0;k0;z1;k1");
        due("later starts", camps(x), "0:0v-s0 1:0v-s0 2:0v-s2 3:0v-s2 4:0v-s2");
        x.pass(3);
        due("camps 0 and 2 are due in one hour, camp 0 first", camps(x), "0C:1v0s0 1:1v0s0 2:1v0s0 3:1v0s0 4:1v0s0");
        due("one dusk", x.account(4), 1);
        x = after("p2", "z0;k0;z1;k1;r02-");
        x.pass(3);
        due("unless it is not asked", camps(x), "0C:1v0s0 1:1v0s0 2:1v2s0 3:1v0s0 4:1v0s0");
        due("two dusks", x.account(4), 2);
    }

    private static void hoursOfTwoCaptains() {
        // Camps 0 and 3 are captains; camp 0 meets the greater term at camp 1, so that it is none when its turn is over.
        CaravanLogs x = after("d0;r03-;d3;w3a;w0b");
        due("two captains", x.account(1), 2);
        due("one hour", x.pass(1), 0);
        due("the first march ends", camps(x), "0:2v-s1 1:2v3s1 2:2v3s1 3C:2v3s0 4:2v3s1");
        due("marches", x.account(8), 2);
        due("logs", logs(x), "|b1 a2| a2| a2| a2|");

        // Camp 0 has the greater term and meets camp 3, which does not march then.
        x = after("d3;r03-;d0;r03+;w3a;w0b");
        due("two captains again", x.account(1), 2);
        due("one hour again", x.pass(1), 0);
        due("one march", x.account(8), 1);
        due("camp 3 is a scout", camps(x), "0C:2v0s0 1:2v0s1 2:2v0s1 3:2v-s1 4:2v0s1");
        due("its page is torn", logs(x), "b2| b2| b2| b2| b2|");
    }
}
