/**
 * All promises: long runs of calls, each answer compared with the model's. The runs are the same each time.
 * Each answer that is compared is one call, and no run has more calls than the document promises.
 */
final class RandomRunsTest extends Checks {
    private static final int RUNS = 8000;
    private static final int CALLS = 512;
    private static final int CALLS_OF_A_TEXT = 75;
    private static final int CALLS_TO_LOOK_AT_ALL = 240;

    private static long seed = 1;

    public static void main(String[] args) {
        for (int run = 0; run < RUNS && !isWrong(); run++) {
            seed = 7919L * run + 1;
            runOnce(run);
        }
        end();
    }

    private static int below(int bound) {
        seed = seed * 6364136223846793005L + 1442695040888963407L;
        return (int) Long.remainderUnsigned(seed >>> 33, bound);
    }

    /** Mostly a camp, now and then none. */
    private static int someCamp() {
        return below(40) == 0 ? below(7) - 1 : below(5);
    }

    private static void runOnce(int run) {
        CaravanLogs x = new CaravanLogs();
        Model m = new Model();
        int style = run % 5;
        boolean isLookedAt = run % 2 == 0;
        int first = lookedSoFar();
        int calls = 0;
        while (calls <= CALLS - CALLS_OF_A_TEXT - (isLookedAt ? CALLS_TO_LOOK_AT_ALL : 0)) {
            String what = "run " + run + ", call " + calls + ", ";
            if (below(100) < 55) {
                change(what, x, m, style);
            } else {
                look(what, x, m);
            }
            calls = lookedSoFar() - first;
        }
        if (isLookedAt) {
            lookAtAll("run " + run + ", at the end, ", x, m, run % 5);
        }
        if (lookedSoFar() - first > CALLS) {
            due("run " + run + ", its calls", lookedSoFar() - first, CALLS);
        }
    }

    private static void change(String what, CaravanLogs x, Model m, int style) {
        int camp = someCamp();
        int leader = m.captain() >= 0 && below(5) != 0 ? m.captain() : camp;
        int roll = below(100);
        if (roll < 12) {
            due(what + "dusk " + camp, x.dusk(camp), m.change("dusk", camp));
        } else if (roll < 30) {
            int letter = below(30) == 0 ? below(6) - 1 : below(4);
            due(what + "write " + leader, x.write(leader, letter), m.change("write", leader, letter));
        } else if (roll < 45) {
            due(what + "march " + leader, x.march(leader), m.change("march", leader));
        } else if (roll < 60) {
            int other = someCamp();
            int isOpen = below(30) == 0 ? below(4) - 1 : below(style + 2) == 0 ? 0 : 1;
            due(what + "road " + camp + other + isOpen, x.road(camp, other, isOpen),
                m.change("road", camp, other, isOpen));
        } else if (roll < 70) {
            int isAwake = below(30) == 0 ? below(4) - 1 : below(3) == 0 ? 0 : 1;
            due(what + "sleep " + camp + isAwake, x.sleep(camp, isAwake), m.change("sleep", camp, isAwake));
        } else if (roll < 80) {
            int hours = below(20) == 0 ? below(34) - 1 : 1 + below(8);
            due(what + "pass " + hours, x.pass(hours), m.change("pass", hours));
        } else if (roll < 90) {
            text(what, x, m);
        } else if (roll < 97) {
            due(what + "undo", x.undo(), m.undo());
        } else if (roll < 99) {
            due(what + "save", x.save(), m.save());
        } else {
            due(what + "restore", x.restore(), m.restore());
        }
    }

    private static void text(String what, CaravanLogs x, Model m) {
        StringBuilder text = new StringBuilder();
        int commands = 1 + below(below(8) == 0 ? 25 : 4);
        for (int i = 0; i < commands; i++) {
            int camp = m.captain() >= 0 && below(3) != 0 ? m.captain() : below(below(60) == 0 ? 10 : 5);
            text.append(i == 0 ? "" : ";");
            switch (below(8)) {
                case 0: text.append('d').append(below(5)); break;
                case 1: case 2: text.append('w').append(camp).append((char) ('a' + below(4))); break;
                case 3: text.append('m').append(camp); break;
                case 4: text.append('r').append(camp).append(below(5)).append(below(2) == 0 ? '-' : '+'); break;
                case 5: text.append('z').append(below(5)); break;
                case 6: text.append('k').append(below(5)); break;
                default: text.append('p').append(below(20) == 0 ? below(100) : 1 + below(12)); break;
            }
        }
        if (below(8) == 0) {
            text.setCharAt(below(text.length()), "dwmrzkp;0123456789abcd+- e,".charAt(below(27)));
        }
        if (below(12) == 0) {
            text.setLength(below(text.length() + 1));
        }
        text.setLength(Math.min(text.length(), 71));
        for (int i = 0; i < text.length(); i++) {
            int code = text.charAt(i);
            due(what + "append " + code, x.append(code), m.append(code));
        }
        due(what + "read " + text, x.read(), m.change("read"));
        for (int i = 0; i < 3; i++) {
            due(what + "refusal " + i + " after " + text, x.refusal(i), m.refusal(i));
        }
    }

    private static void look(String what, CaravanLogs x, Model m) {
        int one = someCamp();
        int other = someCamp();
        int number = below(16) - 1;
        switch (below(18)) {
            case 0: due(what + "campOf", x.campOf(one, number), m.campOf(one, number)); break;
            case 1: due(what + "pageOf", x.pageOf(one, number, other), m.pageOf(one, number, other)); break;
            case 2: due(what + "reaches", x.reaches(one, other), m.reaches(one, other)); break;
            case 3: due(what + "matches", x.matches(one, other), m.matches(one, other)); break;
            case 4: due(what + "matchesAgain", x.matchesAgain(one, other), m.matches(one, other)); break;
            case 5: due(what + "captain", x.captain(), m.captain()); break;
            case 6: due(what + "holders", x.holders(one, number), m.holders(one, number)); break;
            case 7: due(what + "letters", x.letters(other), m.letters(other)); break;
            case 8: due(what + "would", x.would(one), m.would(one)); break;
            case 9: due(what + "captainIn", x.captainIn(), m.captainIn()); break;
            case 10: due(what + "ranked", x.ranked(one), m.ranked(one)); break;
            case 11: due(what + "describe", x.describe(one), m.describe(one)); break;
            case 12: due(what + "show", x.show(one), m.show(one)); break;
            case 13: due(what + "sign", x.sign(number), m.sign(number)); break;
            case 14: due(what + "refusal", x.refusal(number), m.refusal(number)); break;
            case 15: due(what + "account", x.account(number), m.account(number)); break;
            case 16: due(what + "isWell", x.isWell(), m.isWell()); break;
            default: due(what + "share", x.share(), m.share()); break;
        }
    }

    private static void lookAtAll(String what, CaravanLogs x, Model m, int lineOf) {
        due(what + "isWell", x.isWell(), 1);
        due(what + "captainIn", x.captainIn(), m.captainIn());
        due(what + "share", x.share(), m.share());
        for (int i = 0; i < 13; i++) {
            due(what + "account " + i, x.account(i), m.account(i));
            due(what + "letters " + i, x.letters(i), m.letters(i));
        }
        for (int camp = 0; camp < 5; camp++) {
            due(what + "would " + camp, x.would(camp), m.would(camp));
            due(what + "ranked " + camp, x.ranked(camp), m.ranked(camp));
            for (int other = 0; other < 5; other++) {
                due(what + "reaches " + camp + other, x.reaches(camp, other), m.reaches(camp, other));
                due(what + "matches " + camp + other, x.matches(camp, other), m.matches(camp, other));
                due(what + "matchesAgain " + camp + other, x.matchesAgain(camp, other), m.matches(camp, other));
            }
            for (int place = 0; place <= 12; place++) {
                due(what + "holders " + camp + " " + place, x.holders(camp, place), m.holders(camp, place));
            }
        }
        dueLine(what + "describe " + lineOf, x, m, x.describe(lineOf), m.describe(lineOf));
        dueLine(what + "show " + lineOf, x, m, x.show(lineOf), m.show(lineOf));
    }

    private static void dueLine(String what, CaravanLogs x, Model m, int got, int want) {
        due(what, got, want);
        for (int i = 0; i < want; i++) {
            due(what + ", sign " + i, x.sign(i), m.sign(i));
        }
    }
}
