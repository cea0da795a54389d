import java.util.ArrayDeque;
import java.util.ArrayList;
import java.util.Deque;
import java.util.List;

/** The document's words a second time, with lists and texts, to compare long runs with. */
final class Model {
    static final int NONE = -1;
    static final int BAD = -2;
    static final int REFUSED = -3;
    static final int NOTHING = -4;

    private static final class Camp {
        int term = 0;
        int vote = NOTHING;
        boolean leads = false;
        boolean awake = true;
        int silence = 0;
        int settled = 0;
        /** Each page is its letter and its term, as the line about a log tells it. */
        List<String> log = new ArrayList<>();

        Camp copy() {
            Camp c = new Camp();
            c.term = term;
            c.vote = vote;
            c.leads = leads;
            c.awake = awake;
            c.silence = silence;
            c.settled = settled;
            c.log = new ArrayList<>(log);
            return c;
        }

        int lastTerm() {
            return log.isEmpty() ? 0 : termOf(log.get(log.size() - 1));
        }
    }

    private static final class World {
        List<Camp> camps = new ArrayList<>();
        List<String> closed = new ArrayList<>();
        int[] counts = new int[6];

        World copy() {
            World w = new World();
            for (Camp c : camps) {
                w.camps.add(c.copy());
            }
            w.closed = new ArrayList<>(closed);
            w.counts = counts.clone();
            return w;
        }
    }

    private World w = new World();
    private final Deque<World> past = new ArrayDeque<>();
    private World saved = null;
    private String text = "";
    private String line = "";
    private int[] reasons = {NOTHING, NOTHING, NOTHING};
    private int command = NOTHING;

    Model() {
        for (int i = 0; i < 5; i++) {
            w.camps.add(new Camp());
        }
    }

    private static int termOf(String page) {
        return Integer.parseInt(page.substring(1));
    }

    private boolean isCamp(int camp) {
        return 0 <= camp && camp < 5;
    }

    private static String roadOf(int one, int other) {
        return Math.min(one, other) + "-" + Math.max(one, other);
    }

    private boolean isReached(int one, int other) {
        return one != other && w.camps.get(one).awake && w.camps.get(other).awake
            && !w.closed.contains(roadOf(one, other));
    }

    private boolean isAsFar(Camp one, Camp other) {
        if (one.lastTerm() != other.lastTerm()) {
            return one.lastTerm() > other.lastTerm();
        }
        return one.log.size() >= other.log.size();
    }

    private int refuse(int reason, int detail) {
        reasons = new int[] {reason, detail, command};
        return REFUSED;
    }

    /** Does one of the seven changes; the text is read with "read". */
    int change(String call, int... numbers) {
        World before = w.copy();
        int answer = call.equals("read") ? readText() : perform(call, numbers);
        if (answer < 0) {
            w = before;
        } else {
            past.push(before);
            if (past.size() > 8) {
                past.removeLast();
            }
        }
        return answer;
    }

    private int perform(String call, int... n) {
        switch (call) {
            case "dusk": return dusk(n[0]);
            case "write": return write(n[0], n[1]);
            case "march": return march(n[0]);
            case "road": return road(n[0], n[1], n[2]);
            case "sleep": return sleep(n[0], n[1]);
            default: return pass(n[0]);
        }
    }

    private int dusk(int camp) {
        if (!isCamp(camp)) {
            return NONE;
        }
        Camp c = w.camps.get(camp);
        return !c.awake ? refuse(1, camp) : c.leads ? refuse(2, c.term) : votes(camp);
    }

    private int votes(int camp) {
        Camp c = w.camps.get(camp);
        w.counts[0]++;
        c.term += 1;
        c.vote = camp;
        c.silence = 0;
        List<Integer> voters = new ArrayList<>(List.of(camp));
        for (int i = 0; i < 5; i++) {
            Camp o = w.camps.get(i);
            if (!isReached(camp, i)) {
                continue;
            }
            if (o.term > c.term) {
                c.term = o.term;
                c.vote = NOTHING;
                return 0;
            } else if (o.term < c.term) {
                o.term = c.term;
                o.vote = NOTHING;
                o.leads = false;
            }
            if (o.vote == NOTHING && isAsFar(c, o)) {
                o.vote = camp;
                o.silence = 0;
                voters.add(i);
            }
        }
        if (voters.size() >= 3) {
            c.leads = true;
            w.counts[1]++;
        }
        return voters.size();
    }

    private int write(int camp, int letter) {
        if (!isCamp(camp) || letter < 0 || letter > 3) {
            return NONE;
        }
        Camp c = w.camps.get(camp);
        if (!c.awake) {
            return refuse(1, camp);
        }
        if (!c.leads) {
            return refuse(2, c.term);
        }
        if (c.log.size() == 12) {
            return refuse(3, 12);
        }
        c.log.add("abcd".charAt(letter) + "" + c.term);
        w.counts[2]++;
        return c.log.size();
    }

    private int march(int camp) {
        if (!isCamp(camp)) {
            return NONE;
        }
        Camp c = w.camps.get(camp);
        if (!c.awake) {
            return refuse(1, camp);
        }
        if (!c.leads) {
            return refuse(2, c.term);
        }
        go(camp);
        return c.settled;
    }

    private void go(int camp) {
        Camp c = w.camps.get(camp);
        w.counts[4]++;
        List<Camp> visited = new ArrayList<>();
        for (int i = 0; i < 5; i++) {
            Camp o = w.camps.get(i);
            if (!isReached(camp, i)) {
                continue;
            }
            if (o.term > c.term) {
                c.term = o.term;
                c.vote = NOTHING;
                c.leads = false;
                return;
            }
            if (o.term < c.term) {
                o.term = c.term;
                o.vote = NOTHING;
            }
            o.leads = false;
            o.silence = 0;
            for (int p = 0; p < Math.min(c.log.size(), o.log.size()); p++) {
                if (!c.log.get(p).equals(o.log.get(p))) {
                    while (o.log.size() > p) {
                        o.log.remove(o.log.size() - 1);
                        w.counts[3]++;
                    }
                }
            }
            while (o.log.size() < c.log.size()) {
                o.log.add(c.log.get(o.log.size()));
            }
            visited.add(o);
        }
        for (int n = c.log.size(); n > c.settled; n--) {
            int have = 1;
            for (Camp o : visited) {
                if (o.log.size() >= n && o.log.subList(0, n).equals(c.log.subList(0, n))) {
                    have++;
                }
            }
            if (have >= 3 && termOf(c.log.get(n - 1)) == c.term) {
                c.settled = n;
            }
        }
        for (Camp o : visited) {
            o.settled = Math.max(o.settled, c.settled);
        }
    }

    private int road(int one, int other, int isOpen) {
        if (!isCamp(one) || !isCamp(other)) {
            return NONE;
        }
        if (isOpen < 0 || isOpen > 1) {
            return BAD;
        }
        if (one == other) {
            return refuse(4, one);
        }
        boolean isClosed = w.closed.contains(roadOf(one, other));
        if (isClosed == (isOpen == 0)) {
            return refuse(5, isOpen);
        }
        if (isClosed) {
            w.closed.remove(roadOf(one, other));
        } else {
            w.closed.add(roadOf(one, other));
        }
        return 10 - w.closed.size();
    }

    private int sleep(int camp, int isAwake) {
        if (!isCamp(camp)) {
            return NONE;
        }
        if (isAwake < 0 || isAwake > 1) {
            return BAD;
        }
        Camp c = w.camps.get(camp);
        if (c.awake == (isAwake == 1)) {
            return refuse(5, isAwake);
        }
        c.awake = !c.awake;
        c.leads = false;
        c.silence = 0;
        return account(2);
    }

    private int pass(int hours) {
        if (hours < 1 || hours > 30) {
            return BAD;
        }
        int before = w.counts[1];
        for (int i = 0; i < hours; i++) {
            hour();
        }
        return w.counts[1] - before;
    }

    private void hour() {
        w.counts[5]++;
        for (int i = 0; i < 5; i++) {
            if (w.camps.get(i).leads) {
                go(i);
            }
        }
        for (Camp c : w.camps) {
            if (c.awake && !c.leads) {
                c.silence++;
            }
        }
        for (int i = 0; i < 5; i++) {
            Camp c = w.camps.get(i);
            if (c.awake && !c.leads && c.silence >= 3 + i) {
                votes(i);
            }
        }
    }

    private int readText() {
        String read = text;
        text = "";
        int fault = faultOf(read);
        if (fault >= 0) {
            return -100 - fault;
        }
        String[] commands = read.split(";");
        for (int i = 0; i < commands.length; i++) {
            command = i;
            int answer = perform(commands[i]);
            command = NOTHING;
            if (answer < 0) {
                return answer == REFUSED ? REFUSED : BAD;
            }
        }
        return commands.length;
    }

    private int perform(String command) {
        int first = command.charAt(1) - '0';
        switch (command.charAt(0)) {
            case 'd': return perform("dusk", first);
            case 'w': return perform("write", first, command.charAt(2) - 'a');
            case 'm': return perform("march", first);
            case 'r': return perform("road", first, command.charAt(2) - '0', command.charAt(3) == '+' ? 1 : 0);
            case 'z': return perform("sleep", first, 0);
            case 'k': return perform("sleep", first, 1);
            default: return perform("pass", Integer.parseInt(command.substring(1)));
        }
    }

    /** The first length at which the beginning of the text can't be continued, by a pattern of all beginnings. */
    private static int faultOf(String read) {
        String whole = "([dmzk][0-9]|w[0-9][a-d]|r[0-9][0-9][-+]|p[0-9][0-9]?)";
        String begun = "([dmzkwrp]|w[0-9]|r[0-9]|r[0-9][0-9])?";
        for (int length = 1; length <= read.length(); length++) {
            if (!read.substring(0, length).matches("(" + whole + ";)*(" + begun + "|" + whole + ")")) {
                return length - 1;
            }
        }
        return read.matches(whole + "(;" + whole + ")*") ? -1 : read.length();
    }

    int campOf(int camp, int what) {
        if (!isCamp(camp)) {
            return NONE;
        }
        Camp c = w.camps.get(camp);
        int[] all = {c.term, c.vote, c.leads ? 1 : 0, c.awake ? 1 : 0, c.log.size(), c.settled, c.silence, 3 + camp,
            c.lastTerm()};
        return what < 0 || what > 8 ? BAD : all[what];
    }

    int pageOf(int camp, int place, int what) {
        if (!isCamp(camp) || place < 0 || place >= w.camps.get(camp).log.size()) {
            return NONE;
        }
        String page = w.camps.get(camp).log.get(place);
        return what == 0 ? termOf(page) : what == 1 ? page.charAt(0) - 'a' : BAD;
    }

    int reaches(int one, int other) {
        return !isCamp(one) || !isCamp(other) ? NONE : isReached(one, other) ? 1 : 0;
    }

    int matches(int one, int other) {
        if (!isCamp(one) || !isCamp(other)) {
            return NONE;
        }
        List<String> a = w.camps.get(one).log;
        List<String> b = w.camps.get(other).log;
        int n = Math.min(a.size(), b.size());
        while (!a.subList(0, n).equals(b.subList(0, n))) {
            n--;
        }
        return n;
    }

    int captain() {
        int found = NOTHING;
        for (int i = 0; i < 5; i++) {
            if (w.camps.get(i).leads && (found == NOTHING || w.camps.get(i).term > w.camps.get(found).term)) {
                found = i;
            }
        }
        return found;
    }

    int holders(int camp, int place) {
        if (pageOf(camp, place, 0) < 0) {
            return NONE;
        }
        int count = 0;
        for (int i = 0; i < 5; i++) {
            count += matches(camp, i) > place ? 1 : 0;
        }
        return count;
    }

    int letters(int letter) {
        if (letter < 0 || letter > 3) {
            return NONE;
        }
        Camp most = w.camps.get(0);
        for (Camp c : w.camps) {
            most = c.settled > most.settled ? c : most;
        }
        int count = 0;
        for (String page : most.log.subList(0, most.settled)) {
            count += page.charAt(0) == 'a' + letter ? 1 : 0;
        }
        return count;
    }

    int would(int camp) {
        if (!isCamp(camp)) {
            return NONE;
        }
        Camp c = w.camps.get(camp);
        if (!c.awake || c.leads) {
            return NOTHING;
        }
        World real = w;
        w = w.copy();
        int answer = votes(camp);
        w = real;
        return answer;
    }

    int captainIn() {
        World real = w;
        w = w.copy();
        int answer = NOTHING;
        for (int hours = 0; hours <= 60 && answer == NOTHING; hours++) {
            int greatest = 0;
            for (Camp c : w.camps) {
                greatest = c.awake ? Math.max(greatest, c.term) : greatest;
            }
            for (Camp c : w.camps) {
                answer = c.leads && c.term == greatest ? hours : answer;
            }
            hour();
        }
        w = real;
        return answer;
    }

    int ranked(int place) {
        List<Integer> order = new ArrayList<>(List.of(0, 1, 2, 3, 4));
        order.sort((a, b) -> {
            Camp one = w.camps.get(a);
            Camp other = w.camps.get(b);
            if (one.lastTerm() != other.lastTerm()) {
                return other.lastTerm() - one.lastTerm();
            }
            return one.log.size() != other.log.size() ? other.log.size() - one.log.size() : other.settled - one.settled;
        });
        return isCamp(place) ? order.get(place) : NONE;
    }

    int describe(int camp) {
        if (!isCamp(camp)) {
            return NONE;
        }
        Camp c = w.camps.get(camp);
        line = camp + (c.awake ? "" : "z") + (c.leads ? "C" : "") + ":" + c.term + "v" + (c.vote < 0 ? "-" : c.vote)
            + "s" + c.silence;
        return line.length();
    }

    int show(int camp) {
        if (!isCamp(camp)) {
            return NONE;
        }
        Camp c = w.camps.get(camp);
        line = String.join("", c.log.subList(0, c.settled)) + "|" + String.join("", c.log.subList(c.settled, c.log.size()));
        return line.length();
    }

    int sign(int index) {
        return index < 0 || index >= line.length() ? NONE : line.charAt(index);
    }

    int append(int code) {
        if (code < 32 || code > 126 || text.length() == 70) {
            return BAD;
        }
        text += (char) code;
        return text.length();
    }

    int refusal(int what) {
        return what < 0 || what > 2 ? BAD : reasons[what];
    }

    int account(int what) {
        int greatest = 0;
        int leading = 0;
        int awake = 0;
        int settled = 0;
        for (Camp c : w.camps) {
            greatest = Math.max(greatest, c.term);
            leading += c.leads ? 1 : 0;
            awake += c.awake ? 1 : 0;
            settled = Math.max(settled, c.settled);
        }
        int[] all = {greatest, leading, awake, 10 - w.closed.size(), w.counts[0], w.counts[1], w.counts[2], w.counts[3],
            w.counts[4], settled, w.counts[5], text.length(), past.size()};
        return what < 0 || what > 12 ? BAD : all[what];
    }

    int isWell() {
        for (int one = 0; one < 5; one++) {
            Camp c = w.camps.get(one);
            if (c.settled > 0 && holders(one, c.settled - 1) < 3) {
                return 0;
            }
            for (int other = one + 1; other < 5; other++) {
                Camp o = w.camps.get(other);
                if (matches(one, other) < Math.min(c.settled, o.settled) || c.leads && o.leads && c.term == o.term) {
                    return 0;
                }
            }
        }
        return 1;
    }

    int share() {
        int all = 0;
        int settled = 0;
        for (Camp c : w.camps) {
            all += c.log.size();
            settled += c.settled;
        }
        return all == 0 ? NOTHING : Float.floatToIntBits((float) settled / (float) all);
    }

    int undo() {
        if (past.isEmpty()) {
            return NOTHING;
        }
        w = past.pop();
        return past.size();
    }

    int save() {
        saved = w.copy();
        return w.counts[5];
    }

    int restore() {
        if (saved == null) {
            return NOTHING;
        }
        w = saved.copy();
        past.clear();
        return w.counts[5];
    }
}
