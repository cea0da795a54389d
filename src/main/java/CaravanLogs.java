/** Five camps of a caravan that keep one log. What each call does is said in DOC.md, promise by promise. */
public final class CaravanLogs {
    public static final int NONE = -1;
    public static final int BAD = -2;
    public static final int REFUSED = -3;
    public static final int NOTHING = -4;

    private static final int CAMPS = 5;
    private static final int MOST_CAMPS = 3;
    private static final int LOG_LENGTH = 12;
    private static final int LETTERS = 4;
    private static final int LEAST_PATIENCE = 3;
    private static final int LONGEST_PASS = 30;
    private static final int LONGEST_OUTLOOK = 60;
    private static final int LONGEST_TEXT = 70;
    private static final int FIRST_SIGN = 32;
    private static final int LAST_SIGN = 126;
    private static final int MOST_UNDOS = 8;
    private static final int FAULT = -100;

    private static final int CAMP_ASLEEP = 1;
    private static final int CAPTAIN_OR_NONE = 2;
    private static final int LOG_FULL = 3;
    private static final int ONE_CAMP = 4;
    private static final int SO_ALREADY = 5;

    private final Caravan now = new Caravan();
    private final Caravan before = new Caravan();
    private final Caravan trial = new Caravan();
    private final Caravan snapshot = new Caravan();
    private boolean hasSnapshot = false;

    // A ring: the latest change overwrites the oldest one when eight can be undone.
    private final Caravan[] past = new Caravan[MOST_UNDOS];
    private int latest = 0;
    private int undoable = 0;

    private final Commands commands = new Commands();
    private final StringBuilder line = new StringBuilder();

    private int command = NOTHING;
    private int refusedReason = NOTHING;
    private int refusedDetail = NOTHING;
    private int refusedCommand = NOTHING;

    public CaravanLogs() {
        for (int i = 0; i < MOST_UNDOS; i++) {
            past[i] = new Caravan();
        }
    }

    // ---- what happens

    public int dusk(int camp) {
        before.copyFrom(now);
        return finishChange(bringDusk(camp));
    }

    public int write(int camp, int letter) {
        before.copyFrom(now);
        return finishChange(writePage(camp, letter));
    }

    public int march(int camp) {
        before.copyFrom(now);
        return finishChange(sendCaptain(camp));
    }

    public int road(int one, int other, int isOpen) {
        before.copyFrom(now);
        return finishChange(turnRoad(one, other, isOpen));
    }

    public int sleep(int camp, int isAwake) {
        before.copyFrom(now);
        return finishChange(turnCamp(camp, isAwake));
    }

    public int pass(int hours) {
        before.copyFrom(now);
        return finishChange(passHours(hours));
    }

    // ---- what there is

    public int campOf(int camp, int what) {
        if (isNoCamp(camp)) {
            return NONE;
        }
        switch (what) {
            case 0: return now.term[camp];
            case 1: return now.vote[camp];
            case 2: return now.isCaptain[camp];
            case 3: return now.isAwake[camp];
            case 4: return now.pages[camp];
            case 5: return now.settled[camp];
            case 6: return now.silence[camp];
            case 7: return LEAST_PATIENCE + camp;
            case 8: return now.lastTerm(camp);
            default: return BAD;
        }
    }

    public int pageOf(int camp, int place, int what) {
        if (isNoPage(camp, place)) {
            return NONE;
        }
        switch (what) {
            case 0: return now.pageTerm[camp * LOG_LENGTH + place];
            case 1: return now.pageLetter[camp * LOG_LENGTH + place];
            default: return BAD;
        }
    }

    public int reaches(int one, int other) {
        if (isNoCamp(one) || isNoCamp(other)) {
            return NONE;
        }
        return now.isReached(one, other) ? 1 : 0;
    }

    public int matches(int one, int other) {
        if (isNoCamp(one) || isNoCamp(other)) {
            return NONE;
        }
        return now.pagesAlike(one, other);
    }

    public int matchesAgain(int one, int other) {
        if (isNoCamp(one) || isNoCamp(other)) {
            return NONE;
        }
        return now.pagesAlikeByHalves(one, other);
    }

    public int captain() {
        return now.greatestCaptain();
    }

    public int holders(int camp, int place) {
        if (isNoPage(camp, place)) {
            return NONE;
        }
        return now.campsAlike(camp, place + 1);
    }

    public int letters(int letter) {
        if (isNoLetter(letter)) {
            return NONE;
        }
        return now.settledPagesWith(letter);
    }

    // ---- what would be, orders

    public int would(int camp) {
        if (isNoCamp(camp)) {
            return NONE;
        }
        if (now.isAwake[camp] == 0 || now.isCaptain[camp] == 1) {
            return NOTHING;
        }
        trial.copyFrom(now);
        return trial.askForVotes(camp);
    }

    public int captainIn() {
        trial.copyFrom(now);
        for (int hours = 0; hours < LONGEST_OUTLOOK; hours++) {
            if (trial.hasForemostCaptain()) {
                return hours;
            }
            trial.letHourGoBy();
        }
        return trial.hasForemostCaptain() ? LONGEST_OUTLOOK : NOTHING;
    }

    public int ranked(int place) {
        for (int camp = 0; camp < CAMPS; camp++) {
            if (now.campsAheadOf(camp) == place) {
                return camp;
            }
        }
        return NONE;
    }

    // ---- lines, texts, accounts

    public int describe(int camp) {
        if (isNoCamp(camp)) {
            return NONE;
        }
        line.setLength(0);
        line.append(camp);
        if (now.isAwake[camp] == 0) {
            line.append('z');
        }
        if (now.isCaptain[camp] == 1) {
            line.append('C');
        }
        line.append(':').append(now.term[camp]).append('v');
        if (now.vote[camp] == NOTHING) {
            line.append('-');
        } else {
            line.append(now.vote[camp]);
        }
        line.append('s').append(now.silence[camp]);
        return line.length();
    }

    public int show(int camp) {
        if (isNoCamp(camp)) {
            return NONE;
        }
        line.setLength(0);
        appendPages(camp, 0, now.settled[camp]);
        line.append('|');
        appendPages(camp, now.settled[camp], now.pages[camp]);
        return line.length();
    }

    public int sign(int index) {
        if (index < 0 || index >= line.length()) {
            return NONE;
        }
        return line.charAt(index);
    }

    public int append(int code) {
        if (code < FIRST_SIGN || code > LAST_SIGN || commands.text.length() >= LONGEST_TEXT) {
            return BAD;
        }
        commands.text.append((char) code);
        return commands.text.length();
    }

    public int read() {
        before.copyFrom(now);
        int answer = commands.check();
        commands.goToStart();
        for (int i = 0; i < answer; i++) {
            commands.takeCommand();
            command = i;
            int done = carryOutCommand();
            if (done < 0) {
                now.copyFrom(before);
                answer = done == REFUSED ? REFUSED : BAD;
                break;
            }
            commands.takeSign(';');
        }
        command = NOTHING;
        commands.text.setLength(0);
        return finishChange(answer);
    }

    public int refusal(int what) {
        switch (what) {
            case 0: return refusedReason;
            case 1: return refusedDetail;
            case 2: return refusedCommand;
            default: return BAD;
        }
    }

    public int account(int what) {
        switch (what) {
            case 0: return greatestOf(now.term);
            case 1: return sumOf(now.isCaptain);
            case 2: return sumOf(now.isAwake);
            case 3: return now.openRoads();
            case 4: return now.dusks;
            case 5: return now.captainsMade;
            case 6: return now.pagesWritten;
            case 7: return now.pagesTorn;
            case 8: return now.marches;
            case 9: return greatestOf(now.settled);
            case 10: return now.hours;
            case 11: return commands.text.length();
            case 12: return undoable;
            default: return BAD;
        }
    }

    public int isWell() {
        return now.isAllWell() ? 1 : 0;
    }

    public int share() {
        int all = sumOf(now.pages);
        if (all == 0) {
            return NOTHING;
        }
        return bitsOf((float) sumOf(now.settled) / (float) all);
    }

    // ---- undo and snapshot

    public int undo() {
        Caravan old = past[latest];
        if (undoable == 0 || old == null) {
            return NOTHING;
        }
        now.copyFrom(old);
        latest = (latest + MOST_UNDOS - 1) % MOST_UNDOS;
        undoable--;
        return undoable;
    }

    public int save() {
        snapshot.copyFrom(now);
        hasSnapshot = true;
        return now.hours;
    }

    public int restore() {
        if (!hasSnapshot) {
            return NOTHING;
        }
        now.copyFrom(snapshot);
        undoable = 0;
        return now.hours;
    }

    // ---- the changes, as a call or as a command of a text

    private int bringDusk(int camp) {
        if (isNoCamp(camp)) {
            return NONE;
        }
        if (now.isAwake[camp] == 0) {
            return refuse(CAMP_ASLEEP, camp);
        }
        if (now.isCaptain[camp] == 1) {
            return refuse(CAPTAIN_OR_NONE, now.term[camp]);
        }
        return now.askForVotes(camp);
    }

    private int writePage(int camp, int letter) {
        if (isNoCamp(camp) || isNoLetter(letter)) {
            return NONE;
        }
        if (now.isAwake[camp] == 0) {
            return refuse(CAMP_ASLEEP, camp);
        }
        if (now.isCaptain[camp] == 0) {
            return refuse(CAPTAIN_OR_NONE, now.term[camp]);
        }
        if (now.pages[camp] >= LOG_LENGTH) {
            return refuse(LOG_FULL, LOG_LENGTH);
        }
        return now.addPage(camp, letter);
    }

    private int sendCaptain(int camp) {
        if (isNoCamp(camp)) {
            return NONE;
        }
        if (now.isAwake[camp] == 0) {
            return refuse(CAMP_ASLEEP, camp);
        }
        if (now.isCaptain[camp] == 0) {
            return refuse(CAPTAIN_OR_NONE, now.term[camp]);
        }
        now.goRound(camp);
        return now.settled[camp];
    }

    private int turnRoad(int one, int other, int isOpen) {
        if (isNoCamp(one) || isNoCamp(other)) {
            return NONE;
        }
        if (isNoSwitch(isOpen)) {
            return BAD;
        }
        if (one == other) {
            return refuse(ONE_CAMP, one);
        }
        if (now.isOpen[one * CAMPS + other] == isOpen) {
            return refuse(SO_ALREADY, isOpen);
        }
        now.isOpen[one * CAMPS + other] = isOpen;
        now.isOpen[other * CAMPS + one] = isOpen;
        return now.openRoads();
    }

    private int turnCamp(int camp, int isAwake) {
        if (isNoCamp(camp)) {
            return NONE;
        }
        if (isNoSwitch(isAwake)) {
            return BAD;
        }
        if (now.isAwake[camp] == isAwake) {
            return refuse(SO_ALREADY, isAwake);
        }
        now.isAwake[camp] = isAwake;
        now.isCaptain[camp] = 0;
        now.silence[camp] = 0;
        return sumOf(now.isAwake);
    }

    private int passHours(int hours) {
        if (hours < 1 || hours > LONGEST_PASS) {
            return BAD;
        }
        int madeBefore = now.captainsMade;
        for (int i = 0; i < hours; i++) {
            now.letHourGoBy();
        }
        return now.captainsMade - madeBefore;
    }

    private int carryOutCommand() {
        switch (commands.kind) {
            case 'd': return bringDusk(commands.first);
            case 'w': return writePage(commands.first, commands.second);
            case 'm': return sendCaptain(commands.first);
            case 'r': return turnRoad(commands.first, commands.second, commands.third);
            case 'z': return turnCamp(commands.first, 0);
            case 'k': return turnCamp(commands.first, 1);
            default: return passHours(commands.first);
        }
    }

    private int refuse(int reason, int detail) {
        refusedReason = reason;
        refusedDetail = detail;
        refusedCommand = command;
        return REFUSED;
    }

    /** Makes a successful change one that can be undone; a change that failed has left nothing to undo. */
    private int finishChange(int answer) {
        if (answer < 0) {
            return answer;
        }
        latest = (latest + 1) % MOST_UNDOS;
        Caravan slot = past[latest];
        if (slot != null) {
            slot.copyFrom(before);
        }
        undoable = Math.min(undoable + 1, MOST_UNDOS);
        return answer;
    }

    // ---- small helpers

    private static boolean isNoCamp(int camp) {
        return camp < 0 || camp >= CAMPS;
    }

    private static boolean isNoLetter(int letter) {
        return letter < 0 || letter >= LETTERS;
    }

    private static boolean isNoSwitch(int sign) {
        return sign != 0 && sign != 1;
    }

    private boolean isNoPage(int camp, int place) {
        return isNoCamp(camp) || place < 0 || place >= now.pages[camp];
    }

    private void appendPages(int camp, int from, int to) {
        for (int i = camp * LOG_LENGTH + from; i < camp * LOG_LENGTH + to; i++) {
            line.append((char) ('a' + now.pageLetter[i])).append(now.pageTerm[i]);
        }
    }

    private static int sumOf(int[] numbers) {
        int sum = 0;
        for (int number : numbers) {
            sum += number;
        }
        return sum;
    }

    private static int greatestOf(int[] numbers) {
        int greatest = 0;
        for (int number : numbers) {
            greatest = Math.max(greatest, number);
        }
        return greatest;
    }

    /** The bits of a float from 0 to 1, as the library that would tell them is out of bounds here. */
    private static int bitsOf(float share) {
        if (share <= 0.0f) {
            return 0;
        }
        int exponent = 127;
        float fraction = share;
        while (fraction < 1.0f && exponent > 1) {
            fraction *= 2.0f;
            exponent--;
        }
        return (exponent << 23) + (int) ((fraction - 1.0f) * 8388608.0f);
    }

    /** All that changes can change: the camps, their logs, the roads, and what was counted so far. */
    private static final class Caravan {
        final int[] term = new int[CAMPS];
        final int[] vote = new int[CAMPS];
        final int[] isCaptain = new int[CAMPS];
        final int[] isAwake = new int[CAMPS];
        final int[] silence = new int[CAMPS];
        final int[] pages = new int[CAMPS];
        final int[] settled = new int[CAMPS];
        // The page of a camp at a place stands at camp * LOG_LENGTH + place.
        final int[] pageTerm = new int[CAMPS * LOG_LENGTH];
        final int[] pageLetter = new int[CAMPS * LOG_LENGTH];
        // A road stands at one * CAMPS + other and at other * CAMPS + one; none leads from a camp to itself.
        final int[] isOpen = new int[CAMPS * CAMPS];
        int dusks = 0;
        int captainsMade = 0;
        int pagesWritten = 0;
        int pagesTorn = 0;
        int marches = 0;
        int hours = 0;

        Caravan() {
            for (int camp = 0; camp < CAMPS; camp++) {
                vote[camp] = NOTHING;
                isAwake[camp] = 1;
                for (int other = 0; other < CAMPS; other++) {
                    isOpen[camp * CAMPS + other] = camp == other ? 0 : 1;
                }
            }
        }

        void copyFrom(Caravan other) {
            System.arraycopy(other.term, 0, term, 0, CAMPS);
            System.arraycopy(other.vote, 0, vote, 0, CAMPS);
            System.arraycopy(other.isCaptain, 0, isCaptain, 0, CAMPS);
            System.arraycopy(other.isAwake, 0, isAwake, 0, CAMPS);
            System.arraycopy(other.silence, 0, silence, 0, CAMPS);
            System.arraycopy(other.pages, 0, pages, 0, CAMPS);
            System.arraycopy(other.settled, 0, settled, 0, CAMPS);
            System.arraycopy(other.pageTerm, 0, pageTerm, 0, CAMPS * LOG_LENGTH);
            System.arraycopy(other.pageLetter, 0, pageLetter, 0, CAMPS * LOG_LENGTH);
            System.arraycopy(other.isOpen, 0, isOpen, 0, CAMPS * CAMPS);
            dusks = other.dusks;
            captainsMade = other.captainsMade;
            pagesWritten = other.pagesWritten;
            pagesTorn = other.pagesTorn;
            marches = other.marches;
            hours = other.hours;
        }

        // -- dusk

        /** Answers how many voted for the camp, itself included, or 0 if a greater term was met. */
        int askForVotes(int camp) {
            dusks++;
            term[camp]++;
            vote[camp] = camp;
            silence[camp] = 0;
            int votes = 1;
            for (int asked = 0; asked < CAMPS; asked++) {
                if (!isReached(camp, asked)) {
                    continue;
                }
                if (term[asked] > term[camp]) {
                    takeTerm(camp, term[asked]);
                    return 0;
                }
                if (term[asked] < term[camp]) {
                    takeTerm(asked, term[camp]);
                }
                if (vote[asked] == NOTHING && isAsFar(camp, asked)) {
                    vote[asked] = camp;
                    silence[asked] = 0;
                    votes++;
                }
            }
            if (votes >= MOST_CAMPS) {
                isCaptain[camp] = 1;
                captainsMade++;
            }
            return votes;
        }

        /** A greater term makes every camp that takes it a scout who has not voted yet. */
        private void takeTerm(int camp, int greaterTerm) {
            term[camp] = greaterTerm;
            vote[camp] = NOTHING;
            isCaptain[camp] = 0;
        }

        // -- pages and marches

        /** Answers how many pages the log has then; the caller has seen that there is room. */
        int addPage(int captain, int letter) {
            int end = captain * LOG_LENGTH + pages[captain];
            pageTerm[end] = term[captain];
            pageLetter[end] = letter;
            pages[captain]++;
            pagesWritten++;
            return pages[captain];
        }

        void goRound(int captain) {
            marches++;
            int alike = 1;
            for (int other = 0; other < CAMPS; other++) {
                if (!isReached(captain, other)) {
                    continue;
                }
                if (term[other] > term[captain]) {
                    takeTerm(captain, term[other]);
                    return;
                }
                visit(captain, other);
                alike++;
            }
            settle(captain, alike);
        }

        private void visit(int captain, int other) {
            if (term[other] < term[captain]) {
                takeTerm(other, term[captain]);
            }
            isCaptain[other] = 0;
            silence[other] = 0;
            int alike = pagesAlike(captain, other);
            if (alike < pages[captain] && alike < pages[other]) {
                pagesTorn += pages[other] - alike;
                pages[other] = alike;
            }
            for (int place = pages[other]; place < pages[captain]; place++) {
                pageTerm[other * LOG_LENGTH + place] = pageTerm[captain * LOG_LENGTH + place];
                pageLetter[other * LOG_LENGTH + place] = pageLetter[captain * LOG_LENGTH + place];
            }
            pages[other] = Math.max(pages[other], pages[captain]);
        }

        /** Each log that was visited begins with all pages of the captain now, so each of these is had alike. */
        private void settle(int captain, int alike) {
            if (alike >= MOST_CAMPS && lastTerm(captain) == term[captain]) {
                settled[captain] = Math.max(settled[captain], pages[captain]);
            }
            for (int other = 0; other < CAMPS; other++) {
                if (isReached(captain, other)) {
                    settled[other] = Math.max(settled[other], settled[captain]);
                }
            }
        }

        // -- hours

        void letHourGoBy() {
            hours++;
            for (int camp = 0; camp < CAMPS; camp++) {
                if (isCaptain[camp] == 1) {
                    goRound(camp);
                }
            }
            for (int camp = 0; camp < CAMPS; camp++) {
                if (isWaiting(camp)) {
                    silence[camp]++;
                }
            }
            for (int camp = 0; camp < CAMPS; camp++) {
                if (isWaiting(camp) && silence[camp] >= LEAST_PATIENCE + camp) {
                    askForVotes(camp);
                }
            }
        }

        private boolean isWaiting(int camp) {
            return isAwake[camp] == 1 && isCaptain[camp] == 0;
        }

        // -- questions

        boolean isReached(int one, int other) {
            return isAwake[one] == 1 && isAwake[other] == 1 && isOpen[one * CAMPS + other] == 1;
        }

        int openRoads() {
            return sumOf(isOpen) / 2;
        }

        int lastTerm(int camp) {
            return pages[camp] == 0 ? 0 : pageTerm[camp * LOG_LENGTH + pages[camp] - 1];
        }

        boolean isAsFar(int one, int other) {
            int lastOfOne = lastTerm(one);
            int lastOfOther = lastTerm(other);
            return lastOfOne > lastOfOther || lastOfOne == lastOfOther && pages[one] >= pages[other];
        }

        int pagesAlike(int one, int other) {
            int shorter = pages[one] < pages[other] ? pages[one] : pages[other];
            for (int place = 0; place < shorter; place++) {
                int mine = one * LOG_LENGTH + place;
                int yours = other * LOG_LENGTH + place;
                if (pageTerm[mine] != pageTerm[yours] || pageLetter[mine] != pageLetter[yours]) {
                    return place;
                }
            }
            return shorter;
        }

        int pagesAlikeByHalves(int one, int other) {
            int alike = 0;
            int unlike = Math.min(pages[one], pages[other]) + 1;
            for (int turn = 0; turn < LOG_LENGTH && unlike - alike > 1; turn++) {
                int half = (alike + unlike) / 2;
                if (pageTerm[one * LOG_LENGTH + half - 1] == pageTerm[other * LOG_LENGTH + half - 1]) {
                    alike = half;
                } else {
                    unlike = half;
                }
            }
            return alike;
        }

        int campsAlike(int camp, int firstPages) {
            int count = 0;
            for (int other = 0; other < CAMPS; other++) {
                if (pagesAlike(camp, other) >= firstPages) {
                    count++;
                }
            }
            return count;
        }

        int settledPagesWith(int letter) {
            int most = 0;
            for (int camp = 1; camp < CAMPS; camp++) {
                if (settled[camp] > settled[most]) {
                    most = camp;
                }
            }
            int count = 0;
            for (int place = 0; place < settled[most]; place++) {
                if (pageLetter[most * LOG_LENGTH + place] == letter) {
                    count++;
                }
            }
            return count;
        }

        int greatestCaptain() {
            int found = NOTHING;
            int greatest = -1;
            for (int camp = 0; camp < CAMPS; camp++) {
                if (isCaptain[camp] == 1 && term[camp] > greatest) {
                    found = camp;
                    greatest = term[camp];
                }
            }
            return found;
        }

        boolean hasForemostCaptain() {
            int captain = greatestCaptain();
            if (captain == NOTHING) {
                return false;
            }
            for (int camp = 0; camp < CAMPS; camp++) {
                if (isAwake[camp] == 1 && term[camp] > term[captain]) {
                    return false;
                }
            }
            return true;
        }

        int campsAheadOf(int camp) {
            int count = 0;
            for (int other = 0; other < CAMPS; other++) {
                if (isAhead(other, camp)) {
                    count++;
                }
            }
            return count;
        }

        private boolean isAhead(int one, int other) {
            boolean isFar = isAsFar(one, other);
            if (isFar != isAsFar(other, one)) {
                return isFar;
            }
            if (settled[one] != settled[other]) {
                return settled[one] > settled[other];
            }
            return one < other;
        }

        boolean isAllWell() {
            for (int camp = 0; camp < CAMPS; camp++) {
                if (campsAlike(camp, settled[camp]) < MOST_CAMPS) {
                    return false;
                }
                for (int other = 0; other < camp; other++) {
                    if (!areWellTogether(camp, other)) {
                        return false;
                    }
                }
            }
            return true;
        }

        private boolean areWellTogether(int one, int other) {
            int alike = pagesAlike(one, other);
            if (alike < Math.min(settled[one], settled[other]) || alike != pagesAlikeByHalves(one, other)) {
                return false;
            }
            return isCaptain[one] == 0 || isCaptain[other] == 0 || term[one] != term[other];
        }
    }

    /** The text of commands, and the command in it that was taken last. */
    private static final class Commands {
        final StringBuilder text = new StringBuilder();
        private int at = 0;
        int kind = 0;
        int first = 0;
        int second = 0;
        int third = 0;

        /** Answers the number of commands, or -100 minus the fault position. */
        int check() {
            goToStart();
            for (int count = 1; count <= LONGEST_TEXT && takeCommand(); count++) {
                if (!takeSign(';')) {
                    return at == text.length() ? count : FAULT - at;
                }
            }
            return FAULT - at;
        }

        void goToStart() {
            at = 0;
        }

        /** Goes on behind each character that fits, so that where it stops is the fault. */
        boolean takeCommand() {
            kind = peek();
            switch (kind) {
                case 'd': case 'm': case 'z': case 'k':
                    at++;
                    return takeDigit();
                case 'w':
                    at++;
                    return takeDigit() && takeLetter();
                case 'r':
                    at++;
                    return takeRoad();
                case 'p':
                    at++;
                    return takeNumber();
                default:
                    return false;
            }
        }

        boolean takeSign(int sign) {
            if (peek() != sign) {
                return false;
            }
            at++;
            return true;
        }

        private int peek() {
            return at >= 0 && at < text.length() ? text.charAt(at) : NONE;
        }

        private boolean isAtDigit() {
            return peek() >= '0' && peek() <= '9';
        }

        private boolean takeDigit() {
            if (!isAtDigit()) {
                return false;
            }
            first = peek() - '0';
            at++;
            return true;
        }

        private boolean takeLetter() {
            if (peek() < 'a' || peek() > 'd') {
                return false;
            }
            second = peek() - 'a';
            at++;
            return true;
        }

        private boolean takeNumber() {
            if (!takeDigit()) {
                return false;
            }
            if (isAtDigit()) {
                first = first * 10 + peek() - '0';
                at++;
            }
            return true;
        }

        private boolean takeRoad() {
            if (!takeDigit()) {
                return false;
            }
            int one = first;
            if (!takeDigit()) {
                return false;
            }
            second = first;
            first = one;
            third = peek() == '+' ? 1 : 0;
            return takeSign('+') || takeSign('-');
        }
    }
}
