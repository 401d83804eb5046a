/**
 * A printing shop's job board: jobs in an order, the press that prints them one behind the other,
 * and the racks on which their sheets dry. What each call answers is told by ../shared/DOC.md.
 *
 * <p>All rows are made in the constructor and used again, so no call makes an object.
 */
public final class PrintRacks {
    public static final int NO_SUCH = -1, BAD_VALUE = -2, BAD_TEXT = -3, TOO_MANY = -4, NOT_POSSIBLE = -5, NONE = -6;
    public static final int PLATE = 0, WASH = 1, SHADE = 2, RUN = 3, DRY = 4, RACKS = 5, HOLD = 6;

    private static final int SETTINGS = 7;
    private static final int[] LEAST_SETTING = {0, 0, 0, 1, 0, 4, 1};
    private static final int[] MOST_SETTING = {60, 60, 9, 20, 500, 20, 10};
    private static final int[] FIRST_SETTING = {10, 15, 2, 4, 60, 8, 5};

    private static final int MAX_JOBS = 12;
    private static final int MAX_DIGIT = 9;
    private static final int MAX_HUNDREDS = 20;
    private static final int MAX_DUE = 3000;
    private static final int MAX_MINUTE = 99999;

    private static final int JOB_PLATE = 0, JOB_SHADE = 1, JOB_HUNDREDS = 2, JOB_DUE = 3;
    private static final int JOB_FIELDS = 4;
    private static final int[] FIELD_OF_RULE = {JOB_DUE, JOB_SHADE, JOB_PLATE, JOB_HUNDREDS};
    private static final int RULES = 4;

    private static final int MAX_PAD = 60;
    private static final int MAX_PUT = 8;
    private static final int LEAST_CODE = 33, MOST_CODE = 126;

    private static final int MAX_UNDO = 6;
    private static final int SLOTS = 2;

    private final Board board;
    private final Board trial;
    private final Press press;
    private final Pad pad;
    private final History history;
    private final Board[] slots;
    private final boolean[] saved;

    public PrintRacks() {
        board = new Board();
        trial = new Board();
        press = new Press();
        pad = new Pad();
        history = new History();
        slots = new Board[SLOTS];
        for (int slot = 0; slot < SLOTS; slot++) {
            slots[slot] = new Board();
        }
        saved = new boolean[SLOTS];
    }

    // ---- changes

    public int set(int setting, int value) {
        if (!within(setting, 0, SETTINGS - 1) || !within(value, LEAST_SETTING[setting], MOST_SETTING[setting])) {
            return BAD_VALUE;
        }
        int racks = setting == RACKS ? value : board.settings[RACKS];
        int hold = setting == HOLD ? value : board.settings[HOLD];
        if (board.mostRacksNeeded(hold) > racks) {
            return NOT_POSSIBLE;
        }
        int previous = board.settings[setting];
        history.remember(board);
        board.settings[setting] = value;
        return previous;
    }

    public int job(int plate, int shade, int hundreds, int due) {
        if (!within(plate, 0, MAX_DIGIT) || !within(shade, 0, MAX_DIGIT)
                || !within(hundreds, 1, MAX_HUNDREDS) || !within(due, 0, MAX_DUE)) {
            return BAD_VALUE;
        }
        if (racksFor(hundreds, board.settings[HOLD]) > board.settings[RACKS]) {
            return NOT_POSSIBLE;
        }
        if (board.jobs >= MAX_JOBS) {
            return TOO_MANY;
        }
        history.remember(board);
        board.append(plate, shade, hundreds, due);
        return board.jobs - 1;
    }

    public int read() {
        if (pad.parse() != NONE) {
            return BAD_TEXT;
        }
        if (pad.found.mostRacksNeeded(board.settings[HOLD]) > board.settings[RACKS]) {
            return NOT_POSSIBLE;
        }
        if (board.jobs + pad.found.jobs > MAX_JOBS) {
            return TOO_MANY;
        }
        history.remember(board);
        board.appendAll(pad.found);
        pad.length = 0;
        return board.jobs;
    }

    public int drop(int job) {
        if (!isJob(job)) {
            return NO_SUCH;
        }
        history.remember(board);
        board.remove(job);
        return board.jobs;
    }

    public int move(int job, int place) {
        if (!isJob(job) || !isJob(place)) {
            return NO_SUCH;
        }
        history.remember(board);
        board.shift(job, place);
        return lateSumOf(board);
    }

    public int due(int job, int due) {
        if (!isJob(job)) {
            return NO_SUCH;
        }
        if (!within(due, 0, MAX_DUE)) {
            return BAD_VALUE;
        }
        history.remember(board);
        board.fields[JOB_DUE][job] = due;
        press.print(board, board.settings[RACKS]);
        return press.late[job];
    }

    public int order(int rule) {
        if (!within(rule, 0, RULES - 1)) {
            return BAD_VALUE;
        }
        history.remember(board);
        int moved = trial.arrange(board, FIELD_OF_RULE[rule]);
        board.copyFrom(trial);
        return moved;
    }

    // ---- what there is; nothing changes

    public int jobOf(int job, int what) {
        if (!isJob(job)) {
            return NO_SUCH;
        }
        if (!within(what, 0, 11)) {
            return BAD_VALUE;
        }
        if (what < JOB_FIELDS) {
            return board.fields[what][job];
        }
        press.print(board, board.settings[RACKS]);
        switch (what) {
            case 4: return press.racks[job];
            case 5: return press.begins[job];
            case 6: return press.printed[job];
            case 7: return press.dry[job];
            case 8: return press.late[job];
            case 9: return press.waits[job];
            case 10: return press.ready[job];
            default: return press.wash[job];
        }
    }

    public int count(int what) {
        if (!within(what, 0, 19)) {
            return BAD_VALUE;
        }
        if (what < SETTINGS) {
            return board.settings[what];
        }
        press.print(board, board.settings[RACKS]);
        switch (what) {
            case 7: return board.jobs;
            case 8: return board.hundredsOfAll();
            case 9: return press.lastOf(press.printed);
            case 10: return press.lastOf(press.dry);
            case 11: return press.lateJobs;
            case 12: return press.lateSum;
            case 13: return press.mostLate;
            case 14: return press.washSum;
            case 15: return press.platesPutOn;
            case 16: return press.waitSum;
            case 17: return press.mostTaken;
            case 18: return pad.length;
            default: return history.kept;
        }
    }

    public int at(int minute, int what) {
        if (!within(minute, 0, MAX_MINUTE) || !within(what, 0, 3)) {
            return BAD_VALUE;
        }
        press.print(board, board.settings[RACKS]);
        switch (what) {
            case 0: return press.jobOnPress(minute);
            case 1: return press.racksTaken(minute);
            case 2: return press.reached(press.printed, minute);
            default: return press.reached(press.dry, minute);
        }
    }

    // ---- what if; nothing changes

    public int ifOrdered(int rule, int what) {
        if (!within(rule, 0, RULES - 1) || !within(what, 0, 3)) {
            return BAD_VALUE;
        }
        trial.arrange(board, FIELD_OF_RULE[rule]);
        press.print(trial, trial.settings[RACKS]);
        switch (what) {
            case 0: return press.lastOf(press.dry);
            case 1: return press.lateSum;
            case 2: return press.washSum;
            default: return press.platesPutOn;
        }
    }

    public int bestExchange(int what) {
        if (!within(what, 0, 2)) {
            return BAD_VALUE;
        }
        trial.copyFrom(board);
        int bestSum = lateSumOf(trial);
        int bestOne = NONE;
        int bestOther = NONE;
        for (int first = 0; first < board.jobs; first++) {
            for (int second = first + 1; second < board.jobs; second++) {
                int sum = lateSumIfExchanged(first, second);
                if (sum < bestSum) {
                    bestSum = sum;
                    bestOne = first;
                    bestOther = second;
                }
            }
        }
        if (bestOne == NONE) {
            return NONE;
        }
        switch (what) {
            case 0: return bestOne;
            case 1: return bestOther;
            default: return bestSum;
        }
    }

    public int bestFirst() {
        trial.copyFrom(board);
        int best = NONE;
        int bestSum = 0;
        for (int job = 0; job < board.jobs; job++) {
            int sum = lateSumIfFirst(job);
            if (best == NONE || sum < bestSum) {
                best = job;
                bestSum = sum;
            }
        }
        return best;
    }

    public int leastRacks() {
        int needed = board.mostRacksNeeded(board.settings[HOLD]);
        int least = Math.max(needed, LEAST_SETTING[RACKS]);
        for (int racks = least; racks <= MOST_SETTING[RACKS]; racks++) {
            press.print(board, racks);
            if (press.waitSum == 0) {
                return racks;
            }
        }
        return NONE;
    }

    // ---- texts

    public int put(long characters) {
        int added = charactersIn(characters);
        if (added == BAD_VALUE) {
            return BAD_VALUE;
        }
        if (pad.length + added > MAX_PAD) {
            return TOO_MANY;
        }
        for (int left = added - 1; left >= 0; left--) {
            pad.append((int) (characters >>> (8 * left)) & 255);
        }
        return pad.length;
    }

    public int wipe() {
        int length = pad.length;
        pad.length = 0;
        return length;
    }

    public int fault() {
        return pad.parse();
    }

    // ---- undo, saving

    public int undo() {
        if (history.kept == 0) {
            return NOT_POSSIBLE;
        }
        history.takeBack(board);
        return history.kept;
    }

    public int save(int slot) {
        if (!within(slot, 0, SLOTS - 1)) {
            return BAD_VALUE;
        }
        slots[slot].copyFrom(board);
        saved[slot] = true;
        return board.jobs;
    }

    public int restore(int slot) {
        if (!within(slot, 0, SLOTS - 1)) {
            return BAD_VALUE;
        }
        if (!saved[slot]) {
            return NOT_POSSIBLE;
        }
        history.remember(board);
        board.copyFrom(slots[slot]);
        return board.jobs;
    }

    // ---- helpers

    private static boolean within(int value, int least, int most) {
        return value >= least && value <= most;
    }

    private boolean isJob(int job) {
        return within(job, 0, board.jobs - 1);
    }

    private static int racksFor(int hundreds, int hold) {
        // LANGUAGE.md, rule 7, wants the divisor looked at here, though HOLD is never below 1.
        return hold < 1 ? hundreds : (hundreds + hold - 1) / hold;
    }

    private int lateSumOf(Board jobs) {
        press.print(jobs, jobs.settings[RACKS]);
        return press.lateSum;
    }

    // The trial board stands as the board does before and after, so that it is copied only once.
    private int lateSumIfExchanged(int first, int second) {
        trial.exchange(first, second);
        int sum = lateSumOf(trial);
        trial.exchange(first, second);
        return sum;
    }

    private int lateSumIfFirst(int job) {
        trial.shift(job, 0);
        int sum = lateSumOf(trial);
        trial.shift(0, job);
        return sum;
    }

    /** How many characters a number holds, BAD_VALUE if it isn't one that put() takes. */
    private static int charactersIn(long characters) {
        long rest = characters;
        int length = 0;
        while (length < MAX_PUT && rest != 0) {
            // A 0 that has something above it is refused here, too.
            if (!within((int) (rest & 255), LEAST_CODE, MOST_CODE)) {
                return BAD_VALUE;
            }
            rest >>>= 8;
            length++;
        }
        return length == 0 ? BAD_VALUE : length;
    }

    /** The settings and the jobs in their order: all that undo() and restore() bring back. */
    private static final class Board {
        final int[] settings;
        final int[][] fields;
        int jobs;

        Board() {
            settings = new int[SETTINGS];
            System.arraycopy(FIRST_SETTING, 0, settings, 0, SETTINGS);
            fields = new int[JOB_FIELDS][MAX_JOBS];
        }

        void copyFrom(Board other) {
            System.arraycopy(other.settings, 0, settings, 0, SETTINGS);
            for (int field = 0; field < JOB_FIELDS; field++) {
                System.arraycopy(other.fields[field], 0, fields[field], 0, MAX_JOBS);
            }
            jobs = other.jobs;
        }

        void append(int plate, int shade, int hundreds, int dueTime) {
            if (jobs >= MAX_JOBS) {
                return;
            }
            fields[JOB_PLATE][jobs] = plate;
            fields[JOB_SHADE][jobs] = shade;
            fields[JOB_HUNDREDS][jobs] = hundreds;
            fields[JOB_DUE][jobs] = dueTime;
            jobs++;
        }

        void appendAll(Board other) {
            for (int job = 0; job < other.jobs; job++) {
                append(other.fields[JOB_PLATE][job], other.fields[JOB_SHADE][job],
                        other.fields[JOB_HUNDREDS][job], other.fields[JOB_DUE][job]);
            }
        }

        void remove(int job) {
            shift(job, jobs - 1);
            jobs--;
        }

        void shift(int from, int to) {
            for (int[] row : fields) {
                int moved = row[from];
                for (int place = from; place < to; place++) {
                    row[place] = row[place + 1];
                }
                for (int place = from; place > to; place--) {
                    row[place] = row[place - 1];
                }
                row[to] = moved;
            }
        }

        void exchange(int first, int second) {
            for (int[] row : fields) {
                int kept = row[first];
                row[first] = row[second];
                row[second] = kept;
            }
        }

        /** Becomes the other board, ordered by a field; returns how many jobs are at another place. */
        int arrange(Board other, int field) {
            copyFrom(other);
            int moved = 0;
            for (int job = 0; job < other.jobs; job++) {
                int place = other.placeBy(field, job);
                for (int each = 0; each < JOB_FIELDS; each++) {
                    fields[each][place] = other.fields[each][job];
                }
                if (place != job) {
                    moved++;
                }
            }
            return moved;
        }

        /** The place of a job in the order by a field: behind the lesser ones and the alike ones before it. */
        int placeBy(int field, int job) {
            int[] row = fields[field];
            int place = 0;
            for (int other = 0; other < jobs; other++) {
                if (row[other] < row[job] || (row[other] == row[job] && other < job)) {
                    place++;
                }
            }
            return place;
        }

        int mostRacksNeeded(int hold) {
            int most = 0;
            for (int job = 0; job < jobs; job++) {
                most = Math.max(most, racksFor(fields[JOB_HUNDREDS][job], hold));
            }
            return most;
        }

        int hundredsOfAll() {
            int sum = 0;
            for (int job = 0; job < jobs; job++) {
                sum += fields[JOB_HUNDREDS][job];
            }
            return sum;
        }
    }

    /** What comes of a board when it is printed: times of each job, and sums over all of them. */
    private static final class Press {
        final int[] racks = new int[MAX_JOBS];
        final int[] wash = new int[MAX_JOBS];
        final int[] ready = new int[MAX_JOBS];
        final int[] waits = new int[MAX_JOBS];
        final int[] begins = new int[MAX_JOBS];
        final int[] printed = new int[MAX_JOBS];
        final int[] dry = new int[MAX_JOBS];
        final int[] late = new int[MAX_JOBS];
        int jobs;
        int lateJobs;
        int lateSum;
        int mostLate;
        int washSum;
        int platesPutOn;
        int waitSum;
        int mostTaken;
        private int taken;
        private int oldestDrying;

        void print(Board board, int racksThere) {
            clear();
            jobs = board.jobs;
            for (int job = 0; job < jobs; job++) {
                makeReady(board, job);
                printJob(board, job, racksThere);
                dryJob(board, job);
            }
        }

        private void clear() {
            lateJobs = 0;
            lateSum = 0;
            mostLate = 0;
            washSum = 0;
            platesPutOn = 0;
            waitSum = 0;
            mostTaken = 0;
            taken = 0;
            oldestDrying = 0;
        }

        private void makeReady(Board board, int job) {
            int[] plates = board.fields[JOB_PLATE];
            wash[job] = washAhead(board, job);
            washSum += wash[job];
            ready[job] = wash[job];
            if (job == 0 || plates[job] != plates[job - 1]) {
                ready[job] += board.settings[PLATE];
                platesPutOn++;
            }
        }

        private static int washAhead(Board board, int job) {
            if (job == 0) {
                return 0;
            }
            int lighterBy = board.fields[JOB_SHADE][job - 1] - board.fields[JOB_SHADE][job];
            if (lighterBy > 0) {
                return board.settings[WASH] + lighterBy * board.settings[SHADE];
            }
            return lighterBy < 0 ? board.settings[SHADE] : 0;
        }

        private void printJob(Board board, int job, int racksThere) {
            int free = job == 0 ? 0 : printed[job - 1];
            int hundreds = board.fields[JOB_HUNDREDS][job];
            int earliest = free + ready[job] + hundreds * board.settings[RUN];
            racks[job] = racksFor(hundreds, board.settings[HOLD]);
            printed[job] = whenRacksAreFree(job, earliest, racksThere - racks[job]);
            waits[job] = printed[job] - earliest;
            begins[job] = free + waits[job];
            waitSum += waits[job];
        }

        // Sheets become dry in the order in which they are printed: so the press never waits for
        // any but the oldest ones, and can go from one dry time to the next, not by minutes.
        private int whenRacksAreFree(int job, int earliest, int mostTakenBefore) {
            int minute = earliest;
            while (oldestDrying < job && (dry[oldestDrying] <= minute || taken > mostTakenBefore)) {
                minute = Math.max(minute, dry[oldestDrying]);
                taken -= racks[oldestDrying];
                oldestDrying++;
            }
            return minute;
        }

        private void dryJob(Board board, int job) {
            dry[job] = printed[job] + board.settings[DRY];
            taken += racks[job];
            if (board.settings[DRY] > 0) {
                mostTaken = Math.max(mostTaken, taken);
            }
            late[job] = Math.max(0, dry[job] - board.fields[JOB_DUE][job]);
            lateSum += late[job];
            mostLate = Math.max(mostLate, late[job]);
            if (late[job] > 0) {
                lateJobs++;
            }
        }

        int lastOf(int[] minutes) {
            return jobs == 0 ? 0 : minutes[jobs - 1];
        }

        int jobOnPress(int minute) {
            for (int job = 0; job < jobs; job++) {
                if (begins[job] <= minute && minute < printed[job]) {
                    return job;
                }
            }
            return NONE;
        }

        int racksTaken(int minute) {
            int sum = 0;
            for (int job = 0; job < jobs; job++) {
                if (printed[job] <= minute && minute < dry[job]) {
                    sum += racks[job];
                }
            }
            return sum;
        }

        int reached(int[] minutes, int minute) {
            int number = 0;
            for (int job = 0; job < jobs; job++) {
                if (minutes[job] <= minute) {
                    number++;
                }
            }
            return number;
        }
    }

    /** The pad, and the jobs that were found on it when it was parsed last. */
    private static final class Pad {
        private static final int P = 0, PLATE_DIGIT = 1, S = 2, SHADE_DIGIT = 3, N = 4;
        private static final int FIRST_OF_HUNDREDS = 5, HUNDREDS = 6, FIRST_OF_DUE = 7, DUE = 8;

        final Board found = new Board();
        int length;
        private final int[] codes = new int[MAX_PAD];
        private int expected;
        private int plate;
        private int shade;
        private int hundreds;
        private int dueTime;

        void append(int code) {
            if (length < MAX_PAD) {
                codes[length] = code;
                length++;
            }
        }

        /** Finds the jobs, and returns the fault, NONE if there is none. */
        int parse() {
            found.jobs = 0;
            expected = P;
            for (int index = 0; index < length; index++) {
                if (!takes(codes[index])) {
                    return index;
                }
            }
            if (expected != HUNDREDS && expected != DUE) {
                return length;
            }
            endJob();
            return NONE;
        }

        private boolean takes(int code) {
            int digit = within(code, '0', '9') ? code - '0' : NONE;
            switch (expected) {
                case P:
                    return takesLetter(code, 'p');
                case PLATE_DIGIT:
                    plate = digit;
                    expected = S;
                    return digit != NONE;
                case S:
                    return takesLetter(code, 's');
                case SHADE_DIGIT:
                    shade = digit;
                    expected = N;
                    return digit != NONE;
                case N:
                    return takesLetter(code, 'n');
                case FIRST_OF_HUNDREDS:
                    hundreds = digit;
                    dueTime = MAX_DUE;
                    expected = HUNDREDS;
                    return digit != NONE && digit != 0;
                case HUNDREDS:
                    return takesBehindHundreds(code, digit);
                case FIRST_OF_DUE:
                    dueTime = digit;
                    expected = DUE;
                    return digit != NONE;
                default:
                    return takesBehindDue(code, digit);
            }
        }

        private boolean takesLetter(int code, char letter) {
            expected++;
            return code == letter;
        }

        private boolean takesBehindHundreds(int code, int digit) {
            if (digit != NONE) {
                hundreds = 10 * hundreds + digit;
                return hundreds <= MAX_HUNDREDS;
            }
            if (code == 'd') {
                expected = FIRST_OF_DUE;
                return true;
            }
            return takesEndOfJob(code);
        }

        private boolean takesBehindDue(int code, int digit) {
            if (digit != NONE) {
                boolean isLeadingZero = dueTime == 0;
                dueTime = 10 * dueTime + digit;
                return !isLeadingZero && dueTime <= MAX_DUE;
            }
            return takesEndOfJob(code);
        }

        private boolean takesEndOfJob(int code) {
            if (code != ';') {
                return false;
            }
            endJob();
            expected = P;
            return true;
        }

        private void endJob() {
            found.append(plate, shade, hundreds, dueTime);
        }
    }

    /** The states before the latest changes; the row is a ring, so that the oldest one is overwritten. */
    private static final class History {
        int kept;
        private final Board[] states;
        private int next;

        History() {
            states = new Board[MAX_UNDO];
            for (int state = 0; state < MAX_UNDO; state++) {
                states[state] = new Board();
            }
        }

        void remember(Board board) {
            states[next].copyFrom(board);
            next = next == MAX_UNDO - 1 ? 0 : next + 1;
            kept = Math.min(kept + 1, MAX_UNDO);
        }

        void takeBack(Board board) {
            next = next == 0 ? MAX_UNDO - 1 : next - 1;
            kept--;
            board.copyFrom(states[next]);
        }
    }
}
