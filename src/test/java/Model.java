import java.util.ArrayList;
import java.util.List;
import java.util.regex.Matcher;
import java.util.regex.Pattern;

/** The document once more, as plainly as it can be said: minute by minute, with a new list for each state. */
final class Model {
    private static final int[] LEAST = {0, 0, 0, 1, 0, 4, 1};
    private static final int[] MOST = {60, 60, 9, 20, 500, 20, 10};
    private static final String DUE = "d(?:0|[1-9][0-9]{0,2}|[12][0-9]{3}|3000)";
    private static final String JOB = "p[0-9]s[0-9]n(?:[1-9]|1[0-9]|20)(?:" + DUE + ")?";
    private static final Pattern TEXT = Pattern.compile(JOB + "(?:;" + JOB + ")*");

    private record State(int[] settings, List<int[]> jobs) {
        State copy() {
            List<int[]> copied = new ArrayList<>();
            for (int[] job : jobs) {
                copied.add(job.clone());
            }
            return new State(settings.clone(), copied);
        }

        int racks(int[] job) {
            int racks = 0;
            while (racks * settings[6] < job[2]) {
                racks++;
            }
            return racks;
        }

        boolean fits(List<int[]> all) {
            for (int[] job : all) {
                if (racks(job) > settings[5]) {
                    return false;
                }
            }
            return true;
        }
    }

    /** For each job: begins, printed, dry, late, waits, ready, wash, plate (1 or 0). */
    private static List<int[]> times(State state) {
        List<int[]> times = new ArrayList<>();
        int free = 0;
        int[] before = null;
        for (int[] job : state.jobs()) {
            int wash = 0;
            if (before != null && job[1] > before[1]) {
                wash = state.settings()[2];
            } else if (before != null && job[1] < before[1]) {
                wash = state.settings()[1] + (before[1] - job[1]) * state.settings()[2];
            }
            int plate = before == null || before[0] != job[0] ? 1 : 0;
            int ready = wash + plate * state.settings()[0];
            int takes = ready + job[2] * state.settings()[3];
            int begins = free;
            while (taken(state, times, begins + takes) + state.racks(job) > state.settings()[5]) {
                begins++;
            }
            int printed = begins + takes;
            int dry = printed + state.settings()[4];
            times.add(new int[] {begins, printed, dry, Math.max(0, dry - job[3]), begins - free, ready, wash, plate});
            free = printed;
            before = job;
        }
        return times;
    }

    private static int taken(State state, List<int[]> times, int minute) {
        int taken = 0;
        for (int i = 0; i < times.size(); i++) {
            if (times.get(i)[1] <= minute && times.get(i)[2] > minute) {
                taken += state.racks(state.jobs().get(i));
            }
        }
        return taken;
    }

    private static int sum(State state, int column) {
        int sum = 0;
        for (int[] row : times(state)) {
            sum += row[column];
        }
        return sum;
    }

    private State now = new State(new int[] {10, 15, 2, 4, 60, 8, 5}, new ArrayList<>());
    private final List<State> history = new ArrayList<>();
    private final State[] slots = new State[2];
    private String pad = "";

    private void change(State next) {
        history.add(now);
        if (history.size() > 6) {
            history.remove(0);
        }
        now = next;
    }

    private boolean isJob(int job) {
        return job >= 0 && job < now.jobs().size();
    }

    int set(int setting, int value) {
        if (setting < 0 || setting > 6 || value < LEAST[setting] || value > MOST[setting]) {
            return -2;
        }
        State next = now.copy();
        next.settings()[setting] = value;
        if (!next.fits(next.jobs())) {
            return -5;
        }
        int previous = now.settings()[setting];
        change(next);
        return previous;
    }

    int job(int plate, int shade, int hundreds, int due) {
        if (plate < 0 || plate > 9 || shade < 0 || shade > 9 || hundreds < 1 || hundreds > 20 || due < 0 || due > 3000) {
            return -2;
        }
        return add(List.of(new int[] {plate, shade, hundreds, due})) < 0 ? addError : now.jobs().size() - 1;
    }

    private int addError;

    private int add(List<int[]> jobs) {
        addError = !now.fits(jobs) ? -5 : now.jobs().size() + jobs.size() > 12 ? -4 : 0;
        if (addError != 0) {
            return addError;
        }
        State next = now.copy();
        next.jobs().addAll(jobs);
        change(next);
        return next.jobs().size();
    }

    int read() {
        if (fault() != -6) {
            return -3;
        }
        List<int[]> jobs = new ArrayList<>();
        for (String text : pad.split(";")) {
            String[] numbers = text.substring(1).split("[snd]");
            jobs.add(new int[] {Integer.parseInt(numbers[0]), Integer.parseInt(numbers[1]),
                Integer.parseInt(numbers[2]), numbers.length > 3 ? Integer.parseInt(numbers[3]) : 3000});
        }
        int answer = add(jobs);
        if (answer >= 0) {
            pad = "";
        }
        return answer;
    }

    int drop(int job) {
        if (!isJob(job)) {
            return -1;
        }
        State next = now.copy();
        next.jobs().remove(job);
        change(next);
        return next.jobs().size();
    }

    private static State moved(State state, int job, int place) {
        State next = state.copy();
        next.jobs().add(place, next.jobs().remove(job));
        return next;
    }

    int move(int job, int place) {
        if (!isJob(job) || !isJob(place)) {
            return -1;
        }
        change(moved(now, job, place));
        return sum(now, 3);
    }

    int due(int job, int due) {
        if (!isJob(job)) {
            return -1;
        }
        if (due < 0 || due > 3000) {
            return -2;
        }
        State next = now.copy();
        next.jobs().get(job)[3] = due;
        change(next);
        return times(now).get(job)[3];
    }

    private static State ordered(State state, int rule) {
        State next = state.copy();
        int column = rule == 0 ? 3 : rule == 1 ? 1 : rule == 2 ? 0 : 2;
        next.jobs().sort((a, b) -> Integer.compare(a[column], b[column]));
        return next;
    }

    int order(int rule) {
        if (rule < 0 || rule > 3) {
            return -2;
        }
        State marked = now.copy();
        for (int i = 0; i < marked.jobs().size(); i++) {
            int[] job = marked.jobs().get(i);
            marked.jobs().set(i, new int[] {job[0], job[1], job[2], job[3], i});
        }
        State next = ordered(marked, rule);
        int moved = 0;
        for (int i = 0; i < next.jobs().size(); i++) {
            moved += next.jobs().get(i)[4] == i ? 0 : 1;
        }
        change(next);
        return moved;
    }

    int jobOf(int job, int what) {
        if (!isJob(job)) {
            return -1;
        }
        if (what < 0 || what > 11) {
            return -2;
        }
        int[] row = now.jobs().get(job);
        return what < 4 ? row[what] : what == 4 ? now.racks(row) : times(now).get(job)[what - 5];
    }

    int count(int what) {
        if (what < 0 || what > 19) {
            return -2;
        }
        if (what < 7) {
            return now.settings()[what];
        }
        List<int[]> times = times(now);
        int printed = 0;
        int dry = 0;
        int late = 0;
        int most = 0;
        int hundreds = 0;
        int racks = 0;
        for (int i = 0; i < times.size(); i++) {
            int[] row = times.get(i);
            printed = Math.max(printed, row[1]);
            dry = Math.max(dry, row[2]);
            late += row[3] > 0 ? 1 : 0;
            most = Math.max(most, row[3]);
            hundreds += now.jobs().get(i)[2];
            racks = Math.max(racks, taken(now, times, row[1]));
        }
        int[] answers = {times.size(), hundreds, printed, dry, late, sum(now, 3), most, sum(now, 6), sum(now, 7),
            sum(now, 4), racks, pad.length(), history.size()};
        return answers[what - 7];
    }

    int at(int minute, int what) {
        if (minute < 0 || minute > 99999 || what < 0 || what > 3) {
            return -2;
        }
        List<int[]> times = times(now);
        int on = -6;
        int printed = 0;
        int dry = 0;
        for (int i = 0; i < times.size(); i++) {
            int[] row = times.get(i);
            on = row[0] <= minute && row[1] > minute ? i : on;
            printed += row[1] <= minute ? 1 : 0;
            dry += row[2] <= minute ? 1 : 0;
        }
        return what == 0 ? on : what == 1 ? taken(now, times, minute) : what == 2 ? printed : dry;
    }

    int ifOrdered(int rule, int what) {
        if (rule < 0 || rule > 3 || what < 0 || what > 3) {
            return -2;
        }
        State then = ordered(now, rule);
        List<int[]> times = times(then);
        int dry = times.isEmpty() ? 0 : times.get(times.size() - 1)[2];
        return what == 0 ? dry : sum(then, what == 1 ? 3 : what == 2 ? 6 : 7);
    }

    int bestExchange(int what) {
        if (what < 0 || what > 2) {
            return -2;
        }
        int[] best = {-6, -6, -6};
        int least = sum(now, 3);
        for (int first = 0; first < now.jobs().size(); first++) {
            for (int second = first + 1; second < now.jobs().size(); second++) {
                State then = now.copy();
                then.jobs().set(first, now.jobs().get(second));
                then.jobs().set(second, now.jobs().get(first));
                if (sum(then, 3) < least) {
                    least = sum(then, 3);
                    best = new int[] {first, second, least};
                }
            }
        }
        return best[what];
    }

    int bestFirst() {
        int best = -6;
        for (int job = 0; job < now.jobs().size(); job++) {
            if (best < 0 || sum(moved(now, job, 0), 3) < sum(moved(now, best, 0), 3)) {
                best = job;
            }
        }
        return best;
    }

    int leastRacks() {
        for (int racks = 4; racks <= 20; racks++) {
            State then = now.copy();
            then.settings()[5] = racks;
            if (then.fits(then.jobs()) && sum(then, 4) == 0) {
                return racks;
            }
        }
        return -6;
    }

    int put(long characters) {
        String added = "";
        boolean ended = false;
        for (int from = 0; from < 64; from += 8) {
            int code = (int) (characters >>> from & 255);
            if (code == 0) {
                ended = true;
            } else if (ended || code < 33 || code > 126) {
                return -2;
            } else {
                added = (char) code + added;
            }
        }
        if (added.isEmpty()) {
            return -2;
        }
        if (pad.length() + added.length() > 60) {
            return -4;
        }
        pad += added;
        return pad.length();
    }

    int wipe() {
        int length = pad.length();
        pad = "";
        return length;
    }

    int fault() {
        for (int end = 1; end <= pad.length(); end++) {
            Matcher matcher = TEXT.matcher(pad.substring(0, end));
            if (!matcher.matches() && !matcher.hitEnd()) {
                return end - 1;
            }
        }
        return TEXT.matcher(pad).matches() ? -6 : pad.length();
    }

    int undo() {
        if (history.isEmpty()) {
            return -5;
        }
        now = history.remove(history.size() - 1);
        return history.size();
    }

    int save(int slot) {
        if (slot < 0 || slot > 1) {
            return -2;
        }
        slots[slot] = now.copy();
        return now.jobs().size();
    }

    int restore(int slot) {
        if (slot < 0 || slot > 1) {
            return -2;
        }
        if (slots[slot] == null) {
            return -5;
        }
        change(slots[slot].copy());
        return now.jobs().size();
    }
}
