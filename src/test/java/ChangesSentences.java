import java.util.ArrayList;
import java.util.Collections;
import java.util.List;

/** Promises 4 to 8: read, drop, move, due, order. */
final class ChangesSentences {
    private static final String FIVE = "p0s0n1d1;p1s1n2d2;p2s2n3d3;p3s3n4d4;p4s4n5d5";

    private ChangesSentences() {
    }

    /** Twelve jobs that can be told by their hundreds, 1 to 12. */
    private static PrintRacks twelve() {
        PrintRacks x = new PrintRacks();
        for (int hundreds = 1; hundreds <= 12; hundreds++) {
            Check.due("job()", x.job(0, 0, hundreds, 3000), hundreds - 1);
        }
        return x;
    }

    private static List<Integer> hundreds(PrintRacks x) {
        List<Integer> hundreds = new ArrayList<>();
        int jobs = x.count(7);
        for (int job = 0; job < jobs; job++) {
            hundreds.add(x.jobOf(job, 2));
        }
        return hundreds;
    }

    private static List<Integer> oneTo12() {
        List<Integer> numbers = new ArrayList<>();
        for (int number = 1; number <= 12; number++) {
            numbers.add(number);
        }
        return numbers;
    }

    private static PrintRacks with(PrintRacks x, String text) {
        Check.write(x, text);
        return x;
    }

    @Sentence(promise = 2, words = "Ahead of the calls `set`, `job`, `read`, `drop`, `move`, `due`, `order` "
            + "the interface says: ---- changes.")
    static void p02ToP08AreChanges() {
        PrintRacks x = with(new PrintRacks(), "p0s0n1;p0s0n2");
        x.set(PrintRacks.PLATE, 10);
        Check.due("behind set", x.count(19), 1);
        x.job(0, 0, 1, 0);
        Check.due("behind job", x.count(19), 2);
        x.read();
        Check.due("behind read", x.count(19), 3);
        x.drop(0);
        Check.due("behind drop", x.count(19), 4);
        x.move(0, 1);
        Check.due("behind move", x.count(19), 5);
        x.due(0, 0);
        Check.due("behind due", x.count(19), 6);
        x.undo();
        x.order(0);
        Check.due("behind undo and order", x.count(19), 6);
    }

    // ---- promise 4

    @Sentence(promise = 4, words = "Puts the jobs of the pad at the end of the board,")
    static void p04AtTheEndOfTheBoard() {
        PrintRacks x = new PrintRacks();
        x.job(7, 7, 7, 7);
        with(x, "p1s2n3;p4s5n20d0;p0s9n10d3000;p9s0n1d10").read();
        Check.dueJobs("read()", x, "p7s7n7d7;p1s2n3d3000;p4s5n20d0;p0s9n10d3000;p9s0n1d10");
        with(x, "p6s6n6d6").read();
        Check.dueJobs("read()", x, "p7s7n7d7;p1s2n3d3000;p4s5n20d0;p0s9n10d3000;p9s0n1d10;p6s6n6d6");
    }

    @Sentence(promise = 4, words = "and empties the pad.")
    static void p04EmptiesThePad() {
        PrintRacks x = with(new PrintRacks(), "p1s2n3;p1s2n4");
        x.read();
        Check.due("its length", x.count(18), 0);
        Check.due("its fault", x.fault(), 0);
        Check.due("wipe()", x.wipe(), 0);
        Check.due("read() again", x.read(), PrintRacks.BAD_TEXT);
        Check.due("put()", x.put('p'), 1);
        Check.due("nothing of the text is left behind it", x.fault(), 1);
    }

    @Sentence(promise = 4, words = "This is a change.")
    static void p04IsAChange() {
        Look.dueChange("read() of one", Look::busy, PrintRacks::read);
        Look.dueChange("read() of two", () -> with(new PrintRacks(), "p1s2n3;p1s2n3"), PrintRacks::read);
    }

    @Sentence(promise = 4, words = "Returns how many jobs there are then;")
    static void p04ReturnsHowManyJobsThereAreThen() {
        PrintRacks x = new PrintRacks();
        Check.due("read() of one", with(x, "p1s2n3").read(), 1);
        Check.due("read() of three", with(x, "p1s2n3;p1s2n3;p1s2n3").read(), 4);
        Check.due("read() of eight", with(x, "p1s2n3;p1s2n3;p1s2n3;p1s2n3;p1s2n3;p1s2n3;p1s2n3;p1s2n3").read(), 12);
        x.drop(3);
        Check.due("read() of one", with(x, "p1s2n3").read(), 12);
    }

    @Sentence(promise = 4, words = "BAD_TEXT if the pad has a fault;")
    static void p04BadTextIfThePadHasAFault() {
        String[] texts = {"", "p", "x", "p1s2n", "p1s2n0", "p1s2n21", "p1s2n3d", "p1s2n3d3001", "p1s2n3d00", "p1s2n3;",
            "p1s2n3;;p1s2n3", "p1s2n3;x", "p1s2n3x", ";p1s2n3", "p10s2n3", "P1s2n3"};
        for (String text : texts) {
            PrintRacks x = with(Check.board("p5s5n5d5"), text);
            Check.due("read() of " + text, x.read(), PrintRacks.BAD_TEXT);
            Check.dueJobs("read() of " + text, x, "p5s5n5d5");
            Check.due("the pad stays", x.count(18), text.length());
            Check.due("it is no change", x.count(19), 1);
        }
    }

    @Sentence(promise = 4, words = "NOT_POSSIBLE if one needs more racks than RACKS;")
    static void p04NotPossibleIfOneNeedsMoreRacks() {
        for (String text : new String[] {"p1s2n17", "p1s2n17;p1s2n1", "p1s2n1;p1s2n17;p1s2n1", "p1s2n1;p1s2n20"}) {
            PrintRacks x = new PrintRacks();
            x.set(PrintRacks.RACKS, 4);
            x.set(PrintRacks.HOLD, 4);
            Check.due("read() of " + text, with(x, text).read(), PrintRacks.NOT_POSSIBLE);
            Check.due("no job is put", x.count(7), 0);
            Check.due("the pad stays", x.count(18), text.length());
            x.wipe();
            Check.due("16 by 4 on 4", with(x, "p1s2n16;p1s2n16").read(), 2);
            x.set(PrintRacks.RACKS, 5);
            Check.due("on 5", with(x, text).read(), 2 + text.split(";").length);
        }
    }

    @Sentence(promise = 4, words = "TOO_MANY if there would be more than 12.")
    static void p04TooManyIfThereWouldBeMoreThan12() {
        PrintRacks x = new PrintRacks();
        for (int job = 0; job < 10; job++) {
            x.job(0, 0, 1, 0);
        }
        Check.due("10 and 3", with(x, "p1s2n3;p1s2n4;p1s2n5").read(), PrintRacks.TOO_MANY);
        Check.due("no job is put", x.count(7), 10);
        Check.due("the pad stays", x.wipe(), 20);
        Check.due("10 and 2", with(x, "p1s2n3;p1s2n4").read(), 12);
        Check.due("12 and 1", with(x, "p1s2n5").read(), PrintRacks.TOO_MANY);
        x.drop(11);
        Check.due("11 and 1", x.read(), 12);
        Check.due("its hundreds", x.jobOf(11, 2), 5);
        PrintRacks y = new PrintRacks();
        for (int job = 0; job < 5; job++) {
            y.job(0, 0, 1, 0);
        }
        String eight = "p1s2n3;p1s2n3;p1s2n3;p1s2n3;p1s2n3;p1s2n3;p1s2n3;p1s2n3";
        Check.due("5 and 8", with(y, eight).read(), PrintRacks.TOO_MANY);
        y.drop(0);
        Check.due("4 and 8", y.read(), 12);
    }

    // ---- promise 5

    @Sentence(promise = 5, words = "Takes a job off the board.")
    static void p05TakesAJobOff() {
        for (int job = 0; job < 12; job++) {
            PrintRacks x = twelve();
            x.drop(job);
            List<Integer> want = oneTo12();
            want.remove(job);
            Check.dueText("behind drop(" + job + ")", hundreds(x).toString(), want.toString());
        }
        PrintRacks x = Check.board(FIVE);
        x.drop(4);
        Check.dueJobs("drop(4)", x, "p0s0n1d1;p1s1n2d2;p2s2n3d3;p3s3n4d4");
        x.drop(1);
        Check.dueJobs("drop(1)", x, "p0s0n1d1;p2s2n3d3;p3s3n4d4");
        x.drop(0);
        Check.dueJobs("drop(0)", x, "p2s2n3d3;p3s3n4d4");
        x.drop(0);
        x.drop(0);
        Check.dueJobs("drop(0) of the last one", x, "");
    }

    @Sentence(promise = 5, words = "This is a change.")
    static void p05IsAChange() {
        for (int job = 0; job < 3; job++) {
            int each = job;
            Look.dueChange("drop(" + job + ")", Look::busy, x -> x.drop(each));
        }
        Look.dueChange("drop of the only one", () -> Check.board("p1s2n3d4"), x -> x.drop(0));
    }

    @Sentence(promise = 5, words = "Returns how many jobs there are then;")
    static void p05ReturnsHowManyJobsThereAreThen() {
        PrintRacks x = twelve();
        for (int left = 11; left >= 0; left--) {
            Check.due("drop(" + left / 2 + ")", x.drop(left / 2), left);
        }
    }

    @Sentence(promise = 5, words = "NO_SUCH if there is no such job.")
    static void p05NoSuchIfThereIsNoSuchJob() {
        PrintRacks x = Check.board(FIVE);
        for (int job : new int[] {-1, 5, 6, 11, 12, Integer.MIN_VALUE, Integer.MAX_VALUE}) {
            Check.due("drop(" + job + ")", x.drop(job), PrintRacks.NO_SUCH);
        }
        for (int left = 4; left >= 0; left--) {
            Check.due("drop of the last", x.drop(left), left);
            Check.due("it is not there now", x.drop(left), PrintRacks.NO_SUCH);
        }
        Check.due("drop(12) of 12", twelve().drop(12), PrintRacks.NO_SUCH);
    }

    // ---- promise 6

    @Sentence(promise = 6, words = "Moves a job to another place of the board; those between move by one.")
    static void p06MovesAJobThoseBetweenMoveByOne() {
        for (int job = 0; job < 12; job++) {
            for (int place = 0; place < 12; place++) {
                PrintRacks x = twelve();
                Check.due("move(" + job + ", " + place + ")", x.move(job, place), 0);
                List<Integer> want = oneTo12();
                want.add(place, want.remove(job));
                Check.dueText("behind move(" + job + ", " + place + ")", hundreds(x).toString(), want.toString());
            }
        }
        PrintRacks x = Check.board(FIVE);
        x.move(1, 3);
        Check.dueJobs("move(1, 3)", x, "p0s0n1d1;p2s2n3d3;p3s3n4d4;p1s1n2d2;p4s4n5d5");
        x.move(4, 0);
        Check.dueJobs("move(4, 0)", x, "p4s4n5d5;p0s0n1d1;p2s2n3d3;p3s3n4d4;p1s1n2d2");
    }

    @Sentence(promise = 6, words = "This is a change.")
    static void p06IsAChange() {
        for (int job = 0; job < 3; job++) {
            for (int place = 0; place < 3; place++) {
                int from = job;
                int to = place;
                Look.dueChange("move(" + job + ", " + place + ")", Look::busy, x -> x.move(from, to));
            }
        }
    }

    @Sentence(promise = 6, words = "Returns the sum of the minutes by which all jobs are late then;")
    static void p06ReturnsTheSumOfTheMinutesLateThen() {
        PrintRacks x = Check.board("p0s0n20d3000;p0s0n5d0;p0s0n1d0");
        x.set(PrintRacks.DRY, 0);
        // Printed at 90, 110, 114; at 30, 34, 114 behind the move.
        Check.due("move(0, 2)", x.move(0, 2), 64);
        Check.due("move(2, 2)", x.move(2, 2), 64);
        // 1, 5, 20 hundreds: printed at 14, 34, 114.
        Check.due("move(0, 1)", x.move(0, 1), 48);
        Check.due("count(12)", x.count(12), 48);
        x.due(2, 100);
        Check.due("a job that is late by 14", x.move(0, 0), 62);
        x.due(0, 3000);
        x.due(1, 34);
        x.due(2, 114);
        Check.due("none is late", x.move(1, 1), 0);
        x.due(1, 33);
        Check.due("one is, by a minute", x.move(1, 1), 1);
        // Job 1 waits until 150 for racks, and is dry at 210; as the first one it is dry at 74, and job 0 does not wait.
        PrintRacks y = Check.board("p0s0n20d154;p0s0n1d200");
        y.set(PrintRacks.RACKS, 4);
        Check.due("late as the press waits", y.move(0, 0), 10);
        Check.due("it does not wait then", y.move(1, 0), 0);
        Check.due("it waits again", y.move(0, 1), 10);
    }

    @Sentence(promise = 6, words = "NO_SUCH if there is no such job or place.")
    static void p06NoSuchIfThereIsNoSuchJobOrPlace() {
        PrintRacks x = Check.board(FIVE);
        for (int none : new int[] {-1, 5, 6, 11, 12, Integer.MIN_VALUE, Integer.MAX_VALUE}) {
            Check.due("move(" + none + ", 0)", x.move(none, 0), PrintRacks.NO_SUCH);
            Check.due("move(4, " + none + ")", x.move(4, none), PrintRacks.NO_SUCH);
            Check.due("move(" + none + ", " + none + ")", x.move(none, none), PrintRacks.NO_SUCH);
        }
        Check.dueJobs("what was refused", x, FIVE);
        Check.isTrue("move(4, 0)", x.move(4, 0) >= 0);
        Check.isTrue("move(0, 4)", x.move(0, 4) >= 0);
        Check.due("move(12, 0) of 12", twelve().move(12, 0), PrintRacks.NO_SUCH);
        Check.due("move(0, 12) of 12", twelve().move(0, 12), PrintRacks.NO_SUCH);
        Check.due("without jobs", new PrintRacks().move(0, 0), PrintRacks.NO_SUCH);
    }

    // ---- promise 7

    @Sentence(promise = 7, words = "Changes the due time of a job.")
    static void p07ChangesTheDueTimeOfAJob() {
        PrintRacks x = Check.board(FIVE);
        x.due(0, 3000);
        Check.dueJobs("due(0, 3000)", x, FIVE.replace("n1d1", "n1d3000"));
        x.due(0, 1);
        x.due(4, 0);
        Check.dueJobs("due(4, 0)", x, FIVE.replace("n5d5", "n5d0"));
        x.due(4, 5);
        x.due(2, 99);
        Check.dueJobs("due(2, 99)", x, FIVE.replace("n3d3", "n3d99"));
    }

    @Sentence(promise = 7, words = "This is a change.")
    static void p07IsAChange() {
        for (int job = 0; job < 3; job++) {
            int each = job;
            Look.dueChange("due(" + job + ", 1000)", Look::busy, x -> x.due(each, 1000));
            Look.dueChange("due() as it is", Look::busy, x -> x.due(each, x.jobOf(each, 3)));
        }
    }

    @Sentence(promise = 7, words = "- `due`: 0 to 3000")
    static void p07Due0To3000() {
        PrintRacks x = Check.board("p0s0n1d7");
        for (int due : new int[] {0, 1, 2, 1500, 2999, 3000}) {
            Check.isTrue("due(0, " + due + ")", x.due(0, due) >= 0);
            Check.due("it is then", x.jobOf(0, 3), due);
        }
        Check.due("due(0, -1)", x.due(0, -1), PrintRacks.BAD_VALUE);
        Check.due("due(0, 3001)", x.due(0, 3001), PrintRacks.BAD_VALUE);
        Check.due("it stays", x.jobOf(0, 3), 3000);
    }

    @Sentence(promise = 7, words = "Returns by how many minutes it is late then;")
    static void p07ReturnsByHowManyMinutesItIsLateThen() {
        PrintRacks x = Check.board("p0s0n1d0;p0s0n2d3000;p0s0n3d0");
        // Dry at 74, 82, 94.
        Check.due("due(1, 81)", x.due(1, 81), 1);
        Check.due("due(1, 82)", x.due(1, 82), 0);
        Check.due("due(1, 83)", x.due(1, 83), 0);
        Check.due("due(1, 3000)", x.due(1, 3000), 0);
        Check.due("due(1, 0)", x.due(1, 0), 82);
        Check.due("due(0, 70)", x.due(0, 70), 4);
        Check.due("due(2, 90)", x.due(2, 90), 4);
        Check.due("due(2, 0)", x.due(2, 0), 94);
        // Job 1 waits until 150 for racks, and is dry at 210.
        PrintRacks y = Check.board("p0s0n20;p0s0n1");
        y.set(PrintRacks.RACKS, 4);
        Check.due("late as the press waits", y.due(1, 200), 10);
    }

    @Sentence(promise = 7, words = "NO_SUCH if there is no such job;")
    static void p07NoSuchIfThereIsNoSuchJob() {
        PrintRacks x = Check.board(FIVE);
        for (int job : new int[] {-1, 5, 6, 11, 12, Integer.MIN_VALUE, Integer.MAX_VALUE}) {
            Check.due("due(" + job + ", 0)", x.due(job, 0), PrintRacks.NO_SUCH);
        }
        Check.due("due(12, 0) of 12", twelve().due(12, 0), PrintRacks.NO_SUCH);
        Check.due("due(11, 3000) of 12", twelve().due(11, 3000), 0);
        Check.due("without jobs", new PrintRacks().due(0, 0), PrintRacks.NO_SUCH);
    }

    @Sentence(promise = 7, words = "BAD_VALUE if due is out of range.")
    static void p07BadValueIfDueIsOutOfRange() {
        PrintRacks x = Check.board(FIVE);
        for (int due : new int[] {-1, 3001, 10000, Integer.MIN_VALUE, Integer.MAX_VALUE}) {
            for (int job = 0; job < 5; job++) {
                Check.due("due(" + job + ", " + due + ")", x.due(job, due), PrintRacks.BAD_VALUE);
            }
        }
        Check.dueJobs("what was refused", x, FIVE);
    }

    // ---- promise 8

    @Sentence(promise = 8, words = "Orders the board;")
    static void p08OrdersTheBoard() {
        String jobs = "p3s1n4d9;p2s4n1d7;p1s3n2d8;p4s2n3d6";
        String[] ordered = {"p4s2n3d6;p2s4n1d7;p1s3n2d8;p3s1n4d9", "p3s1n4d9;p4s2n3d6;p1s3n2d8;p2s4n1d7",
            "p1s3n2d8;p2s4n1d7;p3s1n4d9;p4s2n3d6", "p2s4n1d7;p1s3n2d8;p4s2n3d6;p3s1n4d9"};
        for (int rule = 0; rule < 4; rule++) {
            PrintRacks x = Check.board(jobs);
            x.order(rule);
            Check.dueJobs("order(" + rule + ")", x, ordered[rule]);
        }
        PrintRacks empty = new PrintRacks();
        Check.due("without jobs", empty.order(0), 0);
        PrintRacks one = Check.board("p3s1n4d9");
        Check.due("of one", one.order(3), 0);
        Check.dueJobs("order(3)", one, "p3s1n4d9");
    }

    @Sentence(promise = 8, words = "jobs that are alike by the rule keep their order.")
    static void p08AlikeOnesKeepTheirOrder() {
        String jobs = "p5s1n2d9;p4s0n1d8;p3s1n2d9;p2s0n1d8;p1s1n2d9";
        for (int rule : new int[] {0, 1, 3}) {
            PrintRacks x = Check.board(jobs);
            Check.due("order(" + rule + ")", x.order(rule), 4);
            Check.dueJobs("order(" + rule + ")", x, "p4s0n1d8;p2s0n1d8;p5s1n2d9;p3s1n2d9;p1s1n2d9");
        }
        PrintRacks y = Check.board("p1s9n1d9;p0s8n1d9;p1s7n1d9;p0s6n1d9;p1s5n1d9");
        Check.due("order(2)", y.order(2), 4);
        Check.dueJobs("order(2)", y, "p0s8n1d9;p0s6n1d9;p1s9n1d9;p1s7n1d9;p1s5n1d9");
        PrintRacks alike = twelve();
        for (int rule = 0; rule < 3; rule++) {
            Check.due("12 that are alike", alike.order(rule), 0);
            Check.dueText("in the order", hundreds(alike).toString(), oneTo12().toString());
        }
    }

    @Sentence(promise = 8, words = "This is a change.")
    static void p08IsAChange() {
        for (int rule = 0; rule < 4; rule++) {
            int each = rule;
            Look.dueChange("order(" + rule + ")", Look::busy, x -> x.order(each));
            Look.dueChange("order(" + rule + ") without jobs", PrintRacks::new, x -> x.order(each));
        }
    }

    /** Twelve jobs of falling numbers come to be in the opposite order by the rule. */
    private static void dueOpposite(int rule, int[][] jobs) {
        PrintRacks x = new PrintRacks();
        List<String> want = new ArrayList<>();
        for (int[] job : jobs) {
            Check.isTrue("job()", x.job(job[0], job[1], job[2], job[3]) >= 0);
            want.add("p" + job[0] + "s" + job[1] + "n" + job[2] + "d" + job[3]);
        }
        Check.due("order(" + rule + ")", x.order(rule), jobs.length / 2 * 2);
        Collections.reverse(want);
        Check.dueJobs("order(" + rule + ")", x, String.join(";", want));
    }

    @Sentence(promise = 8, words = "- `rule`: 0 by due times, the least first,")
    static void p08Rule0ByDueTimesTheLeastFirst() {
        int[] dues = {3000, 2999, 2500, 1000, 999, 500, 99, 50, 10, 9, 1, 0};
        int[][] jobs = new int[12][];
        for (int job = 0; job < 12; job++) {
            jobs[job] = new int[] {job % 10, job % 10, job + 1, dues[job]};
        }
        dueOpposite(0, jobs);
    }

    @Sentence(promise = 8, words = "1 by shades, the lightest first,")
    static void p08Rule1ByShadesTheLightestFirst() {
        int[][] jobs = new int[10][];
        for (int job = 0; job < 10; job++) {
            jobs[job] = new int[] {job, 9 - job, job + 1, job};
        }
        dueOpposite(1, jobs);
    }

    @Sentence(promise = 8, words = "2 by plates, the lowest first,")
    static void p08Rule2ByPlatesTheLowestFirst() {
        int[][] jobs = new int[10][];
        for (int job = 0; job < 10; job++) {
            jobs[job] = new int[] {9 - job, job, job + 1, job};
        }
        dueOpposite(2, jobs);
    }

    @Sentence(promise = 8, words = "3 by hundreds, the fewest first")
    static void p08Rule3ByHundredsTheFewestFirst() {
        int[] hundreds = {20, 19, 18, 15, 12, 11, 10, 9, 8, 3, 2, 1};
        int[][] jobs = new int[12][];
        for (int job = 0; job < 12; job++) {
            jobs[job] = new int[] {job % 10, job % 10, hundreds[job], job};
        }
        dueOpposite(3, jobs);
    }

    @Sentence(promise = 8, words = "Returns how many jobs are at another place than before;")
    static void p08ReturnsHowManyJobsAreAtAnotherPlace() {
        PrintRacks x = Check.board("p0s0n1d5;p0s0n2d4;p0s0n3d3;p0s0n4d2;p0s0n5d1");
        Check.due("the one in the middle stays", x.order(0), 4);
        Check.due("again", x.order(0), 0);
        x.move(0, 4);
        Check.due("all have moved", x.order(0), 5);
        x.move(1, 2);
        Check.due("two have", x.order(0), 2);
        // Those that look alike are other jobs all the same.
        Check.due("0 and 1 change with 2 and 3", Check.board("p0s0n1d9;p0s0n1d9;p0s0n1d5;p0s0n1d5").order(0), 4);
        Check.due("the last one stays", Check.board("p0s0n1d9;p0s0n1d5;p0s0n1d5;p0s0n1d9").order(0), 3);
        PrintRacks twelve = twelve();
        twelve.move(11, 0);
        Check.due("all 12", twelve.order(3), 12);
    }

    @Sentence(promise = 8, words = "BAD_VALUE if rule is out of range.")
    static void p08BadValueIfRuleIsOutOfRange() {
        for (int rule : new int[] {-1, 4, 5, 7, Integer.MIN_VALUE, Integer.MAX_VALUE}) {
            Check.due("order(" + rule + ")", Check.board(FIVE).order(rule), PrintRacks.BAD_VALUE);
            Check.due("without jobs", new PrintRacks().order(rule), PrintRacks.BAD_VALUE);
        }
    }
}
