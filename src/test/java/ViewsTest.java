/** Promises 9 to 11: what there is on the board, by jobs, in all, and at a minute. */
public final class ViewsTest {
    public static void main(String[] args) {
        jobOf();
        jobOfErrors();
        washes();
        waiting();
        waitingForSeveral();
        dryAtOnce();
        count();
        countErrors();
        at();
        atErrors();
        jobsThatWereDropped();
        racksOfAMinute();
        viewsChangeNothing();
        Check.end();
    }

    private static void dueOf(PrintRacks x, int job, int... want) {
        for (int what = 0; what < want.length; what++) {
            Check.due("jobOf(" + job + ", " + what + ")", x.jobOf(job, what), want[what]);
        }
    }

    private static void jobOf() {
        PrintRacks x = Check.board("p1s5n6d70;p1s7n5d300;p2s4n20d100");
        dueOf(x, 0, 1, 5, 6, 70, 2, 0, 34, 94, 24, 0, 10, 0);
        dueOf(x, 1, 1, 7, 5, 300, 1, 34, 56, 116, 0, 0, 2, 2);
        dueOf(x, 2, 2, 4, 20, 100, 4, 56, 167, 227, 127, 0, 31, 21);
    }

    private static void jobOfErrors() {
        PrintRacks x = Check.board("p1s5n6d70");
        Check.due("jobOf(-1, 0)", x.jobOf(-1, 0), PrintRacks.NO_SUCH);
        Check.due("jobOf(1, 0)", x.jobOf(1, 0), PrintRacks.NO_SUCH);
        Check.due("jobOf(0, -1)", x.jobOf(0, -1), PrintRacks.BAD_VALUE);
        Check.due("jobOf(0, 12)", x.jobOf(0, 12), PrintRacks.BAD_VALUE);
        Check.due("jobOf(1, 12)", x.jobOf(1, 12), PrintRacks.NO_SUCH);
        Check.due("jobOf(MAX, MIN)", x.jobOf(Integer.MAX_VALUE, Integer.MIN_VALUE), PrintRacks.NO_SUCH);
        Check.due("jobOf(0, MIN)", x.jobOf(0, Integer.MIN_VALUE), PrintRacks.BAD_VALUE);
    }

    private static void washes() {
        PrintRacks x = Check.board("p0s9n1;p0s0n1;p0s9n1;p0s9n1;p0s8n1");
        int[] wash = {0, 15 + 9 * 2, 2, 0, 15 + 2};
        for (int job = 0; job < wash.length; job++) {
            Check.due("wash of " + job, x.jobOf(job, 11), wash[job]);
            Check.due("ready of " + job, x.jobOf(job, 10), wash[job] + (job == 0 ? 10 : 0));
        }
        Check.due("minutes of washes", x.count(14), 52);
        x.set(PrintRacks.WASH, 0);
        x.set(PrintRacks.SHADE, 9);
        Check.due("81 minutes for nine steps", x.jobOf(1, 11), 81);
        Check.due("9 minutes to nine darker", x.jobOf(2, 11), 9);
        x.set(PrintRacks.PLATE, 0);
        Check.due("a plate is put on in no time", x.jobOf(0, 10), 0);
        Check.due("and counted", x.count(15), 1);
    }

    private static void waiting() {
        PrintRacks x = Check.board("p0s0n20;p0s0n1");
        x.set(PrintRacks.RACKS, 4);
        // Job 0 is printed at 90 and dry at 150; job 1 would be printed at 94.
        dueOf(x, 1, 0, 0, 1, 3000, 1, 146, 150, 210, 0, 56, 0, 0);
        x.set(PrintRacks.DRY, 4);
        dueOf(x, 1, 0, 0, 1, 3000, 1, 90, 94, 98, 0, 0, 0, 0);
        x.set(PrintRacks.DRY, 5);
        dueOf(x, 1, 0, 0, 1, 3000, 1, 91, 95, 100, 0, 1, 0, 0);
    }

    private static void waitingForSeveral() {
        PrintRacks x = Check.board("p0s0n5;p0s0n5;p0s0n5;p0s0n15;p0s0n10");
        x.set(PrintRacks.RACKS, 4);
        x.set(PrintRacks.DRY, 100);
        // Printed at 30, 50, 70 on a rack each; dry at 130, 150, 170. Three racks are free at 150.
        dueOf(x, 3, 0, 0, 15, 3000, 3, 90, 150, 250, 0, 20, 0, 0);
        // One rack at 170 alone is not enough: two more come at 250.
        dueOf(x, 4, 0, 0, 10, 3000, 2, 210, 250, 350, 0, 60, 0, 0);
        Check.due("minutes of waiting", x.count(16), 80);
        Check.due("racks at once", x.count(17), 4);
        Check.due("waiting at 75", x.at(75, 0), PrintRacks.NONE);
        Check.due("making ready at 90", x.at(90, 0), 3);
        Check.due("racks at 149", x.at(149, 1), 2);
        Check.due("racks at 150", x.at(150, 1), 4);
        Check.due("racks at 170", x.at(170, 1), 3);
    }

    private static void dryAtOnce() {
        PrintRacks x = Check.board("p0s0n20d80;p0s0n20d171");
        x.set(PrintRacks.RACKS, 4);
        x.set(PrintRacks.DRY, 0);
        dueOf(x, 0, 0, 0, 20, 80, 4, 0, 90, 90, 10, 0, 10, 0);
        dueOf(x, 1, 0, 0, 20, 171, 4, 90, 170, 170, 0, 0, 0, 0);
        Check.due("no rack at 90", x.at(90, 1), 0);
        Check.due("no racks at once", x.count(17), 0);
        Check.due("one is dry at 90", x.at(90, 3), 1);
    }

    private static void count() {
        PrintRacks x = Check.board("p1s5n6d70;p1s7n5d300;p2s4n20d100");
        Check.write(x, "abc");
        int[] want = {10, 15, 2, 4, 60, 8, 5, 3, 31, 167, 227, 2, 151, 127, 23, 2, 0, 4, 3, 1};
        for (int what = 0; what < want.length; what++) {
            Check.due("count(" + what + ")", x.count(what), want[what]);
        }
        x.set(PrintRacks.DRY, 120);
        Check.due("racks at once, with those of two jobs", x.count(17), 5);
        x.set(PrintRacks.DRY, 500);
        Check.due("racks at once, with those of all", x.count(17), 7);
    }

    private static void countErrors() {
        PrintRacks x = Check.board("p1s5n6d70");
        Check.due("count(-1)", x.count(-1), PrintRacks.BAD_VALUE);
        Check.due("count(20)", x.count(20), PrintRacks.BAD_VALUE);
        Check.due("count(MIN)", x.count(Integer.MIN_VALUE), PrintRacks.BAD_VALUE);
        Check.due("count(MAX)", x.count(Integer.MAX_VALUE), PrintRacks.BAD_VALUE);
    }

    private static void at() {
        PrintRacks x = Check.board("p1s5n6d70;p1s7n5d300;p2s4n20d100");
        int[][] want = {{0, 0, 0, 0, 0}, {33, 0, 0, 0, 0}, {34, 1, 2, 1, 0}, {55, 1, 2, 1, 0}, {56, 2, 3, 2, 0},
            {93, 2, 3, 2, 0}, {94, 2, 1, 2, 1}, {116, 2, 0, 2, 2}, {166, 2, 0, 2, 2},
            {167, PrintRacks.NONE, 4, 3, 2}, {226, PrintRacks.NONE, 4, 3, 2}, {227, PrintRacks.NONE, 0, 3, 3},
            {99999, PrintRacks.NONE, 0, 3, 3}};
        for (int[] row : want) {
            for (int what = 0; what < 4; what++) {
                Check.due("at(" + row[0] + ", " + what + ")", x.at(row[0], what), row[what + 1]);
            }
        }
        PrintRacks empty = new PrintRacks();
        Check.due("no job", empty.at(0, 0), PrintRacks.NONE);
        Check.due("no racks", empty.at(0, 1), 0);
        Check.due("none printed", empty.at(0, 2), 0);
        Check.due("none dry", empty.at(0, 3), 0);
    }

    private static void atErrors() {
        PrintRacks x = Check.board("p1s5n6d70");
        Check.due("at(-1, 0)", x.at(-1, 0), PrintRacks.BAD_VALUE);
        Check.due("at(100000, 0)", x.at(100000, 0), PrintRacks.BAD_VALUE);
        Check.due("at(0, -1)", x.at(0, -1), PrintRacks.BAD_VALUE);
        Check.due("at(0, 4)", x.at(0, 4), PrintRacks.BAD_VALUE);
    }

    private static void jobsThatWereDropped() {
        PrintRacks x = Check.board("p0s0n1d100;p0s0n20d0");
        Check.due("the most racks at once", x.count(17), 4);
        Check.due("the most minutes late", x.count(13), 154);
        x.drop(1);
        Check.due("hundreds", x.count(8), 1);
        Check.due("the most racks at once", x.count(17), 1);
        Check.due("the most minutes late", x.count(13), 0);
        Check.due("racks at 14", x.at(14, 1), 1);
        Check.due("racks at 100", x.at(100, 1), 0);
        Check.due("printed at 200", x.at(200, 2), 1);
        Check.due("none on the press at 50", x.at(50, 0), PrintRacks.NONE);
        Check.due("the racks of a job that is off do not count", x.set(PrintRacks.HOLD, 1), 5);
        Check.due("nor for the least racks", x.leastRacks(), 4);
    }

    private static void racksOfAMinute() {
        PrintRacks x = Check.board("p0s0n20d98;p0s0n1d99");
        x.set(PrintRacks.DRY, 4);
        Check.due("dry as the next one is printed: not at once", x.count(17), 4);
        Check.due("nobody is late", x.count(11), 0);
        x.set(PrintRacks.DRY, 5);
        Check.due("dry a minute later: at once", x.count(17), 5);
        x.set(PrintRacks.DRY, 1);
        Check.due("racks for a minute", x.count(17), 4);
        x.due(1, 94);
        Check.due("late by a minute", x.count(11), 1);
        x.due(1, 95);
        Check.due("late by none", x.count(11), 0);
    }

    private static void viewsChangeNothing() {
        PrintRacks x = Check.board("p1s5n6d70;p1s7n5d300;p2s4n20d100");
        for (int what = 0; what < 20; what++) {
            x.count(what);
            x.jobOf(1, what);
            x.at(100, what);
        }
        Check.dueJobs("views", x, "p1s5n6d70;p1s7n5d300;p2s4n20d100");
        Check.due("changes", x.count(19), 1);
    }
}
