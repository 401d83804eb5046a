/** Promises 9 to 11: jobOf, count, at. */
final class ViewsSentences {
    private static final String THREE = "p1s5n6d70;p1s7n5d300;p2s4n20d100";

    private ViewsSentences() {
    }

    /** Four jobs of 2, 1, 4 and 3 racks, that are printed at 34, 56, 167 and 238 on the 4 that there are. */
    private static PrintRacks tight() {
        PrintRacks x = Check.board(THREE + ";p2s0n12d2000");
        Check.due("RACKS", x.set(PrintRacks.RACKS, 4), 8);
        return x;
    }

    /** Job 2 waits until the sheets of job 1 are dry, at 256; job 3 until those of job 2 are, at 456. */
    private static PrintRacks slow() {
        PrintRacks x = tight();
        Check.due("DRY", x.set(PrintRacks.DRY, 200), 60);
        return x;
    }

    private static void dueOfJobs(int what, int... want) {
        PrintRacks x = slow();
        for (int job = 0; job < want.length; job++) {
            Check.due("jobOf(" + job + ", " + what + ")", x.jobOf(job, what), want[job]);
        }
        Check.due("of a job that is not there", x.jobOf(want.length, what), PrintRacks.NO_SUCH);
    }

    @Sentence(promise = 9, words = "Ahead of the calls `jobOf`, `count`, `at` the interface says: "
            + "---- what there is; nothing changes.")
    static void p09ToP11NothingChanges() {
        for (int what = -1; what <= 20; what++) {
            int each = what;
            Look.dueUnchanged("count(" + what + ")", Look::busy, x -> x.count(each));
            Look.dueUnchanged("jobOf(1, " + what + ")", Look::busy, x -> x.jobOf(1, each));
            Look.dueUnchanged("at(100, " + what + ")", Look::busy, x -> x.at(100, each));
        }
    }

    // ---- promise 9

    @Sentence(promise = 9, words = "Returns something about a job.")
    static void p09AboutAJob() {
        PrintRacks x = Check.board(THREE);
        int[][] want = {{1, 5, 6, 70, 2, 0, 34, 94, 24, 0, 10, 0}, {1, 7, 5, 300, 1, 34, 56, 116, 0, 0, 2, 2},
            {2, 4, 20, 100, 4, 56, 167, 227, 127, 0, 31, 21}};
        for (int job = 0; job < 3; job++) {
            for (int what = 0; what <= 11; what++) {
                Check.due("jobOf(" + job + ", " + what + ")", x.jobOf(job, what), want[job][what]);
            }
        }
    }

    @Sentence(promise = 9, words = "- `what`: 0 its plate,")
    static void p09What0ItsPlate() {
        dueOfJobs(0, 1, 1, 2, 2);
    }

    @Sentence(promise = 9, words = "1 its shade,")
    static void p09What1ItsShade() {
        dueOfJobs(1, 5, 7, 4, 0);
    }

    @Sentence(promise = 9, words = "2 its hundreds,")
    static void p09What2ItsHundreds() {
        dueOfJobs(2, 6, 5, 20, 12);
    }

    @Sentence(promise = 9, words = "3 its due time,")
    static void p09What3ItsDueTime() {
        dueOfJobs(3, 70, 300, 100, 2000);
    }

    @Sentence(promise = 9, words = "4 its racks,")
    static void p09What4ItsRacks() {
        dueOfJobs(4, 2, 1, 4, 3);
    }

    @Sentence(promise = 9, words = "5 the minute at which it begins,")
    static void p09What5TheMinuteAtWhichItBegins() {
        dueOfJobs(5, 0, 34, 256 - 80 - 31, 456 - 48 - 23);
    }

    @Sentence(promise = 9, words = "6 the minute at which it is printed,")
    static void p09What6TheMinuteAtWhichItIsPrinted() {
        dueOfJobs(6, 34, 56, 256, 456);
    }

    @Sentence(promise = 9, words = "7 the minute at which it is dry,")
    static void p09What7TheMinuteAtWhichItIsDry() {
        dueOfJobs(7, 234, 256, 456, 656);
    }

    @Sentence(promise = 9, words = "8 by how many minutes it is late,")
    static void p09What8ByHowManyMinutesItIsLate() {
        dueOfJobs(8, 164, 0, 356, 0);
    }

    @Sentence(promise = 9, words = "9 how many minutes the press waits for racks ahead of it,")
    static void p09What9HowManyMinutesThePressWaits() {
        dueOfJobs(9, 0, 0, 256 - 167, 456 - 256 - 71);
    }

    @Sentence(promise = 9, words = "10 the minutes that it takes to make ready,")
    static void p09What10TheMinutesToMakeReady() {
        dueOfJobs(10, 10, 2, 31, 23);
    }

    @Sentence(promise = 9, words = "11 of these for the wash")
    static void p09What11OfTheseForTheWash() {
        dueOfJobs(11, 0, 2, 21, 23);
    }

    @Sentence(promise = 9, words = "Returns the number;")
    static void p09ReturnsTheNumberOfTheJobThatIsThere() {
        PrintRacks x = Check.board(THREE);
        x.drop(0);
        int[] want = {1, 7, 5, 300, 1, 0, 30, 90, 0, 0, 10, 0};
        for (int what = 0; what <= 11; what++) {
            Check.due("jobOf(0, " + what + ") behind drop(0)", x.jobOf(0, what), want[what]);
        }
    }

    @Sentence(promise = 9, words = "NO_SUCH if there is no such job;")
    static void p09NoSuchIfThereIsNoSuchJob() {
        PrintRacks x = Check.board(THREE);
        for (int what = 0; what <= 11; what++) {
            for (int job : new int[] {-1, 3, 4, 11, 12, Integer.MIN_VALUE, Integer.MAX_VALUE}) {
                Check.due("jobOf(" + job + ", " + what + ")", x.jobOf(job, what), PrintRacks.NO_SUCH);
            }
            Check.due("without jobs", new PrintRacks().jobOf(0, what), PrintRacks.NO_SUCH);
        }
        x.drop(2);
        Check.due("job 2 behind drop(2)", x.jobOf(2, 0), PrintRacks.NO_SUCH);
        Check.due("job 1 behind drop(2)", x.jobOf(1, 0), 1);
    }

    @Sentence(promise = 9, words = "BAD_VALUE if what is out of range.")
    static void p09BadValueIfWhatIsOutOfRange() {
        PrintRacks x = Check.board(THREE);
        for (int what : new int[] {-1, 12, 13, 19, Integer.MIN_VALUE, Integer.MAX_VALUE}) {
            for (int job = 0; job < 3; job++) {
                Check.due("jobOf(" + job + ", " + what + ")", x.jobOf(job, what), PrintRacks.BAD_VALUE);
            }
        }
    }

    // ---- promise 10

    private static void dueCount(PrintRacks x, int what, int want) {
        Check.due("count(" + what + ")", x.count(what), want);
    }

    @Sentence(promise = 10, words = "Returns a number.")
    static void p10ANumber() {
        PrintRacks x = slow();
        Check.write(x, "abc");
        int[] want = {10, 15, 2, 4, 200, 4, 5, 4, 43, 456, 656, 2, 520, 356, 46, 2, 89 + 129, 4, 3, 3};
        for (int what = 0; what <= 19; what++) {
            dueCount(x, what, want[what]);
        }
    }

    @Sentence(promise = 10, words = "- `what`: 0 to 6 the settings,")
    static void p10What0To6TheSettings() {
        PrintRacks x = Check.board(THREE);
        int[] values = {60, 0, 9, 20, 500, 20, 1};
        for (int setting = 0; setting <= 6; setting++) {
            x.set(setting, values[setting]);
        }
        for (int setting = 0; setting <= 6; setting++) {
            dueCount(x, setting, values[setting]);
        }
    }

    @Sentence(promise = 10, words = "7 jobs,")
    static void p10What7Jobs() {
        PrintRacks x = new PrintRacks();
        for (int jobs = 0; jobs < 12; jobs++) {
            dueCount(x, 7, jobs);
            x.job(0, 0, 20, 0);
        }
        dueCount(x, 7, 12);
        x.drop(11);
        dueCount(x, 7, 11);
    }

    @Sentence(promise = 10, words = "8 hundreds of all jobs,")
    static void p10What8HundredsOfAllJobs() {
        PrintRacks x = new PrintRacks();
        dueCount(x, 8, 0);
        for (int jobs = 1; jobs <= 12; jobs++) {
            x.job(0, 0, 20, 0);
            dueCount(x, 8, 20 * jobs);
        }
        x.drop(3);
        dueCount(x, 8, 220);
        x.job(0, 0, 1, 0);
        dueCount(x, 8, 221);
    }

    @Sentence(promise = 10, words = "9 the minute at which the last job is printed (0 without jobs),")
    static void p10What9TheMinuteAtWhichTheLastJobIsPrinted() {
        PrintRacks x = new PrintRacks();
        dueCount(x, 9, 0);
        x.job(0, 0, 1, 0);
        dueCount(x, 9, 14);
        x.job(0, 0, 2, 0);
        dueCount(x, 9, 22);
        x.drop(1);
        dueCount(x, 9, 14);
        x.drop(0);
        dueCount(x, 9, 0);
    }

    @Sentence(promise = 10, words = "10 the minute at which all are dry (0 without jobs),")
    static void p10What10TheMinuteAtWhichAllAreDry() {
        PrintRacks x = new PrintRacks();
        dueCount(x, 10, 0);
        x.job(0, 0, 1, 0);
        dueCount(x, 10, 74);
        x.job(0, 0, 2, 0);
        dueCount(x, 10, 82);
        x.set(PrintRacks.DRY, 0);
        dueCount(x, 10, 22);
        x.drop(0);
        x.drop(0);
        dueCount(x, 10, 0);
        x.set(PrintRacks.DRY, 500);
        dueCount(x, 10, 0);
    }

    @Sentence(promise = 10, words = "11 jobs that are late,")
    static void p10What11JobsThatAreLate() {
        // Dry at 74, 82, 86.
        PrintRacks x = Check.board("p0s0n1d74;p0s0n2d82;p0s0n1d86");
        dueCount(x, 11, 0);
        x.due(1, 81);
        dueCount(x, 11, 1);
        x.due(0, 0);
        dueCount(x, 11, 2);
        x.due(2, 85);
        dueCount(x, 11, 3);
        dueCount(new PrintRacks(), 11, 0);
    }

    @Sentence(promise = 10, words = "12 the sum of the minutes by which they are,")
    static void p10What12TheSumOfTheMinutesByWhichTheyAre() {
        PrintRacks x = Check.board("p0s0n1d74;p0s0n2d3000;p0s0n1d86");
        dueCount(x, 12, 0);
        x.due(0, 73);
        dueCount(x, 12, 1);
        x.due(2, 0);
        dueCount(x, 12, 87);
        x.due(1, 0);
        dueCount(x, 12, 169);
        dueCount(new PrintRacks(), 12, 0);
    }

    @Sentence(promise = 10, words = "13 the most minutes by which one is,")
    static void p10What13TheMostMinutesByWhichOneIs() {
        PrintRacks x = Check.board("p0s0n1d74;p0s0n2d3000;p0s0n1d86");
        dueCount(x, 13, 0);
        x.due(2, 85);
        dueCount(x, 13, 1);
        x.due(0, 4);
        dueCount(x, 13, 70);
        x.due(1, 80);
        dueCount(x, 13, 70);
        x.due(1, 10);
        dueCount(x, 13, 72);
        x.due(1, 80);
        dueCount(x, 13, 70);
        x.due(0, 3000);
        dueCount(x, 13, 2);
        x.due(1, 3000);
        x.due(2, 3000);
        dueCount(x, 13, 0);
        dueCount(new PrintRacks(), 13, 0);
    }

    @Sentence(promise = 10, words = "14 minutes of washes,")
    static void p10What14MinutesOfWashes() {
        PrintRacks x = Check.board("p0s9n1;p1s9n1;p0s0n1;p0s9n1;p0s8n1");
        dueCount(x, 14, 33 + 2 + 17);
        x.set(PrintRacks.PLATE, 60);
        dueCount(x, 14, 52);
        x.drop(2);
        dueCount(x, 14, 17);
        x.drop(3);
        dueCount(x, 14, 0);
        dueCount(new PrintRacks(), 14, 0);
    }

    @Sentence(promise = 10, words = "15 how often a plate is put on,")
    static void p10What15HowOftenAPlateIsPutOn() {
        PrintRacks x = Check.board("p0s0n1;p0s0n1;p1s0n1;p0s0n1;p9s0n1;p9s0n1");
        dueCount(x, 15, 4);
        x.set(PrintRacks.PLATE, 0);
        dueCount(x, 15, 4);
        x.drop(2);
        dueCount(x, 15, 2);
        dueCount(Check.board("p0s0n1"), 15, 1);
        dueCount(new PrintRacks(), 15, 0);
    }

    @Sentence(promise = 10, words = "16 minutes for which the press waits for racks,")
    static void p10What16MinutesForWhichThePressWaits() {
        dueCount(slow(), 16, 89 + 129);
        dueCount(tight(), 16, 0);
        PrintRacks x = Check.board("p0s0n20;p0s0n1");
        x.set(PrintRacks.RACKS, 4);
        x.set(PrintRacks.DRY, 5);
        dueCount(x, 16, 1);
        x.set(PrintRacks.DRY, 4);
        dueCount(x, 16, 0);
        dueCount(new PrintRacks(), 16, 0);
    }

    @Sentence(promise = 10, words = "17 the most racks that are taken at once,")
    static void p10What17TheMostRacksThatAreTakenAtOnce() {
        PrintRacks x = Check.board("p0s0n20;p0s0n1");
        // Printed at 90 and 94.
        int[][] want = {{0, 0}, {1, 4}, {4, 4}, {5, 5}, {500, 5}};
        for (int[] row : want) {
            x.set(PrintRacks.DRY, row[0]);
            dueCount(x, 17, row[1]);
        }
        x.set(PrintRacks.RACKS, 4);
        dueCount(x, 17, 4);
        PrintRacks y = Check.board("p0s0n1;p0s0n1;p0s0n1;p0s0n20");
        y.set(PrintRacks.DRY, 8);
        // Printed at 14, 18, 22, dry at 22, 26, 30: two of them at once; then four for the last one.
        dueCount(y, 17, 4);
        y.drop(3);
        dueCount(y, 17, 2);
        dueCount(new PrintRacks(), 17, 0);
    }

    @Sentence(promise = 10, words = "18 the length of the pad,")
    static void p10What18TheLengthOfThePad() {
        PrintRacks x = new PrintRacks();
        dueCount(x, 18, 0);
        for (int length = 1; length <= 60; length++) {
            x.put('x');
            dueCount(x, 18, length);
        }
        x.put('x');
        dueCount(x, 18, 60);
        x.wipe();
        dueCount(x, 18, 0);
    }

    @Sentence(promise = 10, words = "19 how many changes can be undone")
    static void p10What19HowManyChangesCanBeUndone() {
        PrintRacks x = new PrintRacks();
        for (int changes = 0; changes <= 8; changes++) {
            dueCount(x, 19, Math.min(changes, 6));
            x.order(0);
        }
        for (int left = 5; left >= 0; left--) {
            x.undo();
            dueCount(x, 19, left);
        }
        x.undo();
        dueCount(x, 19, 0);
    }

    @Sentence(promise = 10, words = "Returns the number;")
    static void p10ReturnsTheNumberWithAFullBoard() {
        PrintRacks x = new PrintRacks();
        int[] settings = {60, 60, 9, 20, 500, 4, 5};
        for (int setting = 0; setting <= 6; setting++) {
            x.set(setting, settings[setting]);
        }
        for (int job = 0; job < 12; job++) {
            x.job(job % 2, job % 2 == 0 ? 9 : 0, 20, 0);
        }
        // Job 0 takes 60 + 400 minutes; behind a darker one 60 + 141 + 400; behind a lighter one 60 + 9 + 400, which is
        // 31 minutes less than the 500 for which the sheets of the job before are on all the racks.
        int printed = 460 + 6 * 601 + 5 * 469;
        int waits = 5 * 31;
        int lateSum = 0;
        int end = 460;
        for (int job = 0; job < 12; job++) {
            end += job == 0 ? 0 : job % 2 == 1 ? 601 : 500;
            lateSum += end + 500;
        }
        dueCount(x, 9, printed + waits);
        dueCount(x, 10, printed + waits + 500);
        dueCount(x, 11, 12);
        dueCount(x, 12, lateSum);
        dueCount(x, 13, printed + waits + 500);
        dueCount(x, 14, 6 * 141 + 5 * 9);
        dueCount(x, 15, 12);
        dueCount(x, 16, waits);
        dueCount(x, 17, 4);
    }

    @Sentence(promise = 10, words = "BAD_VALUE if what is out of range.")
    static void p10BadValueIfWhatIsOutOfRange() {
        PrintRacks x = Check.board(THREE);
        for (int what : new int[] {-1, 20, 21, 100, Integer.MIN_VALUE, Integer.MAX_VALUE}) {
            dueCount(x, what, PrintRacks.BAD_VALUE);
            dueCount(new PrintRacks(), what, PrintRacks.BAD_VALUE);
        }
    }

    // ---- promise 11

    private static void dueAt(PrintRacks x, int what, int... minutesAndAnswers) {
        for (int i = 0; i < minutesAndAnswers.length; i += 2) {
            int minute = minutesAndAnswers[i];
            Check.due("at(" + minute + ", " + what + ")", x.at(minute, what), minutesAndAnswers[i + 1]);
        }
    }

    @Sentence(promise = 11, words = "Tells what is at a minute.")
    static void p11WhatIsAtAMinute() {
        PrintRacks x = Check.board(THREE);
        int[][] want = {{0, 0, 0, 0, 0}, {33, 0, 0, 0, 0}, {34, 1, 2, 1, 0}, {55, 1, 2, 1, 0}, {56, 2, 3, 2, 0},
            {93, 2, 3, 2, 0}, {94, 2, 1, 2, 1}, {115, 2, 1, 2, 1}, {116, 2, 0, 2, 2}, {166, 2, 0, 2, 2},
            {167, PrintRacks.NONE, 4, 3, 2}, {226, PrintRacks.NONE, 4, 3, 2}, {227, PrintRacks.NONE, 0, 3, 3}};
        for (int[] row : want) {
            for (int what = 0; what < 4; what++) {
                dueAt(x, what, row[0], row[what + 1]);
            }
        }
    }

    @Sentence(promise = 11, words = "- `minute`: 0 to 99999")
    static void p11Minute0To99999() {
        PrintRacks x = Check.board(THREE);
        dueAt(x, 0, 0, 0, 99999, PrintRacks.NONE, -1, PrintRacks.BAD_VALUE, 100000, PrintRacks.BAD_VALUE);
        dueAt(x, 1, 0, 0, 99999, 0, -1, PrintRacks.BAD_VALUE, 100000, PrintRacks.BAD_VALUE);
        dueAt(x, 2, 0, 0, 99999, 3, -1, PrintRacks.BAD_VALUE, 100000, PrintRacks.BAD_VALUE);
        dueAt(x, 3, 0, 0, 99999, 3, -1, PrintRacks.BAD_VALUE, 100000, PrintRacks.BAD_VALUE);
    }

    @Sentence(promise = 11, words = "- `what`: 0 the job that the press makes ready or prints")
    static void p11What0TheJobThatThePressMakesReadyOrPrints() {
        // Job 2 begins at 145 and is printed at 256; job 3 begins at 385 and is printed at 456.
        dueAt(slow(), 0, 0, 0, 9, 0, 10, 0, 33, 0, 34, 1, 55, 1, 145, 2, 175, 2, 176, 2, 255, 2, 385, 3, 407, 3, 408, 3,
                455, 3);
    }

    @Sentence(promise = 11, words = "(NONE: it waits, or is done),")
    static void p11What0NoneItWaitsOrIsDone() {
        int none = PrintRacks.NONE;
        dueAt(slow(), 0, 56, none, 100, none, 144, none, 256, none, 384, none, 456, none, 656, none, 99999, none);
        dueAt(new PrintRacks(), 0, 0, none, 1, none, 99999, none);
    }

    @Sentence(promise = 11, words = "1 racks that are taken,")
    static void p11What1RacksThatAreTaken() {
        dueAt(slow(), 1, 0, 0, 33, 0, 34, 2, 55, 2, 56, 3, 233, 3, 234, 1, 255, 1, 256, 4, 455, 4, 456, 3, 655, 3, 656, 0,
                99999, 0);
        dueAt(new PrintRacks(), 1, 0, 0, 99999, 0);
    }

    @Sentence(promise = 11, words = "2 jobs that are printed,")
    static void p11What2JobsThatArePrinted() {
        dueAt(slow(), 2, 0, 0, 33, 0, 34, 1, 55, 1, 56, 2, 255, 2, 256, 3, 455, 3, 456, 4, 656, 4, 99999, 4);
        dueAt(new PrintRacks(), 2, 0, 0, 99999, 0);
    }

    @Sentence(promise = 11, words = "3 jobs that are dry")
    static void p11What3JobsThatAreDry() {
        dueAt(slow(), 3, 0, 0, 34, 0, 233, 0, 234, 1, 255, 1, 256, 2, 455, 2, 456, 3, 655, 3, 656, 4, 99999, 4);
        dueAt(new PrintRacks(), 3, 0, 0, 99999, 0);
    }

    @Sentence(promise = 11, words = "Returns the number;")
    static void p11ReturnsTheNumberOfJobsThatAreThere() {
        PrintRacks x = Check.board(THREE);
        dueAt(x, 0, 100, 2);
        dueAt(x, 1, 167, 4);
        x.drop(2);
        dueAt(x, 0, 55, 1, 56, PrintRacks.NONE, 100, PrintRacks.NONE);
        dueAt(x, 1, 55, 2, 56, 3, 167, 0);
        dueAt(x, 2, 55, 1, 56, 2, 167, 2);
        dueAt(x, 3, 93, 0, 94, 1, 116, 2, 227, 2);
        PrintRacks full = new PrintRacks();
        for (int job = 0; job < 12; job++) {
            full.job(0, 0, 1, 0);
        }
        full.set(PrintRacks.RACKS, 20);
        // Printed at 14, 18 .. 58, dry at 74 .. 118.
        for (int minute = 0; minute <= 120; minute++) {
            int printed = minute < 14 ? 0 : Math.min(12, (minute - 10) / 4);
            int dry = minute < 74 ? 0 : Math.min(12, (minute - 70) / 4);
            dueAt(full, 0, minute, printed < 12 ? printed : PrintRacks.NONE);
            dueAt(full, 1, minute, printed - dry);
            dueAt(full, 2, minute, printed);
            dueAt(full, 3, minute, dry);
        }
    }

    @Sentence(promise = 11, words = "BAD_VALUE if an argument is out of range.")
    static void p11BadValueIfAnArgumentIsOutOfRange() {
        PrintRacks x = Check.board(THREE);
        int[] off = {-1, 100000, 100001, Integer.MIN_VALUE, Integer.MAX_VALUE};
        for (int each : off) {
            for (int good = 0; good < 4; good++) {
                Check.due("at(" + each + ", " + good + ")", x.at(each, good), PrintRacks.BAD_VALUE);
                Check.due("at(" + good + ", " + each + ")", x.at(good, each), PrintRacks.BAD_VALUE);
            }
            Check.due("at(" + each + ", -1)", x.at(each, -1), PrintRacks.BAD_VALUE);
        }
        Check.due("at(0, 4)", x.at(0, 4), PrintRacks.BAD_VALUE);
        Check.due("at(99999, 4)", x.at(99999, 4), PrintRacks.BAD_VALUE);
    }
}
