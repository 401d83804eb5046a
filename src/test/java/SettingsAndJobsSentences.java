/** The settings, the jobs and the board in the terms; promises 1 to 3. */
final class SettingsAndJobsSentences {
    private static final int[] FAR_OFF = {Integer.MIN_VALUE, Integer.MIN_VALUE + 1, -1000000, 1000000,
        Integer.MAX_VALUE - 1, Integer.MAX_VALUE};
    private static final int[] FIRST = {10, 15, 2, 4, 60, 8, 5};
    private static final int[] LEAST = {0, 0, 0, 1, 0, 4, 1};
    private static final int[] MOST = {60, 60, 9, 20, 500, 20, 10};

    private SettingsAndJobsSentences() {
    }

    // ---- promise 1

    @Sentence(promise = 1, words = "Creates an empty board.")
    static void p01EmptyBoard() {
        PrintRacks x = new PrintRacks();
        for (int what = 7; what <= 19; what++) {
            Check.due("count(" + what + ")", x.count(what), 0);
        }
        Check.due("jobOf(0, 0)", x.jobOf(0, 0), PrintRacks.NO_SUCH);
        Check.due("drop(0)", x.drop(0), PrintRacks.NO_SUCH);
        Check.due("move(0, 0)", x.move(0, 0), PrintRacks.NO_SUCH);
        Check.due("due(0, 0)", x.due(0, 0), PrintRacks.NO_SUCH);
        Check.due("fault()", x.fault(), 0);
        Check.due("read()", x.read(), PrintRacks.BAD_TEXT);
        Check.due("undo()", x.undo(), PrintRacks.NOT_POSSIBLE);
        Check.due("restore(0)", x.restore(0), PrintRacks.NOT_POSSIBLE);
        Check.due("restore(1)", x.restore(1), PrintRacks.NOT_POSSIBLE);
        Check.due("job()", x.job(0, 0, 1, 0), 0);
        PrintRacks other = new PrintRacks();
        Check.due("jobs of another new object", other.count(7), 0);
        Check.due("jobs of the first one then", x.count(7), 1);
    }

    @Sentence(promise = 1, words = "An object is used for at most 512 calls after it has been made")
    static void p01The512thCall() {
        PrintRacks x = new PrintRacks();
        int before = 60;
        for (int call = 1; call <= 510; call++) {
            int value = call % 501;
            Check.due("set, call " + call, x.set(PrintRacks.DRY, value), before);
            before = value;
        }
        Check.due("undo(), call 511", x.undo(), 5);
        Check.due("count(4), call 512", x.count(PrintRacks.DRY), 8);
    }

    // ---- the settings, promise 2

    @Sentence(promise = 2, words = "(In parentheses: range; first value.)")
    static void p02FirstValues() {
        PrintRacks x = new PrintRacks();
        for (int setting = 0; setting <= 6; setting++) {
            Check.due("count(" + setting + ")", x.count(setting), FIRST[setting]);
            Check.due("set to what it is", x.set(setting, FIRST[setting]), FIRST[setting]);
        }
    }

    private static void dueRange(int setting) {
        PrintRacks x = new PrintRacks();
        Check.due("the first value", x.count(setting), FIRST[setting]);
        int before = FIRST[setting];
        for (int value = LEAST[setting]; value <= MOST[setting]; value++) {
            Check.due("set to " + value, x.set(setting, value), before);
            before = value;
            if (value % 50 == 49) {
                x = new PrintRacks();
                x.set(setting, value);
            }
        }
        Check.due("set below the range", x.set(setting, LEAST[setting] - 1), PrintRacks.BAD_VALUE);
        Check.due("set above the range", x.set(setting, MOST[setting] + 1), PrintRacks.BAD_VALUE);
        Check.due("it stays", x.count(setting), MOST[setting]);
        Check.due("back to the least", x.set(setting, LEAST[setting]), MOST[setting]);
        Check.due("it is the least", x.count(setting), LEAST[setting]);
    }

    /** What is told about the last job of a board with a setting. */
    private static int ofLast(String jobs, int setting, int value, int what) {
        PrintRacks x = Check.board(jobs);
        Check.isTrue("set(" + setting + ", " + value + ")", x.set(setting, value) >= 0);
        return x.jobOf(x.count(7) - 1, what);
    }

    @Sentence(promise = 2, words = "PLATE (0 to 60; 10),")
    static void p02Plate0To60() {
        dueRange(PrintRacks.PLATE);
        Check.due("ready with 0", ofLast("p3s3n1", PrintRacks.PLATE, 0, 10), 0);
        Check.due("ready with 60", ofLast("p3s3n1", PrintRacks.PLATE, 60, 10), 60);
    }

    @Sentence(promise = 2, words = "WASH (0 to 60; 15),")
    static void p02Wash0To60() {
        dueRange(PrintRacks.WASH);
        Check.due("wash with 0", ofLast("p3s4n1;p3s3n1", PrintRacks.WASH, 0, 11), 2);
        Check.due("wash with 60", ofLast("p3s4n1;p3s3n1", PrintRacks.WASH, 60, 11), 62);
    }

    @Sentence(promise = 2, words = "SHADE (0 to 9; 2): minutes.")
    static void p02Shade0To9() {
        dueRange(PrintRacks.SHADE);
        Check.due("wash with 0", ofLast("p3s3n1;p3s4n1", PrintRacks.SHADE, 0, 11), 0);
        Check.due("wash with 9", ofLast("p3s3n1;p3s4n1", PrintRacks.SHADE, 9, 11), 9);
    }

    @Sentence(promise = 2, words = "RUN (1 to 20; 4): minutes a hundred.")
    static void p02Run1To20() {
        dueRange(PrintRacks.RUN);
        Check.due("printed with 1", ofLast("p3s3n3", PrintRacks.RUN, 1, 6), 13);
        Check.due("printed with 20", ofLast("p3s3n3", PrintRacks.RUN, 20, 6), 70);
    }

    @Sentence(promise = 2, words = "DRY (0 to 500; 60): minutes.")
    static void p02Dry0To500() {
        dueRange(PrintRacks.DRY);
        Check.due("dry with 0", ofLast("p3s3n3", PrintRacks.DRY, 0, 7), 22);
        Check.due("dry with 500", ofLast("p3s3n3", PrintRacks.DRY, 500, 7), 522);
    }

    @Sentence(promise = 2, words = "RACKS (4 to 20; 8).")
    static void p02Racks4To20() {
        dueRange(PrintRacks.RACKS);
        // The first sheets are dry at 150; the others would be printed at 110.
        Check.due("waits with 4", ofLast("p0s0n20;p0s0n5", PrintRacks.RACKS, 4, 9), 40);
        Check.due("does not with 5", ofLast("p0s0n20;p0s0n5", PrintRacks.RACKS, 5, 9), 0);
        Check.due("does not with 20", ofLast("p0s0n20;p0s0n5", PrintRacks.RACKS, 20, 9), 0);
    }

    @Sentence(promise = 2, words = "HOLD (1 to 10; 5): hundreds a rack.")
    static void p02Hold1To10() {
        dueRange(PrintRacks.HOLD);
        Check.due("racks with 1", ofLast("p3s3n7", PrintRacks.HOLD, 1, 4), 7);
        Check.due("racks with 10", ofLast("p3s3n10", PrintRacks.HOLD, 10, 4), 1);
        Check.due("racks with 10", ofLast("p3s3n11", PrintRacks.HOLD, 10, 4), 2);
    }

    @Sentence(promise = 2, words = "`PLATE = 0, WASH = 1, SHADE = 2, RUN = 3, DRY = 4, RACKS = 5, HOLD = 6`: Settings.")
    static void p02NumbersOfTheSettings() {
        int[] numbers = {PrintRacks.PLATE, PrintRacks.WASH, PrintRacks.SHADE, PrintRacks.RUN, PrintRacks.DRY,
            PrintRacks.RACKS, PrintRacks.HOLD};
        PrintRacks x = new PrintRacks();
        for (int number = 0; number <= 6; number++) {
            Check.due("the constant", numbers[number], number);
            Check.due("set(" + number + ", 6)", x.set(number, 6), FIRST[number]);
        }
    }

    // ---- promise 2

    @Sentence(promise = 2, words = "Changes a setting.")
    static void p02ChangesASetting() {
        for (int changed = 0; changed <= 6; changed++) {
            PrintRacks x = Check.board("p1s5n6d70;p2s4n20d100");
            x.set(changed, MOST[changed]);
            for (int setting = 0; setting <= 6; setting++) {
                int want = setting == changed ? MOST[setting] : FIRST[setting];
                Check.due("setting " + setting + " behind a change of " + changed, x.count(setting), want);
            }
            Check.dueJobs("set()", x, "p1s5n6d70;p2s4n20d100");
        }
    }

    @Sentence(promise = 2, words = "This is a change.")
    static void p02IsAChange() {
        for (int setting = 0; setting <= 6; setting++) {
            int each = setting;
            Look.dueChange("set to the most", Look::busy, x -> x.set(each, MOST[each]));
            Look.dueChange("set to the same", Look::busy, x -> x.set(each, x.count(each)));
        }
    }

    @Sentence(promise = 2, words = "Returns the previous value;")
    static void p02ReturnsThePreviousValue() {
        PrintRacks x = new PrintRacks();
        Check.due("the first time", x.set(PrintRacks.DRY, 0), 60);
        Check.due("behind 0", x.set(PrintRacks.DRY, 500), 0);
        Check.due("behind 500", x.set(PrintRacks.DRY, 500), 500);
        Check.due("behind a refused one", x.set(PrintRacks.DRY, 501), PrintRacks.BAD_VALUE);
        Check.due("behind 500", x.set(PrintRacks.DRY, 7), 500);
        x.undo();
        Check.due("behind one that was undone", x.set(PrintRacks.DRY, 8), 500);
    }

    @Sentence(promise = 2, words = "BAD_VALUE if there is no such setting,")
    static void p02BadValueIfNoSuchSetting() {
        PrintRacks x = new PrintRacks();
        for (int value : new int[] {-1, 0, 1, 4, 5, 10, Integer.MAX_VALUE}) {
            Check.due("set(-1)", x.set(-1, value), PrintRacks.BAD_VALUE);
            Check.due("set(7)", x.set(7, value), PrintRacks.BAD_VALUE);
            for (int setting : FAR_OFF) {
                Check.due("set(" + setting + ")", x.set(setting, value), PrintRacks.BAD_VALUE);
            }
        }
    }

    @Sentence(promise = 2, words = "or value is out of its range;")
    static void p02BadValueIfValueIsOutOfItsRange() {
        for (int setting = 0; setting <= 6; setting++) {
            PrintRacks x = new PrintRacks();
            Check.due("below", x.set(setting, LEAST[setting] - 1), PrintRacks.BAD_VALUE);
            Check.due("above", x.set(setting, MOST[setting] + 1), PrintRacks.BAD_VALUE);
            for (int value : FAR_OFF) {
                Check.due("set(" + setting + ", " + value + ")", x.set(setting, value), PrintRacks.BAD_VALUE);
            }
            Check.due("it stays", x.count(setting), FIRST[setting]);
        }
    }

    @Sentence(promise = 2, words = "NOT_POSSIBLE if a job would need more racks than there are.")
    static void p02NotPossibleIfAJobWouldNeedMoreRacks() {
        for (String jobs : new String[] {"p0s0n20;p0s0n3;p0s0n4", "p0s0n3;p0s0n20;p0s0n4", "p0s0n4;p0s0n3;p0s0n20"}) {
            PrintRacks x = Check.board(jobs);
            Check.due("4 racks are enough by 5", x.set(PrintRacks.RACKS, 4), 8);
            Check.due("not by 4", x.set(PrintRacks.HOLD, 4), PrintRacks.NOT_POSSIBLE);
            Check.due("by 6", x.set(PrintRacks.HOLD, 6), 5);
            Check.due("by 5 again", x.set(PrintRacks.HOLD, 5), 6);
            Check.due("5 racks", x.set(PrintRacks.RACKS, 5), 4);
            Check.due("are enough by 4", x.set(PrintRacks.HOLD, 4), 5);
            Check.due("and 4 are not", x.set(PrintRacks.RACKS, 4), PrintRacks.NOT_POSSIBLE);
            Check.due("other settings are not asked", x.set(PrintRacks.DRY, 500), 60);
        }
        PrintRacks x = Check.board("p0s0n8;p0s0n8");
        Check.due("the jobs' racks are not added", x.set(PrintRacks.HOLD, 1), 5);
        x.drop(0);
        x.drop(0);
        Check.due("without jobs", x.set(PrintRacks.RACKS, 4), 8);
    }

    /** Racks that a job needs, counted one by one. */
    private static int racksOf(int hundreds, int hold) {
        int racks = 0;
        for (int left = hundreds; left > 0; left -= hold) {
            racks++;
        }
        return racks;
    }

    @Sentence(promise = 2, words = "and RACKS and HOLD never become such that one on it does.")
    static void p02RacksAndHoldNeverBecomeSuch() {
        for (int hundreds = 1; hundreds <= 20; hundreds++) {
            for (int hold = 1; hold <= 10; hold++) {
                for (int racks = 4; racks <= 20; racks++) {
                    boolean fits = racksOf(hundreds, hold) <= racks;
                    String all = hundreds + " hundreds by " + hold + " on " + racks;
                    PrintRacks x = new PrintRacks();
                    x.set(PrintRacks.RACKS, 20);
                    x.job(0, 0, hundreds, 0);
                    x.set(PrintRacks.HOLD, hold);
                    Check.due(all, x.set(PrintRacks.RACKS, racks), fits ? 20 : PrintRacks.NOT_POSSIBLE);
                    PrintRacks y = new PrintRacks();
                    y.set(PrintRacks.HOLD, 10);
                    y.job(0, 0, hundreds, 0);
                    y.set(PrintRacks.RACKS, racks);
                    Check.due(all, y.set(PrintRacks.HOLD, hold), fits ? 10 : PrintRacks.NOT_POSSIBLE);
                }
            }
        }
    }

    // ---- jobs and the board, promise 3

    @Sentence(promise = 3, words = "There are up to 12 jobs on the board, in an order; they are numbered by it, from 0 on.")
    static void p03UpTo12JobsNumberedFrom0On() {
        PrintRacks x = new PrintRacks();
        for (int job = 0; job < 12; job++) {
            Check.due("jobOf() of a job that is not there", x.jobOf(job, 2), PrintRacks.NO_SUCH);
            Check.due("job()", x.job(9, 9, job + 1, 0), job);
            Check.due("jobs", x.count(7), job + 1);
        }
        Check.due("one more", x.job(0, 0, 1, 0), PrintRacks.TOO_MANY);
        for (int job = 0; job < 12; job++) {
            Check.due("its hundreds", x.jobOf(job, 2), job + 1);
        }
        Check.due("job 12", x.jobOf(12, 2), PrintRacks.NO_SUCH);
        Check.due("job -1", x.jobOf(-1, 2), PrintRacks.NO_SUCH);
    }

    @Sentence(promise = 3, words = "A job has a plate, 0 to 9, a shade, 0 (the lightest) to 9 (the darkest), "
            + "1 to 20 hundreds of sheets, and a due time, 0 to 3000.")
    static void p03WhatAJobHas() {
        PrintRacks x = new PrintRacks();
        x.job(0, 9, 1, 3000);
        x.job(9, 0, 20, 0);
        x.job(4, 3, 2, 1);
        Check.dueJobs("job()", x, "p0s9n1d3000;p9s0n20d0;p4s3n2d1");
        Check.due("0 is lighter than 9: nine steps", x.jobOf(1, 11), 33);
        Check.due("3 is darker than 0", x.jobOf(2, 11), 2);
    }

    @Sentence(promise = 3, words = "A job is never put on the board if it needs more racks than RACKS,")
    static void p03NeverPutIfItNeedsMoreRacks() {
        for (int hundreds = 1; hundreds <= 20; hundreds++) {
            for (int hold = 1; hold <= 10; hold++) {
                for (int racks = 4; racks <= 20; racks++) {
                    boolean fits = racksOf(hundreds, hold) <= racks;
                    PrintRacks x = new PrintRacks();
                    x.set(PrintRacks.HOLD, hold);
                    x.set(PrintRacks.RACKS, racks);
                    Check.due(hundreds + " hundreds by " + hold + " on " + racks, x.job(0, 0, hundreds, 0),
                            fits ? 0 : PrintRacks.NOT_POSSIBLE);
                    Check.due("jobs", x.count(7), fits ? 1 : 0);
                }
            }
        }
    }

    // ---- promise 3

    @Sentence(promise = 3, words = "Puts a job at the end of the board.")
    static void p03AtTheEndOfTheBoard() {
        PrintRacks x = Check.board("p9s9n9d9");
        x.job(0, 0, 1, 0);
        x.job(8, 7, 6, 5);
        Check.dueJobs("job()", x, "p9s9n9d9;p0s0n1d0;p8s7n6d5");
        x.drop(1);
        x.job(4, 3, 2, 1);
        Check.dueJobs("job() behind drop(1)", x, "p9s9n9d9;p8s7n6d5;p4s3n2d1");
    }

    @Sentence(promise = 3, words = "This is a change.")
    static void p03IsAChange() {
        Look.dueChange("job()", PrintRacks::new, x -> x.job(0, 0, 1, 0));
        Look.dueChange("job()", Look::busy, x -> x.job(9, 9, 20, 3000));
    }

    private static int with(int argument, int value) {
        int[] job = {1, 1, 1, 1};
        job[argument] = value;
        PrintRacks x = new PrintRacks();
        int answer = x.job(job[0], job[1], job[2], job[3]);
        if (answer == 0) {
            Check.due("what is put", x.jobOf(0, argument), value);
        } else {
            Check.due("nothing is put", x.count(7), 0);
        }
        return answer;
    }

    private static void dueArgument(int argument, int least, int most) {
        for (int value = least; value <= most; value++) {
            Check.due("job() with " + value, with(argument, value), 0);
        }
        Check.due("one less", with(argument, least - 1), PrintRacks.BAD_VALUE);
        Check.due("one more", with(argument, most + 1), PrintRacks.BAD_VALUE);
        for (int value : FAR_OFF) {
            Check.due("job() with " + value, with(argument, value), PrintRacks.BAD_VALUE);
        }
    }

    @Sentence(promise = 3, words = "- `plate`: 0 to 9")
    static void p03Plate0To9() {
        dueArgument(0, 0, 9);
    }

    @Sentence(promise = 3, words = "- `shade`: 0 to 9")
    static void p03Shade0To9() {
        dueArgument(1, 0, 9);
    }

    @Sentence(promise = 3, words = "- `hundreds`: 1 to 20")
    static void p03Hundreds1To20() {
        dueArgument(2, 1, 20);
    }

    @Sentence(promise = 3, words = "- `due`: 0 to 3000")
    static void p03Due0To3000() {
        dueArgument(3, 0, 3000);
    }

    @Sentence(promise = 3, words = "Returns its number;")
    static void p03ReturnsItsNumber() {
        PrintRacks x = new PrintRacks();
        Check.due("the first", x.job(5, 5, 5, 5), 0);
        Check.due("the second", x.job(5, 5, 5, 5), 1);
        x.drop(0);
        Check.due("the second again", x.job(5, 5, 5, 5), 1);
        Check.write(x, "p1s1n1;p1s1n1");
        x.read();
        Check.due("behind read()", x.job(5, 5, 5, 5), 4);
        x.undo();
        Check.due("behind undo()", x.job(5, 5, 5, 5), 4);
    }

    @Sentence(promise = 3, words = "BAD_VALUE if an argument is out of range;")
    static void p03BadValueIfAnArgumentIsOutOfRange() {
        PrintRacks x = new PrintRacks();
        int[] good = {9, 0, 20, 3000};
        int[][] wrong = {{-1, 10}, {-1, 10}, {0, 21}, {-1, 3001}};
        // Each mixture of arguments in and out of range; only without a wrong one it is a job.
        for (int mixture = 0; mixture < 81; mixture++) {
            int[] job = new int[4];
            int rest = mixture;
            for (int argument = 0; argument < 4; argument++) {
                job[argument] = rest % 3 == 0 ? good[argument] : wrong[argument][rest % 3 - 1];
                rest /= 3;
            }
            Check.due("mixture " + mixture, x.job(job[0], job[1], job[2], job[3]),
                    mixture == 0 ? 0 : PrintRacks.BAD_VALUE);
        }
        Check.due("jobs", x.count(7), 1);
    }

    @Sentence(promise = 3, words = "NOT_POSSIBLE if it needs more racks than RACKS;")
    static void p03NotPossibleIfItNeedsMoreRacks() {
        PrintRacks x = new PrintRacks();
        x.set(PrintRacks.RACKS, 4);
        Check.due("20 by 5 on 4", x.job(0, 0, 20, 0), 0);
        x.drop(0);
        x.set(PrintRacks.HOLD, 4);
        Check.due("17 by 4 on 4", x.job(0, 0, 17, 0), PrintRacks.NOT_POSSIBLE);
        Check.due("16 by 4 on 4", x.job(0, 0, 16, 0), 0);
        Check.due("racks of others do not count", x.job(0, 0, 16, 0), 1);
        x.set(PrintRacks.RACKS, 20);
        x.set(PrintRacks.HOLD, 1);
        Check.due("20 by 1 on 20", x.job(0, 0, 20, 0), 2);
    }

    @Sentence(promise = 3, words = "TOO_MANY if there are 12.")
    static void p03TooManyIfThereAre12() {
        PrintRacks x = new PrintRacks();
        for (int number = 0; number < 11; number++) {
            x.job(1, 1, 1, 1);
        }
        Check.due("with 11", x.job(2, 2, 2, 2), 11);
        Check.due("with 12", x.job(3, 3, 3, 3), PrintRacks.TOO_MANY);
        Check.due("with 12 again", x.job(0, 0, 1, 0), PrintRacks.TOO_MANY);
        Check.due("the last one stays", x.jobOf(11, 0), 2);
        x.drop(0);
        Check.due("with 11 again", x.job(3, 3, 3, 3), 11);
        Check.due("with 12 again", x.job(3, 3, 3, 3), PrintRacks.TOO_MANY);
    }
}
