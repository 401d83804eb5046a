/** Promises 12 to 15: ifOrdered, bestExchange, bestFirst, leastRacks. */
final class WhatIfSentences {
    private static final String THREE = "p1s5n6d70;p1s7n5d300;p2s4n20d100";
    private static final int NONE = PrintRacks.NONE;

    private WhatIfSentences() {
    }

    /** A board of jobs that are printed, and dry, at 20, 40, 60 and so on. */
    private static PrintRacks boardOfDues(int... dues) {
        PrintRacks x = new PrintRacks();
        x.set(PrintRacks.DRY, 0);
        x.set(PrintRacks.PLATE, 0);
        for (int due : dues) {
            Check.isTrue("job()", x.job(0, 0, 5, due) >= 0);
        }
        return x;
    }

    @Sentence(promise = 12, words = "Ahead of the calls `ifOrdered`, `bestExchange`, `bestFirst`, `leastRacks` "
            + "the interface says: ---- what if; nothing changes.")
    static void p12ToP15NothingChanges() {
        for (int number = -1; number <= 4; number++) {
            int each = number;
            for (int what = -1; what <= 4; what++) {
                int other = what;
                Look.dueUnchanged("ifOrdered()", Look::busy, x -> x.ifOrdered(each, other));
            }
            Look.dueUnchanged("bestExchange(" + number + ")", Look::busy, x -> x.bestExchange(each));
            Look.dueUnchanged("bestExchange(" + number + ")", () -> boardOfDues(3000, 20, 40),
                    x -> x.bestExchange(each));
        }
        Look.dueUnchanged("bestFirst()", Look::busy, PrintRacks::bestFirst);
        Look.dueUnchanged("leastRacks()", Look::busy, PrintRacks::leastRacks);
    }

    // ---- promise 12

    private static void dueIfOrdered(PrintRacks x, int what, int... want) {
        for (int rule = 0; rule < want.length; rule++) {
            Check.due("ifOrdered(" + rule + ", " + what + ")", x.ifOrdered(rule, what), want[rule]);
        }
    }

    @Sentence(promise = 12, words = "Tells what the order by a rule would bring.")
    static void p12WhatTheOrderByARuleWouldBring() {
        int[] counts = {10, 12, 14, 15};
        String[] boards = {"p1s5n6d70;p1s7n5d300;p2s4n20d100;p1s0n20d0;p2s4n1d50",
            "p1s1n1d9;p0s1n1d9;p1s0n1d9;p0s0n1d9;p1s1n1d8;p0s1n1d8", "p9s9n20d3000;p8s8n19d2999;p7s7n18d2998"};
        for (String jobs : boards) {
            for (int rule = 0; rule < 4; rule++) {
                for (int what = 0; what < 4; what++) {
                    PrintRacks x = Check.board(jobs);
                    x.set(PrintRacks.RACKS, 4);
                    x.set(PrintRacks.DRY, 200);
                    int told = x.ifOrdered(rule, what);
                    x.order(rule);
                    Check.due("what order(" + rule + ") brings", told, x.count(counts[what]));
                    Check.due("ordered already", x.ifOrdered(rule, what), told);
                }
            }
        }
    }

    @Sentence(promise = 12, words = "- `rule`: 0 to 3, as for order()")
    static void p12Rule0To3AsForOrder() {
        // By due times 2, 1, 0; by shades 1, 2, 0; by plates 0, 1, 2; by hundreds 0, 2, 1.
        PrintRacks x = Check.board("p1s9n1d3000;p2s0n3d2000;p3s5n2d1000");
        dueIfOrdered(x, 2, 25 + 2, 2 + 2, 33 + 2, 23 + 25);
        Check.due("ifOrdered(-1, 2)", x.ifOrdered(-1, 2), PrintRacks.BAD_VALUE);
        Check.due("ifOrdered(4, 2)", x.ifOrdered(4, 2), PrintRacks.BAD_VALUE);
        // Alike ones keep their order: another plate is put on for each.
        PrintRacks y = Check.board("p1s1n1d9;p0s1n1d9;p1s1n1d9;p0s1n1d9");
        dueIfOrdered(y, 3, 4, 4, 2, 4);
    }

    @Sentence(promise = 12, words = "- `what`: 0 the minute at which all would be dry,")
    static void p12What0TheMinuteAtWhichAllWouldBeDry() {
        dueIfOrdered(Check.board(THREE), 0, 233, 208, 227, 240);
        dueIfOrdered(new PrintRacks(), 0, 0, 0, 0, 0);
        PrintRacks x = Check.board("p0s0n20;p0s0n1");
        x.set(PrintRacks.RACKS, 4);
        // As they are job 1 waits until 150; by hundreds job 1 would be printed at 14 and dry ahead of job 0.
        dueIfOrdered(x, 0, 210, 210, 210, 154);
        x.set(PrintRacks.DRY, 0);
        dueIfOrdered(x, 0, 94, 94, 94, 94);
    }

    @Sentence(promise = 12, words = "1 the sum of the minutes by which jobs would be late,")
    static void p12What1TheSumOfTheMinutesByWhichJobsWouldBeLate() {
        dueIfOrdered(Check.board(THREE), 1, 24 + 101, 50 + 116, 24 + 127, 63 + 140);
        dueIfOrdered(new PrintRacks(), 1, 0, 0, 0, 0);
        dueIfOrdered(boardOfDues(40, 20), 1, 0, 20, 20, 20);
        dueIfOrdered(boardOfDues(40, 19), 1, 1, 21, 21, 21);
    }

    @Sentence(promise = 12, words = "2 minutes of washes,")
    static void p12What2MinutesOfWashes() {
        dueIfOrdered(Check.board(THREE), 2, 17 + 2, 2 + 2, 2 + 21, 19 + 17);
        dueIfOrdered(new PrintRacks(), 2, 0, 0, 0, 0);
        dueIfOrdered(Check.board("p0s9n1"), 2, 0, 0, 0, 0);
    }

    @Sentence(promise = 12, words = "3 how often a plate would be put on")
    static void p12What3HowOftenAPlateWouldBePutOn() {
        dueIfOrdered(Check.board(THREE), 3, 3, 2, 2, 2);
        dueIfOrdered(new PrintRacks(), 3, 0, 0, 0, 0);
        dueIfOrdered(Check.board("p1s0n1d9;p2s1n2d8;p1s2n3d7;p2s3n4d6"), 3, 4, 4, 2, 4);
    }

    @Sentence(promise = 12, words = "Returns the number;")
    static void p12ReturnsTheNumberOfAFullBoard() {
        PrintRacks x = new PrintRacks();
        for (int job = 0; job < 12; job++) {
            x.job(9 - job % 10, job % 2 * 9, 1, 3000 - job);
        }
        // By due times the shades are 9, 0, 9 .. 0; by plates 9, 0 .. 9, 0, 9, 9, 0, 0; by hundreds 0, 9, 0 .. 9.
        dueIfOrdered(x, 2, 6 * 33 + 5 * 2, 2, 5 * 33 + 4 * 2, 5 * 33 + 6 * 2);
        dueIfOrdered(x, 3, 12, 12, 10, 12);
    }

    @Sentence(promise = 12, words = "BAD_VALUE if an argument is out of range.")
    static void p12BadValueIfAnArgumentIsOutOfRange() {
        for (int each : new int[] {-1, 4, 5, Integer.MIN_VALUE, Integer.MAX_VALUE}) {
            for (PrintRacks x : new PrintRacks[] {Check.board(THREE), new PrintRacks()}) {
                for (int good = 0; good < 4; good++) {
                    Check.due("ifOrdered(" + each + ", " + good + ")", x.ifOrdered(each, good), PrintRacks.BAD_VALUE);
                    Check.due("ifOrdered(" + good + ", " + each + ")", x.ifOrdered(good, each), PrintRacks.BAD_VALUE);
                }
                Check.due("ifOrdered(" + each + ", " + each + ")", x.ifOrdered(each, each), PrintRacks.BAD_VALUE);
            }
        }
    }

    // ---- promise 13

    private static void dueExchange(PrintRacks x, int first, int second, int sum) {
        Check.due("the first job", x.bestExchange(0), first);
        Check.due("the second job", x.bestExchange(1), second);
        Check.due("the sum then", x.bestExchange(2), sum);
    }

    @Sentence(promise = 13, words = "Finds the two jobs by whose exchange on the board the sum of the minutes "
            + "by which jobs are late would be the least,")
    static void p13TheTwoJobsByWhoseExchangeTheSumWouldBeTheLeast() {
        // Printed at 90, 110, 114. With 0 and 1: 30 + 114; with 0 and 2: 14 + 34; with 1 and 2: 94 + 114.
        PrintRacks x = Check.board("p0s0n20d3000;p0s0n5d0;p0s0n1d0");
        x.set(PrintRacks.DRY, 0);
        dueExchange(x, 0, 2, 48);
        // The others keep their places: 2, 1, 0, not 2, 0, 1.
        PrintRacks y = boardOfDues(60, 40, 20);
        Check.due("now", y.count(12), 40);
        dueExchange(y, 0, 2, 0);
        // The first and the last job of a full board.
        PrintRacks z = boardOfDues(240, 40, 60, 80, 100, 120, 140, 160, 180, 200, 220, 20);
        dueExchange(z, 0, 11, 0);
        PrintRacks last = boardOfDues(20, 40, 60, 80, 100, 120, 140, 160, 180, 200, 240, 220);
        dueExchange(last, 10, 11, 0);
        // Late by 10, as the press waits for racks; it does not if they are exchanged.
        PrintRacks waiting = Check.board("p0s0n20d154;p0s0n1d200");
        waiting.set(PrintRacks.RACKS, 4);
        dueExchange(waiting, 0, 1, 0);
        waiting.set(PrintRacks.RACKS, 5);
        dueExchange(waiting, NONE, NONE, NONE);
    }

    @Sentence(promise = 13, words = "less than now;")
    static void p13LessThanNow() {
        dueExchange(boardOfDues(0, 0, 0), NONE, NONE, NONE);
        dueExchange(boardOfDues(20, 40, 60), NONE, NONE, NONE);
        dueExchange(boardOfDues(20, 40, 59), NONE, NONE, NONE);
        // By one minute less, and by none.
        dueExchange(boardOfDues(40, 39), 0, 1, 0);
        dueExchange(boardOfDues(39, 38), 0, 1, 1);
        dueExchange(boardOfDues(21, 0), 0, 1, 39);
        dueExchange(boardOfDues(20, 0), NONE, NONE, NONE);
    }

    @Sentence(promise = 13, words = "of several the one with the lowest first job,")
    static void p13OfSeveralTheLowestFirstJob() {
        // 0 and 2 or 1 and 2.
        dueExchange(boardOfDues(3000, 3000, 40), 0, 2, 0);
        // 0 and 3, 1 and 2, or 1 and 3.
        dueExchange(boardOfDues(30, 50, 25, 0), 0, 3, 105);
        // 0 and 3 or 2 and 3.
        dueExchange(boardOfDues(40, 25, 80, 0), 0, 3, 75);
        // 1 and 3 or 2 and 3.
        dueExchange(boardOfDues(0, 60, 80, 0), 1, 3, 80);
    }

    @Sentence(promise = 13, words = "of these the lowest second one.")
    static void p13OfTheseTheLowestSecondOne() {
        // 0 and 1 or 0 and 2.
        dueExchange(boardOfDues(3000, 20, 40), 0, 1, 20);
        // 0 and 2, 0 and 3, or 1 and 2.
        dueExchange(boardOfDues(80, 60, 40, 60), 0, 2, 20);
        // 1 and 2 or 1 and 3.
        dueExchange(boardOfDues(0, 50, 0, 0), 1, 2, 150);
        // Any with the first one.
        dueExchange(boardOfDues(25, 0, 0, 0), 0, 1, 175);
    }

    @Sentence(promise = 13, words = "- `what`: 0 the first job, 1 the second one, 2 the sum then")
    static void p13What0To2() {
        PrintRacks x = boardOfDues(20, 80, 60, 40);
        dueExchange(x, 1, 3, 0);
        PrintRacks y = boardOfDues(20, 40, 77, 61, 60, 3000, 3000);
        // Job 3 is late by 19, job 4 by 40; with 2 and 4: 60 at 60, 61 at 80, 77 at 100: 19 + 23.
        dueExchange(y, 2, 4, 42);
    }

    @Sentence(promise = 13, words = "Returns the number;")
    static void p13ReturnsTheNumberThatTheExchangeBrings() {
        PrintRacks x = Check.board("p1s5n6d70;p1s7n5d30;p2s4n20d100;p1s0n1d50");
        int sum = x.bestExchange(2);
        int first = x.bestExchange(0);
        int second = x.bestExchange(1);
        Check.isTrue("the first one is ahead", first >= 0 && first < second);
        Check.isTrue("less than now", sum < x.count(12));
        x.move(second, first);
        Check.due("behind the exchange", x.move(first + 1, second), sum);
    }

    @Sentence(promise = 13, words = "BAD_VALUE if what is out of range;")
    static void p13BadValueIfWhatIsOutOfRange() {
        for (int what : new int[] {-1, 3, 4, Integer.MIN_VALUE, Integer.MAX_VALUE}) {
            Check.due("bestExchange(" + what + ")", boardOfDues(40, 20).bestExchange(what), PrintRacks.BAD_VALUE);
            Check.due("without jobs", new PrintRacks().bestExchange(what), PrintRacks.BAD_VALUE);
        }
    }

    @Sentence(promise = 13, words = "NONE if there are none.")
    static void p13NoneIfThereAreNone() {
        dueExchange(new PrintRacks(), NONE, NONE, NONE);
        dueExchange(boardOfDues(0), NONE, NONE, NONE);
        dueExchange(boardOfDues(3000, 3000), NONE, NONE, NONE);
        dueExchange(boardOfDues(20, 40), NONE, NONE, NONE);
        PrintRacks x = boardOfDues(40, 20);
        dueExchange(x, 0, 1, 0);
        x.drop(1);
        dueExchange(x, NONE, NONE, NONE);
    }

    // ---- promise 14

    @Sentence(promise = 14, words = "Finds the job that had best be first (moved there, the others in their order):")
    static void p14TheJobThatHadBestBeFirstTheOthersInTheirOrder() {
        Check.due("3 ahead of 0, 1, 2", boardOfDues(40, 60, 80, 20).bestFirst(), 3);
        // 2, 0, 1: 20 late. As they are: 30; 1, 0, 2: 50. If 0 and 2 were exchanged: 40.
        Check.due("2 ahead of 0, 1", boardOfDues(20, 60, 30).bestFirst(), 2);
        Check.due("the last of 12", boardOfDues(40, 60, 80, 100, 120, 140, 160, 180, 200, 220, 240, 20).bestFirst(), 11);
    }

    @Sentence(promise = 14, words = "with the least sum of the minutes by which jobs are late;")
    static void p14WithTheLeastSumOfTheMinutes() {
        PrintRacks x = Check.board("p0s0n20d3000;p0s0n5d0;p0s0n1d0");
        x.set(PrintRacks.DRY, 0);
        // 0: 110 + 114; 1: 30 + 114; 2: 14 + 114 (0 stays ahead of 1).
        Check.due("the last one", x.bestFirst(), 2);
        x.move(2, 0);
        // 1, 20, 5 hundreds. 0: 14 + 114; 1: 94 + 114; 2: 30 + 34.
        Check.due("the last one again", x.bestFirst(), 2);
        x.move(1, 2);
        // 1, 5, 20 hundreds. 0: 14 + 34; 1: 30 + 34; 2: 94 + 114.
        Check.due("the one that is first", x.bestFirst(), 0);
        x.due(0, 3000);
        // 0: 34; 1: 30; 2: 114.
        Check.due("the one in the middle", x.bestFirst(), 1);
        x.due(0, 18);
        // 0: 34; 1: 30 + 16.
        Check.due("the first one", x.bestFirst(), 0);
        // 0: 10, as the press waits for racks; 1: 0.
        PrintRacks y = Check.board("p0s0n20d154;p0s0n1d200");
        y.set(PrintRacks.RACKS, 4);
        Check.due("the one behind which it does not wait", y.bestFirst(), 1);
        y.set(PrintRacks.RACKS, 5);
        Check.due("it waits behind none", y.bestFirst(), 0);
    }

    @Sentence(promise = 14, words = "of several the lowest.")
    static void p14OfSeveralTheLowest() {
        Check.due("all are alike", boardOfDues(0, 0, 0).bestFirst(), 0);
        Check.due("none is late", boardOfDues(3000, 3000, 3000).bestFirst(), 0);
        Check.due("1 and 2 are alike", boardOfDues(3000, 0, 0).bestFirst(), 1);
        Check.due("2 and 3 are alike", boardOfDues(3000, 3000, 20, 20).bestFirst(), 2);
        Check.due("0 is as good as 1", boardOfDues(20, 20, 3000).bestFirst(), 0);
    }

    @Sentence(promise = 14, words = "Returns the job;")
    static void p14ReturnsTheJob() {
        for (int best = 0; best < 12; best++) {
            PrintRacks x = new PrintRacks();
            x.set(PrintRacks.DRY, 0);
            for (int job = 0; job < 12; job++) {
                x.job(0, 0, 1, job == best ? 0 : 3000);
            }
            Check.due("bestFirst()", x.bestFirst(), best);
        }
        Check.due("with one job", boardOfDues(0).bestFirst(), 0);
    }

    @Sentence(promise = 14, words = "NONE without jobs.")
    static void p14NoneWithoutJobs() {
        Check.due("new", new PrintRacks().bestFirst(), NONE);
        PrintRacks x = boardOfDues(0);
        x.drop(0);
        Check.due("behind drop()", x.bestFirst(), NONE);
        x.undo();
        Check.due("behind undo()", x.bestFirst(), 0);
    }

    // ---- promise 15

    @Sentence(promise = 15, words = "Finds the least RACKS with which the press never waits,")
    static void p15TheLeastRacksWithWhichThePressNeverWaits() {
        PrintRacks x = Check.board("p0s0n20;p0s0n20;p0s0n1");
        x.set(PrintRacks.DRY, 80);
        Check.due("dry as the next one is printed", x.leastRacks(), 5);
        x.set(PrintRacks.DRY, 81);
        Check.due("dry a minute later", x.leastRacks(), 8);
        x.set(PrintRacks.DRY, 83);
        Check.due("dry a minute ahead of the third one", x.leastRacks(), 8);
        x.set(PrintRacks.DRY, 84);
        Check.due("dry as the third one is printed", x.leastRacks(), 8);
        x.set(PrintRacks.DRY, 85);
        Check.due("all of them at once", x.leastRacks(), 9);
        for (int racks = 4; racks <= 20; racks++) {
            x.set(PrintRacks.RACKS, racks);
            Check.due("RACKS does not matter", x.leastRacks(), 9);
            Check.isTrue("it waits with fewer alone", x.count(16) > 0 == racks < 9);
        }
    }

    @Sentence(promise = 15, words = "and no job needs more than there are.")
    static void p15NoJobNeedsMoreThanThereAre() {
        PrintRacks x = new PrintRacks();
        x.set(PrintRacks.RACKS, 20);
        x.set(PrintRacks.HOLD, 1);
        x.set(PrintRacks.DRY, 0);
        for (int hundreds = 1; hundreds <= 20; hundreds++) {
            x.job(0, 0, hundreds, 0);
            Check.due(hundreds + " racks", x.leastRacks(), Math.max(4, hundreds));
            x.job(0, 0, 1, 0);
            Check.due("and one", x.leastRacks(), Math.max(4, hundreds));
            x.drop(0);
            x.drop(0);
        }
    }

    @Sentence(promise = 15, words = "Returns the racks, 4 to 20;")
    static void p15ReturnsTheRacks4To20() {
        PrintRacks x = new PrintRacks();
        Check.due("without jobs", x.leastRacks(), 4);
        x.job(0, 0, 1, 0);
        Check.due("one rack would do", x.leastRacks(), 4);
        x.set(PrintRacks.DRY, 500);
        x.set(PrintRacks.RUN, 1);
        for (int jobs = 2; jobs <= 12; jobs++) {
            x.job(0, 0, 1, 0);
            Check.due(jobs + " racks at once", x.leastRacks(), Math.max(4, jobs));
        }
        PrintRacks y = Check.board("p0s0n20;p0s0n20;p0s0n20;p0s0n20;p0s0n20");
        y.set(PrintRacks.DRY, 321);
        Check.due("20 at once", y.leastRacks(), 20);
    }

    @Sentence(promise = 15, words = "NONE if there is none.")
    static void p15NoneIfThereIsNone() {
        PrintRacks x = Check.board("p0s0n20;p0s0n20;p0s0n20;p0s0n20;p0s0n20;p0s0n1");
        x.set(PrintRacks.DRY, 324);
        Check.due("20 at once", x.leastRacks(), 20);
        x.set(PrintRacks.DRY, 325);
        Check.due("21 at once", x.leastRacks(), NONE);
        x.set(PrintRacks.RACKS, 20);
        Check.due("with 20 it waits for a minute", x.count(16), 1);
        x.drop(5);
        Check.due("20 again", x.leastRacks(), 20);
    }
}
