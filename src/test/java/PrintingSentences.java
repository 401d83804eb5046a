/** What the terms say of printing, as jobOf() and at() tell it: promises 9 and 11. */
final class PrintingSentences {
    private static final int BEGINS = 5, PRINTED = 6, DRY = 7, LATE = 8, WAITS = 9, READY = 10, WASH = 11;

    private PrintingSentences() {
    }

    /** A new board with settings PLATE, WASH, SHADE, RUN, DRY, RACKS, HOLD as far as they are told, and jobs. */
    private static PrintRacks board(String jobs, int... settings) {
        PrintRacks x = new PrintRacks();
        for (int setting = 0; setting < settings.length; setting++) {
            Check.isTrue("set(" + setting + ")", x.set(setting, settings[setting]) >= 0);
        }
        Check.write(x, jobs);
        Check.due("read() of " + jobs, x.read(), jobs.split(";").length);
        return x;
    }

    private static void dueOfAll(PrintRacks x, int what, int... want) {
        for (int job = 0; job < want.length; job++) {
            Check.due("jobOf(" + job + ", " + what + ")", x.jobOf(job, what), want[job]);
        }
    }

    // ---- racks and divisions

    @Sentence(promise = 9, words = "It needs as many racks as its hundreds divided by HOLD, rounded up.")
    static void p09RacksAreHundredsDividedByHoldRoundedUp() {
        PrintRacks x = board("p0s0n1;p0s0n5;p0s0n6;p0s0n10;p0s0n11;p0s0n15;p0s0n16;p0s0n20");
        x.set(PrintRacks.RACKS, 20);
        dueOfAll(x, 4, 1, 1, 2, 2, 3, 3, 4, 4);
        x.set(PrintRacks.HOLD, 1);
        dueOfAll(x, 4, 1, 5, 6, 10, 11, 15, 16, 20);
        x.set(PrintRacks.HOLD, 2);
        dueOfAll(x, 4, 1, 3, 3, 5, 6, 8, 8, 10);
        x.set(PrintRacks.HOLD, 3);
        dueOfAll(x, 4, 1, 2, 2, 4, 4, 5, 6, 7);
        x.set(PrintRacks.HOLD, 9);
        dueOfAll(x, 4, 1, 1, 1, 2, 2, 2, 2, 3);
        x.set(PrintRacks.HOLD, 10);
        dueOfAll(x, 4, 1, 1, 1, 1, 2, 2, 2, 2);
    }

    @Sentence(promise = 9, words = "Divisions are rounded down.")
    static void p09OtherDivisionsThanThatOfRacksAreNone() {
        // The one division of the document, of hundreds by HOLD, says that it is rounded up; nothing else is halved.
        PrintRacks x = board("p1s1n1;p2s0n3", 7, 11, 3, 5, 13, 8, 7);
        dueOfAll(x, 4, 1, 1);
        dueOfAll(x, PRINTED, 12, 12 + 7 + 14 + 15);
        dueOfAll(x, DRY, 25, 61);
    }

    @Sentence(promise = 9, words = "Everything is numbered from 0.")
    static void p09JobsAndWhatsAreNumberedFrom0() {
        PrintRacks x = board("p7s6n5d4;p3s2n1d0");
        Check.due("the plate of the first one", x.jobOf(0, 0), 7);
        Check.due("the due time of the second one", x.jobOf(1, 3), 0);
        Check.due("a third one", x.jobOf(2, 0), PrintRacks.NO_SUCH);
        Check.due("begins", x.jobOf(0, BEGINS), 0);
        Check.due("at(0, 0)", x.at(0, 0), 0);
    }

    // ---- the press

    @Sentence(promise = 9, words = "The press prints the jobs by their order.")
    static void p09PrintsTheJobsByTheirOrder() {
        PrintRacks x = board("p0s0n1;p0s0n2;p0s0n3");
        dueOfAll(x, BEGINS, 0, 14, 22);
        dueOfAll(x, PRINTED, 14, 22, 34);
        x.move(2, 0);
        dueOfAll(x, 2, 3, 1, 2);
        dueOfAll(x, BEGINS, 0, 22, 26);
        dueOfAll(x, PRINTED, 22, 26, 34);
        x.order(3);
        dueOfAll(x, PRINTED, 14, 22, 34);
    }

    @Sentence(promise = 9, words = "It is free at the minute 0, has no plate on, and is clean.")
    static void p09FreeAt0WithoutPlateAndClean() {
        for (int plate = 0; plate <= 9; plate++) {
            for (int shade = 0; shade <= 9; shade++) {
                PrintRacks x = new PrintRacks();
                x.job(plate, shade, 1, 0);
                dueOfAll(x, BEGINS, 0);
                dueOfAll(x, WAITS, 0);
                dueOfAll(x, READY, 10);
                dueOfAll(x, WASH, 0);
                Check.due("at(0, 0)", x.at(0, 0), 0);
            }
        }
    }

    // ---- making ready

    @Sentence(promise = 9, words = "To make ready for a job takes PLATE minutes, if its plate is not the one that is on")
    static void p09PlateMinutesIfThePlateIsNotOn() {
        PrintRacks x = board("p0s0n1;p0s0n1;p1s0n1;p0s0n1;p0s0n1;p9s0n1;p8s0n1;p8s0n1");
        dueOfAll(x, READY, 10, 0, 10, 10, 0, 10, 10, 0);
        x.set(PrintRacks.PLATE, 60);
        dueOfAll(x, READY, 60, 0, 60, 60, 0, 60, 60, 0);
        x.set(PrintRacks.PLATE, 0);
        dueOfAll(x, READY, 0, 0, 0, 0, 0, 0, 0, 0);
        x.set(PrintRacks.PLATE, 7);
        x.drop(2);
        dueOfAll(x, READY, 7, 0, 0, 0, 7, 7, 0);
    }

    @Sentence(promise = 9, words = "(also for the first job),")
    static void p09PlateMinutesAlsoForTheFirstJob() {
        dueOfAll(board("p0s0n1"), READY, 10);
        dueOfAll(board("p9s9n1"), READY, 10);
        PrintRacks x = board("p0s0n1;p0s0n1", 33);
        dueOfAll(x, READY, 33, 0);
        x.drop(0);
        dueOfAll(x, READY, 33);
    }

    @Sentence(promise = 9, words = "and a wash:")
    static void p09PlateAndWashTakeTheirMinutesBoth() {
        PrintRacks x = board("p0s5n1;p1s4n1;p2s6n1;p3s6n1;p3s5n1");
        dueOfAll(x, READY, 10, 27, 12, 10, 17);
        dueOfAll(x, WASH, 0, 17, 2, 0, 17);
        dueOfAll(x, BEGINS, 0, 14, 45, 61, 75);
        dueOfAll(x, PRINTED, 14, 45, 61, 75, 96);
    }

    @Sentence(promise = 9, words = "nothing for the first job,")
    static void p09NoWashForTheFirstJob() {
        for (int shade = 0; shade <= 9; shade++) {
            PrintRacks x = board("p0s" + shade + "n1;p0s9n1", 10, 60, 9);
            Check.due("wash", x.jobOf(0, WASH), 0);
            x.move(1, 0);
            Check.due("wash of the other one", x.jobOf(0, WASH), 0);
            x.drop(0);
            Check.due("wash of what is first now", x.jobOf(0, WASH), 0);
        }
    }

    @Sentence(promise = 9, words = "and if the shade is that of the job before;")
    static void p09NoWashIfTheShadeIsThatOfTheJobBefore() {
        for (int shade = 0; shade <= 9; shade++) {
            PrintRacks x = board("p0s" + shade + "n1;p1s" + shade + "n2;p1s" + shade + "n3", 10, 60, 9);
            dueOfAll(x, WASH, 0, 0, 0);
            dueOfAll(x, READY, 10, 10, 0);
        }
    }

    @Sentence(promise = 9, words = "SHADE minutes if it is darker;")
    static void p09ShadeMinutesIfItIsDarker() {
        for (int from = 0; from <= 9; from++) {
            for (int to = from + 1; to <= 9; to++) {
                PrintRacks x = board("p0s" + from + "n1;p0s" + to + "n1");
                Check.due("wash from " + from + " to " + to, x.jobOf(1, WASH), 2);
                Check.due("ready", x.jobOf(1, READY), 2);
            }
        }
        PrintRacks x = board("p0s0n1;p0s1n1;p0s9n1", 10, 60, 0);
        dueOfAll(x, WASH, 0, 0, 0);
        x.set(PrintRacks.SHADE, 9);
        dueOfAll(x, WASH, 0, 9, 9);
    }

    @Sentence(promise = 9, words = "WASH minutes, and SHADE minutes for each step that it is lighter by, "
            + "if it is lighter.")
    static void p09WashAndShadeMinutesForEachStepIfItIsLighter() {
        for (int from = 1; from <= 9; from++) {
            for (int to = 0; to < from; to++) {
                PrintRacks x = board("p0s" + from + "n1;p0s" + to + "n1");
                Check.due("wash from " + from + " to " + to, x.jobOf(1, WASH), 15 + 2 * (from - to));
                Check.due("ready", x.jobOf(1, READY), 15 + 2 * (from - to));
            }
        }
        PrintRacks x = board("p0s9n1;p0s0n1;p0s1n1;p0s0n1", 10, 60, 9);
        dueOfAll(x, WASH, 0, 141, 9, 69);
        x.set(PrintRacks.WASH, 0);
        dueOfAll(x, WASH, 0, 81, 9, 9);
        x.set(PrintRacks.SHADE, 0);
        dueOfAll(x, WASH, 0, 0, 0, 0);
        x.set(PrintRacks.WASH, 60);
        dueOfAll(x, WASH, 0, 60, 0, 60);
    }

    @Sentence(promise = 9, words = "Then it is printed for RUN minutes for each hundred of sheets.")
    static void p09RunMinutesForEachHundred() {
        for (int hundreds = 1; hundreds <= 20; hundreds++) {
            PrintRacks x = board("p0s0n" + hundreds);
            Check.due(hundreds + " hundreds", x.jobOf(0, PRINTED), 10 + 4 * hundreds);
            x.set(PrintRacks.RUN, 1);
            Check.due(hundreds + " hundreds, a minute each", x.jobOf(0, PRINTED), 10 + hundreds);
            x.set(PrintRacks.RUN, 20);
            Check.due(hundreds + " hundreds, 20 minutes each", x.jobOf(0, PRINTED), 10 + 20 * hundreds);
        }
    }

    // ---- beginning and waiting

    @Sentence(promise = 9, words = "A job begins (to be made ready) when the press is free;")
    static void p09BeginsWhenThePressIsFree() {
        PrintRacks x = board("p0s5n1;p1s4n20;p1s4n1;p2s9n3");
        dueOfAll(x, BEGINS, 0, 14, 121, 125);
        dueOfAll(x, PRINTED, 14, 121, 125, 149);
        dueOfAll(x, WAITS, 0, 0, 0, 0);
        PrintRacks y = board("p0s0n20;p1s5n1", 60, 60, 9, 20, 0);
        dueOfAll(y, BEGINS, 0, 460);
        dueOfAll(y, PRINTED, 460, 549);
    }

    @Sentence(promise = 9, words = "but if, at the minute at which it would be printed, fewer racks are free "
            + "than it needs, the press waits,")
    static void p09WaitsIfFewerRacksAreFreeThanItNeeds() {
        // Job 0 is printed at 90 on 4 racks; job 1 would be printed at 94.
        PrintRacks x = board("p0s0n20;p0s0n1");
        x.set(PrintRacks.RACKS, 5);
        Check.due("as many are free as it needs", x.jobOf(1, WAITS), 0);
        x.set(PrintRacks.RACKS, 4);
        Check.due("one fewer is free", x.jobOf(1, WAITS), 56);
        dueOfAll(x, BEGINS, 0, 146);
        dueOfAll(x, PRINTED, 90, 150);
        PrintRacks y = board("p0s0n20;p0s0n20", 10, 15, 2, 4, 500, 7);
        Check.due("one fewer is free than 4", y.jobOf(1, WAITS), 420);
        y.set(PrintRacks.RACKS, 8);
        Check.due("as many as 4", y.jobOf(1, WAITS), 0);
        // What is free as the press is free does not matter: job 1 is printed when job 0 is dry.
        PrintRacks z = board("p0s0n20;p0s0n20", 10, 15, 2, 4, 80, 4);
        dueOfAll(z, BEGINS, 0, 90);
        dueOfAll(z, WAITS, 0, 0);
    }

    @Sentence(promise = 9, words = "minute by minute,")
    static void p09WaitsMinuteByMinute() {
        PrintRacks x = board("p0s0n20;p0s0n1");
        x.set(PrintRacks.RACKS, 4);
        for (int dry = 0; dry <= 10; dry++) {
            x.set(PrintRacks.DRY, dry);
            int waits = dry <= 4 ? 0 : dry - 4;
            Check.due("waits with DRY " + dry, x.jobOf(1, WAITS), waits);
            Check.due("begins", x.jobOf(1, BEGINS), 90 + waits);
            Check.due("printed", x.jobOf(1, PRINTED), 94 + waits);
        }
        x.set(PrintRacks.DRY, 500);
        Check.due("waits with DRY 500", x.jobOf(1, WAITS), 496);
        Check.due("printed", x.jobOf(1, PRINTED), 590);
    }

    @Sentence(promise = 9, words = "until it begins so that enough are free then.")
    static void p09BeginsSoThatEnoughAreFreeThen() {
        PrintRacks x = board("p0s0n5;p0s0n5;p0s0n5;p0s0n15;p0s0n10", 10, 15, 2, 4, 100, 4);
        // Printed at 30, 50, 70 on a rack each, dry at 130, 150, 170: three racks are free at 150.
        // The last one needs two; the rack that comes at 170 is one alone, two more come at 250.
        dueOfAll(x, WAITS, 0, 0, 0, 20, 60);
        dueOfAll(x, BEGINS, 0, 30, 50, 90, 210);
        dueOfAll(x, PRINTED, 30, 50, 70, 150, 250);
        // It is made ready behind the wait, not ahead of it.
        PrintRacks y = board("p0s9n20;p1s0n1", 10, 15, 2, 4, 100, 4);
        dueOfAll(y, PRINTED, 90, 190);
        dueOfAll(y, READY, 10, 43);
        dueOfAll(y, BEGINS, 0, 143);
        dueOfAll(y, WAITS, 0, 53);
        // A job behind one that has waited begins when the press is free again.
        PrintRacks z = board("p0s0n20;p0s0n10;p0s0n10;p0s0n20", 10, 15, 2, 4, 100, 4);
        dueOfAll(z, PRINTED, 90, 190, 230, 330);
        dueOfAll(z, BEGINS, 0, 150, 190, 250);
        dueOfAll(z, WAITS, 0, 60, 0, 20);
    }

    // ---- printed and dry

    @Sentence(promise = 11, words = "At the minute at which it is printed the press is free, "
            + "and its sheets are put on racks,")
    static void p11PrintedThePressIsFreeAndTheRacksAreTaken() {
        PrintRacks x = board("p0s0n20;p0s0n1");
        Check.due("on the press at 89", x.at(89, 0), 0);
        Check.due("on the press at 90", x.at(90, 0), 1);
        Check.due("racks at 89", x.at(89, 1), 0);
        Check.due("racks at 90", x.at(90, 1), 4);
        Check.due("racks at 93", x.at(93, 1), 4);
        Check.due("racks at 94", x.at(94, 1), 5);
        Check.due("on the press at 93", x.at(93, 0), 1);
        Check.due("on the press at 94", x.at(94, 0), PrintRacks.NONE);
    }

    @Sentence(promise = 9, words = "where they dry for DRY minutes;")
    static void p09DryForDryMinutes() {
        PrintRacks x = board("p0s0n20;p0s0n1");
        dueOfAll(x, DRY, 150, 154);
        for (int dry : new int[] {0, 1, 59, 499, 500}) {
            x.set(PrintRacks.DRY, dry);
            dueOfAll(x, PRINTED, 90, 94);
            dueOfAll(x, DRY, 90 + dry, 94 + dry);
        }
    }

    @Sentence(promise = 11, words = "at the minute at which they are dry their racks are free again")
    static void p11AtTheMinuteAtWhichTheyAreDryTheRacksAreFree() {
        PrintRacks x = board("p0s0n20;p0s0n1");
        Check.due("racks at 149", x.at(149, 1), 5);
        Check.due("racks at 150", x.at(150, 1), 1);
        Check.due("racks at 153", x.at(153, 1), 1);
        Check.due("racks at 154", x.at(154, 1), 0);
        // They can be taken at that minute.
        PrintRacks y = board("p0s0n20;p0s0n20", 10, 15, 2, 4, 80, 4);
        dueOfAll(y, DRY, 170, 250);
        dueOfAll(y, PRINTED, 90, 170);
        Check.due("racks at 169", y.at(169, 1), 4);
        Check.due("racks at 170", y.at(170, 1), 4);
        y.set(PrintRacks.DRY, 81);
        dueOfAll(y, PRINTED, 90, 171);
    }

    @Sentence(promise = 11, words = "(so with DRY as 0 they take none).")
    static void p11WithDryAs0TheyTakeNone() {
        PrintRacks x = board("p0s0n20;p0s0n20;p0s0n1", 10, 15, 2, 1, 0, 4);
        dueOfAll(x, PRINTED, 30, 50, 51);
        dueOfAll(x, DRY, 30, 50, 51);
        dueOfAll(x, WAITS, 0, 0, 0);
        for (int minute = 0; minute <= 60; minute++) {
            Check.due("racks at " + minute, x.at(minute, 1), 0);
        }
        Check.due("the most racks at once", x.count(17), 0);
        x.set(PrintRacks.DRY, 1);
        Check.due("racks at 30 with DRY 1", x.at(30, 1), 4);
        Check.due("racks at 31", x.at(31, 1), 0);
        Check.due("the most racks at once", x.count(17), 4);
    }

    @Sentence(promise = 9, words = "A job is late by how many minutes it is dry behind its due time,")
    static void p09LateByHowManyMinutesItIsDryBehindItsDueTime() {
        // Dry at 74, 82, 86.
        PrintRacks x = board("p0s0n1d73;p0s0n2d0;p0s0n1d50");
        dueOfAll(x, LATE, 1, 82, 36);
        x.set(PrintRacks.DRY, 500);
        dueOfAll(x, LATE, 441, 522, 476);
    }

    @Sentence(promise = 9, words = "0 at least.")
    static void p09LateBy0AtLeast() {
        PrintRacks x = board("p0s0n1d74;p0s0n2d3000;p0s0n1d85");
        dueOfAll(x, LATE, 0, 0, 1);
        x.due(2, 86);
        dueOfAll(x, LATE, 0, 0, 0);
        x.due(2, 87);
        dueOfAll(x, LATE, 0, 0, 0);
        Check.due("those that are in time take nothing off the sum", x.count(12), 0);
        x.due(0, 70);
        Check.due("the sum", x.count(12), 4);
    }

    @Sentence(promise = 11, words = "Times are minutes.")
    static void p11TimesAreMinutes() {
        PrintRacks x = board("p0s0n2;p1s5n3;p2s0n1");
        for (int job = 0; job < 3; job++) {
            int minutes = 0;
            for (int minute = 0; minute < 150; minute++) {
                minutes += x.at(minute, 0) == job ? 1 : 0;
            }
            Check.due("minutes of job " + job, minutes, x.jobOf(job, PRINTED) - x.jobOf(job, BEGINS));
        }
        Check.due("it is", x.jobOf(2, PRINTED), 18 + 24 + 39);
    }
}
