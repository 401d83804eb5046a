/** Promises 12 to 15: what another order, an exchange or other racks would bring. */
public final class WhatIfTest {
    private static final String JOBS = "p1s5n6d70;p1s7n5d300;p2s4n20d100";

    public static void main(String[] args) {
        ifOrdered();
        ifOrderedIsWhatOrderBrings();
        bestExchange();
        bestExchangeOfEquals();
        bestFirst();
        bestFirstOfEquals();
        leastRacks();
        nothingChanges();
        Check.end();
    }

    private static void ifOrdered() {
        PrintRacks x = Check.board(JOBS);
        int[][] want = {
            // By due times: 0, 2, 1; printed at 34, 34 + 27 + 80 = 141, 141 + 12 + 20 = 173.
            {233, 24 + 101, 17 + 2, 3},
            // By shades: 2, 0, 1; printed at 90, 90 + 12 + 24 = 126, 126 + 2 + 20 = 148.
            {208, 50 + 116, 2 + 2, 2},
            // By plates: as they are.
            {227, 24 + 127, 2 + 21, 2},
            // By hundreds: 1, 0, 2; printed at 30, 30 + 19 + 24 = 73, 73 + 27 + 80 = 180.
            {240, 63 + 140, 19 + 17, 2}};
        for (int rule = 0; rule < 4; rule++) {
            for (int what = 0; what < 4; what++) {
                Check.due("ifOrdered(" + rule + ", " + what + ")", x.ifOrdered(rule, what), want[rule][what]);
            }
        }
        Check.due("ifOrdered(-1, 0)", x.ifOrdered(-1, 0), PrintRacks.BAD_VALUE);
        Check.due("ifOrdered(4, 0)", x.ifOrdered(4, 0), PrintRacks.BAD_VALUE);
        Check.due("ifOrdered(0, -1)", x.ifOrdered(0, -1), PrintRacks.BAD_VALUE);
        Check.due("ifOrdered(0, 4)", x.ifOrdered(0, 4), PrintRacks.BAD_VALUE);
        PrintRacks empty = new PrintRacks();
        for (int what = 0; what < 4; what++) {
            Check.due("without jobs", empty.ifOrdered(0, what), 0);
        }
    }

    private static void ifOrderedIsWhatOrderBrings() {
        int[] counts = {10, 12, 14, 15};
        for (int rule = 0; rule < 4; rule++) {
            for (int what = 0; what < 4; what++) {
                PrintRacks x = Check.board("p1s5n6d70;p1s7n5d300;p2s4n20d100;p1s0n20d0;p2s4n1d50");
                x.set(PrintRacks.RACKS, 4);
                int told = x.ifOrdered(rule, what);
                x.order(rule);
                Check.due("what order(" + rule + ") brings", told, x.count(counts[what]));
            }
        }
    }

    private static void bestExchange() {
        PrintRacks x = new PrintRacks();
        Check.due("without jobs", x.bestExchange(0), PrintRacks.NONE);
        x.set(PrintRacks.DRY, 0);
        x.job(0, 0, 20, 3000);
        Check.due("with one job", x.bestExchange(2), PrintRacks.NONE);
        x.job(0, 0, 5, 0);
        x.job(0, 0, 1, 0);
        // Printed at 90, 110, 114. With 0 and 1: 30 + 114; with 0 and 2: 14 + 34; with 1 and 2: 94 + 114.
        Check.due("the first job", x.bestExchange(0), 0);
        Check.due("the second job", x.bestExchange(1), 2);
        Check.due("the sum then", x.bestExchange(2), 48);
        x.move(0, 2);
        Check.due("5, 1, 20 hundreds: the least is 1, 5, 20", x.bestExchange(2), 48);
        Check.due("the first job", x.bestExchange(0), 0);
        Check.due("the second job", x.bestExchange(1), 1);
        x.move(1, 0);
        Check.due("no exchange is better", x.bestExchange(0), PrintRacks.NONE);
        Check.due("no exchange is better", x.bestExchange(1), PrintRacks.NONE);
        Check.due("no exchange is better", x.bestExchange(2), PrintRacks.NONE);
        Check.due("bestExchange(-1)", x.bestExchange(-1), PrintRacks.BAD_VALUE);
        Check.due("bestExchange(3)", x.bestExchange(3), PrintRacks.BAD_VALUE);
    }

    /** A board of jobs that are printed, and dry, at 20, 40, 60 and so on. */
    private static PrintRacks boardOfDues(int... dues) {
        PrintRacks x = new PrintRacks();
        x.set(PrintRacks.DRY, 0);
        x.set(PrintRacks.PLATE, 0);
        for (int due : dues) {
            x.job(0, 0, 5, due);
        }
        return x;
    }

    private static void dueExchange(PrintRacks x, int first, int second, int sum) {
        Check.due("the first job", x.bestExchange(0), first);
        Check.due("the second job", x.bestExchange(1), second);
        Check.due("the sum then", x.bestExchange(2), sum);
    }

    private static void bestExchangeOfEquals() {
        // 20 + 20 late; either of the late jobs is in time as the first one.
        dueExchange(boardOfDues(3000, 20, 40), 0, 1, 20);
        // 20 late; the late job is in time as the first and as the second one.
        dueExchange(boardOfDues(3000, 3000, 40), 0, 2, 0);
        // 60 + 80 late; as the first one the last job has the most of it.
        dueExchange(boardOfDues(3000, 3000, 0, 0), 0, 3, 80);
        // An exchange that changes nothing is none, even if jobs stay late.
        dueExchange(boardOfDues(0, 0, 0), PrintRacks.NONE, PrintRacks.NONE, PrintRacks.NONE);
    }

    private static void bestFirst() {
        PrintRacks x = new PrintRacks();
        Check.due("without jobs", x.bestFirst(), PrintRacks.NONE);
        x.set(PrintRacks.DRY, 0);
        x.job(0, 0, 20, 3000);
        Check.due("with one job", x.bestFirst(), 0);
        x.job(0, 0, 5, 0);
        x.job(0, 0, 1, 0);
        // Moved there: 0: 110 + 114; 1: 30 + 114; 2: 14 + 114 (0 stays ahead of 1).
        Check.due("the last one", x.bestFirst(), 2);
        x.move(2, 0);
        // 1, 20, 5 hundreds. Moved there: 0: 14 + 114; 1: 94 + 114; 2: 30 + 34.
        Check.due("the last one again", x.bestFirst(), 2);
        x.move(1, 2);
        Check.due("the one that is first", x.bestFirst(), 0);
    }

    private static void bestFirstOfEquals() {
        PrintRacks x = Check.board("p0s0n5;p0s0n5;p0s0n5");
        Check.due("none is late: the lowest", x.bestFirst(), 0);
        x.due(2, 0);
        x.due(1, 0);
        // Moved there: 0: 110 + 130; 1: 90 + 130; 2: 90 + 130.
        Check.due("of two the lowest", x.bestFirst(), 1);
    }

    private static void leastRacks() {
        PrintRacks x = new PrintRacks();
        Check.due("without jobs", x.leastRacks(), 4);
        x.job(0, 0, 20, 0);
        Check.due("as many as one needs", x.leastRacks(), 4);
        x.set(PrintRacks.HOLD, 3);
        Check.due("more for one", x.leastRacks(), 7);
        x.set(PrintRacks.DRY, 0);
        Check.due("one needs them with DRY 0, too", x.leastRacks(), 7);
        x.set(PrintRacks.DRY, 79);
        x.job(0, 0, 20, 0);
        Check.due("dry ahead of the next one", x.leastRacks(), 7);
        x.set(PrintRacks.DRY, 80);
        Check.due("dry as the next one is printed", x.leastRacks(), 7);
        x.set(PrintRacks.DRY, 81);
        Check.due("dry a minute too late", x.leastRacks(), 14);
        Check.due("with RACKS as they are it waits", x.count(16), 1);
        x.job(0, 0, 20, 0);
        x.set(PrintRacks.DRY, 160);
        Check.due("two at once", x.leastRacks(), 14);
        x.set(PrintRacks.DRY, 161);
        Check.due("three at once would need 21", x.leastRacks(), PrintRacks.NONE);
        x.due(0, 0);
        x.drop(0);
        x.job(0, 0, 18, 0);
        x.set(PrintRacks.DRY, 500);
        Check.due("7 + 7 + 6 racks", x.leastRacks(), 20);
    }

    private static void nothingChanges() {
        PrintRacks x = Check.board(JOBS);
        for (int what = 0; what < 4; what++) {
            x.ifOrdered(what, 0);
            x.bestExchange(what);
        }
        x.bestFirst();
        x.leastRacks();
        Check.dueJobs("what if", x, JOBS);
        Check.due("RACKS", x.count(PrintRacks.RACKS), 8);
        Check.due("changes", x.count(19), 1);
    }
}
