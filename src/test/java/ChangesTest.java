/** Promises 1 to 8: a new object, and the calls that change the board. */
public final class ChangesTest {
    public static void main(String[] args) {
        newObject();
        set();
        setWithJobs();
        job();
        jobErrorsInOrder();
        read();
        readErrorsInOrder();
        drop();
        move();
        fullBoard();
        due();
        order();
        orderIsStable();
        Check.end();
    }

    private static void newObject() {
        PrintRacks x = new PrintRacks();
        int[] want = {10, 15, 2, 4, 60, 8, 5, 0, 0, 0, 0, 0, 0, 0, 0, 0, 0, 0, 0, 0};
        for (int what = 0; what < want.length; what++) {
            Check.due("new: count(" + what + ")", x.count(what), want[what]);
        }
        Check.due("new: fault()", x.fault(), 0);
        Check.due("new: undo()", x.undo(), PrintRacks.NOT_POSSIBLE);
        Check.due("new: restore(0)", x.restore(0), PrintRacks.NOT_POSSIBLE);
        Check.due("new: restore(1)", x.restore(1), PrintRacks.NOT_POSSIBLE);
    }

    private static void set() {
        int[] first = {10, 15, 2, 4, 60, 8, 5};
        int[] least = {0, 0, 0, 1, 0, 4, 1};
        int[] most = {60, 60, 9, 20, 500, 20, 10};
        for (int setting = 0; setting < first.length; setting++) {
            PrintRacks x = new PrintRacks();
            Check.due("set least " + setting, x.set(setting, least[setting]), first[setting]);
            Check.due("set most " + setting, x.set(setting, most[setting]), least[setting]);
            Check.due("set below " + setting, x.set(setting, least[setting] - 1), PrintRacks.BAD_VALUE);
            Check.due("set above " + setting, x.set(setting, most[setting] + 1), PrintRacks.BAD_VALUE);
            Check.due("set far below " + setting, x.set(setting, Integer.MIN_VALUE), PrintRacks.BAD_VALUE);
            Check.due("set far above " + setting, x.set(setting, Integer.MAX_VALUE), PrintRacks.BAD_VALUE);
            Check.due("setting " + setting + " stays", x.count(setting), most[setting]);
            Check.due("only two changes " + setting, x.count(19), 2);
        }
        PrintRacks x = new PrintRacks();
        Check.due("set(-1, 5)", x.set(-1, 5), PrintRacks.BAD_VALUE);
        Check.due("set(7, 5)", x.set(7, 5), PrintRacks.BAD_VALUE);
        Check.due("set to the same", x.set(PrintRacks.RUN, 4), 4);
        Check.due("set to the same is a change", x.count(19), 1);
    }

    private static void setWithJobs() {
        PrintRacks x = Check.board("p0s0n20;p0s0n3");
        Check.due("RACKS 4 is enough for 20 hundreds by 5", x.set(PrintRacks.RACKS, 4), 8);
        Check.due("HOLD 4 is not", x.set(PrintRacks.HOLD, 4), PrintRacks.NOT_POSSIBLE);
        Check.due("HOLD 6 is: 4 racks", x.set(PrintRacks.HOLD, 6), 5);
        Check.due("its racks are rounded up", x.jobOf(0, 4), 4);
        Check.due("HOLD 5 is: 4 racks", x.set(PrintRacks.HOLD, 5), 6);
        Check.due("RACKS 5", x.set(PrintRacks.RACKS, 5), 4);
        Check.due("HOLD 4 is now: 5 racks", x.set(PrintRacks.HOLD, 4), 5);
        Check.due("RACKS 4 is not now", x.set(PrintRacks.RACKS, 4), PrintRacks.NOT_POSSIBLE);
        Check.due("out of range comes first", x.set(PrintRacks.RACKS, 3), PrintRacks.BAD_VALUE);
        Check.due("RACKS stays", x.count(PrintRacks.RACKS), 5);
        Check.due("HOLD stays", x.count(PrintRacks.HOLD), 4);
        Check.due("errors are no changes", x.count(19), 6);
    }

    private static void job() {
        PrintRacks x = new PrintRacks();
        Check.due("least job", x.job(0, 0, 1, 0), 0);
        Check.due("most job", x.job(9, 9, 20, 3000), 1);
        int[][] wrong = {{-1, 0, 1, 0}, {10, 0, 1, 0}, {0, -1, 1, 0}, {0, 10, 1, 0},
            {0, 0, 0, 0}, {0, 0, 21, 0}, {0, 0, 1, -1}, {0, 0, 1, 3001}};
        for (int[] each : wrong) {
            Check.due("job out of range", x.job(each[0], each[1], each[2], each[3]), PrintRacks.BAD_VALUE);
        }
        Check.dueJobs("job()", x, "p0s0n1d0;p9s9n20d3000");
        for (int number = 2; number < 12; number++) {
            Check.due("job " + number, x.job(1, 2, 3, 4), number);
        }
        Check.due("13th job", x.job(1, 2, 3, 4), PrintRacks.TOO_MANY);
        Check.due("jobs", x.count(7), 12);
    }

    private static void jobErrorsInOrder() {
        PrintRacks x = new PrintRacks();
        x.set(PrintRacks.HOLD, 1);
        Check.due("9 racks", x.job(0, 0, 9, 0), PrintRacks.NOT_POSSIBLE);
        Check.due("no job then", x.count(7), 0);
        for (int number = 0; number < 12; number++) {
            Check.due("8 racks", x.job(0, 0, 8, 0), number);
        }
        Check.due("BAD_VALUE ahead of NOT_POSSIBLE", x.job(10, 0, 20, 0), PrintRacks.BAD_VALUE);
        Check.due("NOT_POSSIBLE ahead of TOO_MANY", x.job(0, 0, 9, 0), PrintRacks.NOT_POSSIBLE);
        Check.due("TOO_MANY last", x.job(0, 0, 8, 0), PrintRacks.TOO_MANY);
    }

    private static void read() {
        PrintRacks x = new PrintRacks();
        x.job(7, 7, 7, 7);
        Check.write(x, "p1s2n3;p4s5n20d0;p0s9n10d3000");
        Check.due("read()", x.read(), 4);
        Check.dueJobs("read()", x, "p7s7n7d7;p1s2n3d3000;p4s5n20d0;p0s9n10d3000");
        Check.due("the pad is empty", x.count(18), 0);
        Check.due("read() of the empty pad", x.read(), PrintRacks.BAD_TEXT);
        Check.due("one change more", x.count(19), 2);
        Check.due("undo()", x.undo(), 1);
        Check.due("the pad stays empty", x.count(18), 0);
    }

    private static void readErrorsInOrder() {
        PrintRacks x = new PrintRacks();
        x.set(PrintRacks.HOLD, 1);
        for (int number = 0; number < 11; number++) {
            x.job(0, 0, 1, 0);
        }
        Check.write(x, "p1s1n9;p1s1n9;x");
        Check.due("BAD_TEXT first", x.read(), PrintRacks.BAD_TEXT);
        x.wipe();
        Check.write(x, "p1s1n8;p1s1n9");
        Check.due("NOT_POSSIBLE then", x.read(), PrintRacks.NOT_POSSIBLE);
        Check.due("the pad stays", x.count(18), 13);
        x.wipe();
        Check.write(x, "p1s1n8;p1s1n8");
        Check.due("TOO_MANY last", x.read(), PrintRacks.TOO_MANY);
        Check.due("no job is put", x.count(7), 11);
        x.wipe();
        Check.write(x, "p1s1n8");
        Check.due("the 12th job", x.read(), 12);
        Check.due("its number of racks", x.jobOf(11, 4), 8);
    }

    private static void drop() {
        PrintRacks x = Check.board("p0s0n1d1;p1s1n2d2;p2s2n3d3;p3s3n4d4");
        Check.due("drop(-1)", x.drop(-1), PrintRacks.NO_SUCH);
        Check.due("drop(4)", x.drop(4), PrintRacks.NO_SUCH);
        Check.due("errors are no changes", x.count(19), 1);
        Check.due("drop(1)", x.drop(1), 3);
        Check.dueJobs("drop(1)", x, "p0s0n1d1;p2s2n3d3;p3s3n4d4");
        Check.due("drop(2)", x.drop(2), 2);
        Check.dueJobs("drop(2)", x, "p0s0n1d1;p2s2n3d3");
        Check.due("drop(0)", x.drop(0), 1);
        Check.dueJobs("drop(0)", x, "p2s2n3d3");
        Check.due("the last", x.drop(0), 0);
        Check.due("none is left", x.drop(0), PrintRacks.NO_SUCH);
        Check.due("changes", x.count(19), 5);
    }

    private static void move() {
        PrintRacks x = Check.board("p0s0n1d1;p1s1n2d2;p2s2n3d3;p3s3n4d4;p4s4n5d5");
        x.set(PrintRacks.DRY, 0);
        Check.due("move(-1, 0)", x.move(-1, 0), PrintRacks.NO_SUCH);
        Check.due("move(0, -1)", x.move(0, -1), PrintRacks.NO_SUCH);
        Check.due("move(5, 0)", x.move(5, 0), PrintRacks.NO_SUCH);
        Check.due("move(0, 5)", x.move(0, 5), PrintRacks.NO_SUCH);
        // Printed at 14, 34, 58, 86, 118; due at 1 to 5.
        Check.due("move(2, 2)", x.move(2, 2), 14 + 34 + 58 + 86 + 118 - 15);
        Check.due("a move to its place is a change", x.count(19), 3);
        x.move(1, 3);
        Check.dueJobs("move(1, 3)", x, "p0s0n1d1;p2s2n3d3;p3s3n4d4;p1s1n2d2;p4s4n5d5");
        x.move(4, 0);
        Check.dueJobs("move(4, 0)", x, "p4s4n5d5;p0s0n1d1;p2s2n3d3;p3s3n4d4;p1s1n2d2");
        x.move(0, 4);
        Check.dueJobs("move(0, 4)", x, "p0s0n1d1;p2s2n3d3;p3s3n4d4;p1s1n2d2;p4s4n5d5");
        // Washes of 2, 2, 15 + 2 * 2 and 2: printed at 14, 38, 66, 103, 135.
        Check.due("count(12)", x.count(12), 14 + 38 + 66 + 103 + 135 - 15);
        Check.due("move(0, 0)", x.move(0, 0), 14 + 38 + 66 + 103 + 135 - 15);
    }

    private static void fullBoard() {
        PrintRacks x = new PrintRacks();
        for (int number = 0; number < 12; number++) {
            x.job(0, 0, number + 1, 3000);
        }
        Check.due("move(0, 11)", x.move(0, 11), 0);
        Check.due("the first is the last now", x.jobOf(11, 2), 1);
        Check.due("the last has moved by one", x.jobOf(10, 2), 12);
        Check.due("move(11, 0)", x.move(11, 0), 0);
        Check.due("the last is the first now", x.jobOf(0, 2), 1);
        Check.due("move(0, 12)", x.move(0, 12), PrintRacks.NO_SUCH);
        Check.due("bestFirst()", x.bestFirst(), 0);
        Check.due("bestExchange(0)", x.bestExchange(0), PrintRacks.NONE);
        Check.due("drop(11)", x.drop(11), 11);
        Check.due("hundreds then", x.count(8), 66);
    }

    private static void due() {
        PrintRacks x = Check.board("p0s0n1d3000;p0s0n2d3000");
        Check.due("dry at 82, due at 50", x.due(1, 50), 32);
        Check.dueJobs("due(1, 50)", x, "p0s0n1d3000;p0s0n2d50");
        Check.due("dry at 82, due at 82", x.due(1, 82), 0);
        Check.due("dry at 82, due at 81", x.due(1, 81), 1);
        Check.due("dry at 82, due at 0", x.due(1, 0), 82);
        Check.due("dry at 82, due at 3000", x.due(1, 3000), 0);
        Check.due("due(0, -1)", x.due(0, -1), PrintRacks.BAD_VALUE);
        Check.due("due(0, 3001)", x.due(0, 3001), PrintRacks.BAD_VALUE);
        Check.due("due(2, 0)", x.due(2, 0), PrintRacks.NO_SUCH);
        Check.due("due(-1, 0)", x.due(-1, 0), PrintRacks.NO_SUCH);
        Check.due("NO_SUCH ahead of BAD_VALUE", x.due(2, 3001), PrintRacks.NO_SUCH);
        Check.due("changes", x.count(19), 6);
    }

    private static void order() {
        String jobs = "p3s1n4d9;p2s4n1d7;p1s3n2d8;p4s2n3d6";
        String[] ordered = {"p4s2n3d6;p2s4n1d7;p1s3n2d8;p3s1n4d9", "p3s1n4d9;p4s2n3d6;p1s3n2d8;p2s4n1d7",
            "p1s3n2d8;p2s4n1d7;p3s1n4d9;p4s2n3d6", "p2s4n1d7;p1s3n2d8;p4s2n3d6;p3s1n4d9"};
        int[] moved = {2, 2, 2, 4};
        for (int rule = 0; rule < 4; rule++) {
            PrintRacks x = Check.board(jobs);
            Check.due("order(" + rule + ")", x.order(rule), moved[rule]);
            Check.dueJobs("order(" + rule + ")", x, ordered[rule]);
            Check.due("order(" + rule + ") again", x.order(rule), 0);
            Check.due("is a change, too", x.count(19), 3);
        }
        PrintRacks x = new PrintRacks();
        Check.due("order(-1)", x.order(-1), PrintRacks.BAD_VALUE);
        Check.due("order(4)", x.order(4), PrintRacks.BAD_VALUE);
        Check.due("no change", x.count(19), 0);
        Check.due("order(0) without jobs", x.order(0), 0);
        Check.due("a change", x.count(19), 1);
    }

    private static void orderIsStable() {
        PrintRacks x = Check.board("p5s1n2d9;p4s0n1d8;p3s1n2d9;p2s0n1d8;p1s1n2d9");
        Check.due("alike ones keep their order", x.order(1), 4);
        Check.dueJobs("order(1)", x, "p4s0n1d8;p2s0n1d8;p5s1n2d9;p3s1n2d9;p1s1n2d9");
        PrintRacks y = Check.board("p1s1n1d1;p1s1n1d1;p1s1n1d1");
        for (int rule = 0; rule < 4; rule++) {
            Check.due("all alike, rule " + rule, y.order(rule), 0);
        }
    }
}
