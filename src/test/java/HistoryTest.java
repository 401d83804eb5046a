/** Promises 19 to 21: undo, saving, restoring. */
public final class HistoryTest {
    private static final String JOBS = "p1s1n1d9;p3s2n2d8;p2s3n3d7";

    public static void main(String[] args) {
        undoOfEachChange();
        undoOfSix();
        undoLeavesPadAndSlots();
        errorsAreNotRecorded();
        saveAndRestore();
        restoreIsAChange();
        slotErrors();
        Check.end();
    }

    private static int change(PrintRacks x, int which) {
        switch (which) {
            case 0: return x.set(PrintRacks.RUN, 9);
            case 1: return x.job(4, 4, 4, 4);
            case 2: return x.read();
            case 3: return x.drop(1);
            case 4: return x.move(0, 2);
            case 5: return x.due(1, 1000);
            case 6: return x.order(0);
            default: return x.restore(0);
        }
    }

    private static void undoOfEachChange() {
        for (int which = 0; which < 8; which++) {
            PrintRacks x = new PrintRacks();
            x.save(0);
            Check.write(x, JOBS);
            x.read();
            Check.write(x, "p9s9n9");
            Check.isTrue("change " + which + " is no error", change(x, which) >= 0);
            Check.due("change " + which + " is recorded", x.count(19), 2);
            Check.isTrue("change " + which + " is one", !Check.jobs(x).equals(JOBS) || x.count(PrintRacks.RUN) != 4);
            Check.due("undo()", x.undo(), 1);
            Check.dueJobs("undo() of change " + which, x, JOBS);
            Check.due("RUN", x.count(PrintRacks.RUN), 4);
            Check.due("undo()", x.undo(), 0);
            Check.dueJobs("undo() of the first change", x, "");
            Check.due("undo()", x.undo(), PrintRacks.NOT_POSSIBLE);
        }
    }

    private static void undoOfSix() {
        PrintRacks x = new PrintRacks();
        for (int number = 1; number <= 9; number++) {
            x.set(PrintRacks.DRY, number);
            Check.due("changes", x.count(19), Math.min(number, 6));
        }
        for (int left = 5; left >= 3; left--) {
            Check.due("undo()", x.undo(), left);
            Check.due("DRY", x.count(PrintRacks.DRY), left + 3);
        }
        x.set(PrintRacks.DRY, 100);
        Check.due("changes", x.count(19), 4);
        Check.due("undo()", x.undo(), 3);
        Check.due("DRY", x.count(PrintRacks.DRY), 6);
        for (int left = 2; left >= 0; left--) {
            Check.due("undo()", x.undo(), left);
            Check.due("DRY", x.count(PrintRacks.DRY), left + 3);
        }
        Check.due("the three oldest are dropped", x.undo(), PrintRacks.NOT_POSSIBLE);
        Check.due("DRY", x.count(PrintRacks.DRY), 3);
    }

    private static void undoLeavesPadAndSlots() {
        PrintRacks x = new PrintRacks();
        x.job(1, 2, 3, 4);
        Check.write(x, "p9");
        x.job(5, 6, 7, 8);
        x.save(1);
        x.undo();
        x.undo();
        Check.due("the pad stays", x.count(18), 2);
        Check.due("the slot stays", x.restore(1), 2);
        Check.dueJobs("restore(1)", x, "p1s2n3d4;p5s6n7d8");
        Check.due("save is no change, restore is one", x.count(19), 1);
    }

    private static void errorsAreNotRecorded() {
        PrintRacks x = new PrintRacks();
        x.set(9, 9);
        x.job(10, 0, 0, 0);
        x.read();
        x.drop(0);
        x.move(0, 0);
        x.due(0, 0);
        x.order(9);
        x.restore(0);
        x.undo();
        Check.due("changes", x.count(19), 0);
    }

    private static void saveAndRestore() {
        PrintRacks x = Check.board(JOBS);
        x.set(PrintRacks.PLATE, 33);
        Check.due("save(0)", x.save(0), 3);
        x.drop(0);
        x.set(PrintRacks.PLATE, 44);
        Check.due("save(1)", x.save(1), 2);
        x.drop(0);
        Check.due("restore(0)", x.restore(0), 3);
        Check.dueJobs("restore(0)", x, JOBS);
        Check.due("PLATE", x.count(PrintRacks.PLATE), 33);
        x.move(0, 2);
        Check.due("restore(1)", x.restore(1), 2);
        Check.dueJobs("restore(1)", x, "p3s2n2d8;p2s3n3d7");
        Check.due("PLATE", x.count(PrintRacks.PLATE), 44);
        Check.due("the slot keeps it", x.restore(0), 3);
        Check.dueJobs("restore(0)", x, JOBS);
        x.drop(2);
        Check.due("overwrites", x.save(0), 2);
        x.drop(0);
        Check.due("restore(0)", x.restore(0), 2);
        Check.dueJobs("restore(0)", x, "p1s1n1d9;p3s2n2d8");
    }

    private static void restoreIsAChange() {
        PrintRacks x = new PrintRacks();
        Check.due("save of nothing", x.save(1), 0);
        x.job(1, 1, 1, 1);
        Check.write(x, "p9");
        Check.due("restore(1)", x.restore(1), 0);
        Check.due("the pad stays", x.count(18), 2);
        Check.due("the history stays", x.count(19), 2);
        Check.due("undo()", x.undo(), 1);
        Check.dueJobs("undo() of restore(1)", x, "p1s1n1d1");
    }

    private static void slotErrors() {
        PrintRacks x = new PrintRacks();
        Check.due("save(-1)", x.save(-1), PrintRacks.BAD_VALUE);
        Check.due("save(2)", x.save(2), PrintRacks.BAD_VALUE);
        Check.due("restore(-1)", x.restore(-1), PrintRacks.BAD_VALUE);
        Check.due("restore(2)", x.restore(2), PrintRacks.BAD_VALUE);
        x.save(0);
        Check.due("the other slot is empty", x.restore(1), PrintRacks.NOT_POSSIBLE);
        Check.due("changes", x.count(19), 0);
    }
}
