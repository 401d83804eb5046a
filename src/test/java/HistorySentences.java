/** Promises 19 to 21: undo, save, restore. */
final class HistorySentences {
    private static final String JOBS = "p1s1n1d9;p3s2n2d8;p2s3n3d7";
    private static final int CHANGES = 8;

    private HistorySentences() {
    }

    /** Each of the methods that are changes; there are two jobs at least, a job on the pad, and slot 0 is saved. */
    private static int change(PrintRacks x, int which) {
        switch (which) {
            case 0: return x.set(PrintRacks.RUN, 9);
            case 1: return x.job(4, 4, 4, 4);
            case 2: return x.read();
            case 3: return x.drop(1);
            case 4: return x.move(0, 1);
            case 5: return x.due(1, 1000);
            case 6: return x.order(0);
            default: return x.restore(0);
        }
    }

    private static PrintRacks ready() {
        PrintRacks x = new PrintRacks();
        x.save(0);
        Check.write(x, JOBS);
        x.read();
        Check.write(x, "p9s9n9");
        return x;
    }

    @Sentence(promise = 19, words = "Ahead of the calls `undo`, `save`, `restore` the interface says: "
            + "---- undo, saving.")
    static void p19ToP21UndoSaveAndRestoreTogether() {
        PrintRacks x = Check.board(JOBS);
        Check.due("save(0)", x.save(0), 3);
        Check.due("undo()", x.undo(), 0);
        Check.due("save(1)", x.save(1), 0);
        Check.due("restore(0)", x.restore(0), 3);
        Check.due("undo() of restore(0)", x.undo(), 0);
        Check.dueJobs("undo()", x, "");
        Check.due("restore(0)", x.restore(0), 3);
        Check.due("restore(1)", x.restore(1), 0);
        Check.due("undo() of restore(1)", x.undo(), 1);
        Check.dueJobs("undo()", x, JOBS);
    }

    // ---- promise 19

    @Sentence(promise = 19, words = "Undoes the latest change:")
    static void p19UndoesTheLatestChange() {
        for (int which = 0; which < CHANGES; which++) {
            PrintRacks x = ready();
            String before = Look.board(x);
            Check.isTrue("change " + which + " is no error", change(x, which) >= 0);
            Check.isTrue("change " + which + " is one", !Look.board(x).equals(before));
            Check.due("undo()", x.undo(), 1);
            Check.dueText("undo() of change " + which, Look.board(x), before);
            Check.due("undo()", x.undo(), 0);
            Check.dueJobs("undo() of the change before", x, "");
        }
    }

    @Sentence(promise = 19, words = "everything except the pad, the slots and the history is as it was before it.")
    static void p19EverythingExceptPadSlotsAndHistory() {
        PrintRacks x = new PrintRacks();
        x.job(1, 2, 3, 4);
        Check.write(x, "p9");
        x.save(0);
        x.job(5, 6, 7, 8);
        for (int setting = 0; setting <= 3; setting++) {
            x.set(setting, 9);
        }
        x.save(1);
        Check.write(x, "s8n7");
        Check.due("undo()", x.undo(), 5);
        Check.due("RUN", x.count(PrintRacks.RUN), 4);
        for (int left = 4; left >= 0; left--) {
            Check.due("undo()", x.undo(), left);
        }
        Check.dueText("all of it", Look.board(x), Look.board(new PrintRacks()));
        Check.due("the pad stays", x.count(18), 6);
        Check.due("slot 0 stays", x.restore(0), 1);
        Check.dueJobs("restore(0)", x, "p1s2n3d4");
        Check.due("slot 1 stays", x.restore(1), 2);
        Check.dueText("what was saved", Look.board(x), "9 9 9 9 60 8 5 p1s2n3d4;p5s6n7d8");
        Check.due("read() of the pad", x.read(), 3);
        Check.dueJobs("read()", x, "p1s2n3d4;p5s6n7d8;p9s8n7d3000");
        Check.due("undo() of read()", x.undo(), 2);
        Check.due("does not bring back the pad", x.count(18), 0);
        Check.due("and there is none to read", x.read(), PrintRacks.BAD_TEXT);
    }

    @Sentence(promise = 19, words = "A history of at most 6 states is kept:")
    static void p19AHistoryOfAtMost6States() {
        PrintRacks x = new PrintRacks();
        for (int number = 1; number <= 6; number++) {
            x.set(PrintRacks.DRY, number);
            Check.due("changes", x.count(19), number);
        }
        for (int number = 7; number <= 20; number++) {
            x.set(PrintRacks.DRY, number);
            Check.due("changes", x.count(19), 6);
        }
        for (int left = 5; left >= 0; left--) {
            Check.due("undo()", x.undo(), left);
            Check.due("DRY", x.count(PrintRacks.DRY), 14 + left);
        }
        Check.due("undo()", x.undo(), PrintRacks.NOT_POSSIBLE);
        Check.due("DRY", x.count(PrintRacks.DRY), 14);
    }

    @Sentence(promise = 19, words = "each method that is a change, and returns no error, records the state before it")
    static void p19EachChangeThatIsNoErrorRecords() {
        for (int which = 0; which < CHANGES; which++) {
            PrintRacks x = ready();
            change(x, which);
            Check.due("change " + which, x.count(19), 2);
        }
        PrintRacks x = new PrintRacks();
        x.set(9, 9);
        x.set(PrintRacks.PLATE, 61);
        x.job(10, 0, 1, 0);
        x.read();
        x.drop(0);
        x.move(0, 0);
        x.due(0, 0);
        x.order(4);
        x.restore(0);
        x.restore(2);
        x.undo();
        Check.due("errors", x.count(19), 0);
        x.save(0);
        x.save(1);
        x.put('p');
        x.wipe();
        x.fault();
        x.count(7);
        x.at(0, 0);
        x.ifOrdered(0, 0);
        x.bestExchange(0);
        x.bestFirst();
        x.leastRacks();
        Check.due("what is no change", x.count(19), 0);
    }

    @Sentence(promise = 19, words = "(also if nothing is different then);")
    static void p19AlsoIfNothingIsDifferentThen() {
        PrintRacks x = Check.board("p1s1n1d1;p2s2n2d2");
        String before = Look.board(x);
        x.save(0);
        Check.due("set", x.set(PrintRacks.PLATE, 10), 10);
        Check.due("behind set", x.count(19), 2);
        x.move(1, 1);
        Check.due("behind move", x.count(19), 3);
        x.due(0, 1);
        Check.due("behind due", x.count(19), 4);
        Check.due("order", x.order(0), 0);
        Check.due("behind order", x.count(19), 5);
        x.restore(0);
        Check.due("behind restore", x.count(19), 6);
        for (int left = 5; left >= 1; left--) {
            Check.due("undo()", x.undo(), left);
            Check.dueText("undo() of what brought nothing", Look.board(x), before);
        }
        Check.due("undo()", x.undo(), 0);
        Check.dueJobs("undo() of read()", x, "");
        PrintRacks empty = new PrintRacks();
        empty.order(3);
        Check.due("order without jobs", empty.count(19), 1);
    }

    @Sentence(promise = 19, words = "when one more is recorded, the oldest one is dropped.")
    static void p19TheOldestOneIsDropped() {
        // The states come round in the history at each of its places.
        for (int changes = 7; changes <= 20; changes++) {
            PrintRacks x = new PrintRacks();
            for (int number = 1; number <= changes; number++) {
                x.set(PrintRacks.DRY, number);
            }
            for (int back = 1; back <= 6; back++) {
                Check.due("undo()", x.undo(), 6 - back);
                Check.due("DRY", x.count(PrintRacks.DRY), changes - back);
            }
            Check.due("the 7th", x.undo(), PrintRacks.NOT_POSSIBLE);
        }
        PrintRacks x = new PrintRacks();
        for (int number = 1; number <= 8; number++) {
            x.set(PrintRacks.DRY, number);
        }
        x.undo();
        x.undo();
        x.set(PrintRacks.DRY, 100);
        x.set(PrintRacks.DRY, 200);
        Check.due("six again", x.count(19), 6);
        x.set(PrintRacks.DRY, 300);
        Check.due("six still", x.count(19), 6);
        int[] want = {200, 100, 6, 5, 4, 3};
        for (int back = 0; back < 6; back++) {
            Check.due("undo()", x.undo(), 5 - back);
            Check.due("DRY", x.count(PrintRacks.DRY), want[back]);
        }
        Check.due("the oldest is dropped", x.undo(), PrintRacks.NOT_POSSIBLE);
    }

    @Sentence(promise = 19, words = "Returns how many changes can be undone then;")
    static void p19ReturnsHowManyChangesCanBeUndoneThen() {
        for (int changes = 1; changes <= 8; changes++) {
            PrintRacks x = new PrintRacks();
            for (int number = 0; number < changes; number++) {
                x.order(0);
            }
            for (int left = Math.min(changes, 6) - 1; left >= 0; left--) {
                Check.due("undo()", x.undo(), left);
                Check.due("count(19)", x.count(19), left);
            }
            Check.due("undo()", x.undo(), PrintRacks.NOT_POSSIBLE);
        }
    }

    @Sentence(promise = 19, words = "NOT_POSSIBLE if there is none.")
    static void p19NotPossibleIfThereIsNone() {
        PrintRacks x = new PrintRacks();
        Check.due("new", x.undo(), PrintRacks.NOT_POSSIBLE);
        Check.due("again", x.undo(), PrintRacks.NOT_POSSIBLE);
        x.job(1, 2, 3, 4);
        Check.due("behind a change", x.undo(), 0);
        Check.due("it is undone", x.undo(), PrintRacks.NOT_POSSIBLE);
        x.save(0);
        Check.due("behind save", x.undo(), PrintRacks.NOT_POSSIBLE);
        x.put('p');
        Check.due("behind put", x.undo(), PrintRacks.NOT_POSSIBLE);
        x.job(10, 2, 3, 4);
        Check.due("behind an error", x.undo(), PrintRacks.NOT_POSSIBLE);
        Check.due("changes", x.count(19), 0);
    }

    // ---- promise 20

    @Sentence(promise = 20, words = "Saves everything except the pad, the history and the slots in a slot,")
    static void p20SavesEverythingExceptPadHistoryAndSlots() {
        PrintRacks x = new PrintRacks();
        int[] values = {60, 0, 9, 20, 500, 20, 1};
        for (int setting = 0; setting <= 6; setting++) {
            x.set(setting, values[setting]);
        }
        for (int job = 0; job < 12; job++) {
            x.job(job % 10, 9 - job % 10, job + 9, 250 * job);
        }
        Check.write(x, "p9");
        String saved = Look.board(x);
        Check.due("save(1)", x.save(1), 12);
        int[] others = {0, 60, 0, 1, 0, 20, 10};
        for (int setting = 0; setting <= 6; setting++) {
            x.set(setting, others[setting]);
        }
        for (int job = 11; job >= 0; job--) {
            x.drop(job / 2);
        }
        x.job(0, 0, 1, 0);
        Check.write(x, "s8");
        x.undo();
        x.undo();
        int changes = x.count(19);
        Check.due("restore(1)", x.restore(1), 12);
        Check.dueText("restore(1)", Look.board(x), saved);
        Check.due("the pad stays", x.count(18), 4);
        Check.due("the history goes on", x.count(19), changes + 1);
        Check.due("slot 0 is not in it", x.restore(0), PrintRacks.NOT_POSSIBLE);
    }

    @Sentence(promise = 20, words = "and overwrites what was saved there.")
    static void p20OverwritesWhatWasSavedThere() {
        PrintRacks x = Check.board(JOBS);
        x.save(0);
        x.save(1);
        x.set(PrintRacks.PLATE, 44);
        x.drop(0);
        Check.due("save(1)", x.save(1), 2);
        x.drop(0);
        Check.due("restore(1)", x.restore(1), 2);
        Check.dueText("what was saved last", Look.board(x), "44 15 2 4 60 8 5 p3s2n2d8;p2s3n3d7");
        Check.due("restore(0)", x.restore(0), 3);
        Check.dueText("the other slot", Look.board(x), "10 15 2 4 60 8 5 " + JOBS);
        x.drop(0);
        x.drop(0);
        x.drop(0);
        Check.due("save(0) of none", x.save(0), 0);
        x.job(0, 0, 1, 0);
        Check.due("restore(0)", x.restore(0), 0);
    }

    @Sentence(promise = 20, words = "- `slot`: 0 or 1")
    static void p20Slot0Or1() {
        PrintRacks x = Check.board(JOBS);
        Check.due("save(0)", x.save(0), 3);
        x.drop(0);
        Check.due("save(1)", x.save(1), 2);
        Check.due("save(-1)", x.save(-1), PrintRacks.BAD_VALUE);
        Check.due("save(2)", x.save(2), PrintRacks.BAD_VALUE);
        Check.due("restore(0)", x.restore(0), 3);
        Check.due("restore(1)", x.restore(1), 2);
    }

    @Sentence(promise = 20, words = "Returns how many jobs there are;")
    static void p20ReturnsHowManyJobsThereAre() {
        PrintRacks x = new PrintRacks();
        for (int jobs = 0; jobs <= 12; jobs++) {
            Check.due("save(" + jobs % 2 + ")", x.save(jobs % 2), jobs);
            x.job(0, 0, 1, 0);
        }
        Check.due("save(0)", x.save(0), 12);
        Check.due("it is no change", x.undo(), 5);
        Check.due("save(0)", x.save(0), 11);
    }

    @Sentence(promise = 20, words = "BAD_VALUE if there is no such slot.")
    static void p20BadValueIfThereIsNoSuchSlot() {
        PrintRacks x = Check.board(JOBS);
        for (int slot : new int[] {-1, 2, 3, Integer.MIN_VALUE, Integer.MAX_VALUE}) {
            Check.due("save(" + slot + ")", x.save(slot), PrintRacks.BAD_VALUE);
        }
        Check.due("nothing is saved", x.restore(0), PrintRacks.NOT_POSSIBLE);
        Check.due("nothing is saved", x.restore(1), PrintRacks.NOT_POSSIBLE);
    }

    // ---- promise 21

    @Sentence(promise = 21, words = "Restores what was saved last in a slot,")
    static void p21RestoresWhatWasSavedLast() {
        for (int slot = 0; slot < 2; slot++) {
            PrintRacks x = Check.board(JOBS);
            x.save(slot);
            x.set(PrintRacks.RACKS, 4);
            x.job(9, 9, 20, 3000);
            x.save(slot);
            x.drop(0);
            x.set(PrintRacks.HOLD, 10);
            Check.due("restore(" + slot + ")", x.restore(slot), 4);
            Check.dueText("what was saved", Look.board(x), "10 15 2 4 60 4 5 " + JOBS + ";p9s9n20d3000");
            // RACKS and HOLD come with the jobs that need them.
            PrintRacks y = new PrintRacks();
            y.set(PrintRacks.RACKS, 4);
            y.save(slot);
            y.set(PrintRacks.RACKS, 8);
            y.set(PrintRacks.HOLD, 1);
            y.job(0, 0, 8, 0);
            Check.due("restore(" + slot + ")", y.restore(slot), 0);
            Check.due("RACKS", y.count(PrintRacks.RACKS), 4);
            Check.due("undo()", y.undo(), 4);
            Check.due("RACKS", y.count(PrintRacks.RACKS), 8);
            Check.due("racks of the job", y.jobOf(0, 4), 8);
        }
    }

    @Sentence(promise = 21, words = "which keeps it.")
    static void p21TheSlotKeepsIt() {
        PrintRacks x = Check.board(JOBS);
        x.save(0);
        for (int time = 0; time < 8; time++) {
            Check.due("restore(0)", x.restore(0), 3);
            Check.dueText("time " + time, Look.board(x), "10 15 2 4 60 8 5 " + JOBS);
            // What is changed behind it is not changed in the slot.
            x.due(0, 5);
            x.move(0, 2);
            x.set(PrintRacks.RUN, 7);
            x.drop(1);
        }
        x.undo();
        Check.due("restore(0) behind undo()", x.restore(0), 3);
        Check.dueJobs("restore(0)", x, JOBS);
    }

    @Sentence(promise = 21, words = "This is a change.")
    static void p21IsAChange() {
        Look.dueChange("restore(0)", Look::busy, x -> x.restore(0));
        Look.dueChange("restore(0) of the same", HistorySentences::ready, x -> x.restore(0));
        PrintRacks x = new PrintRacks();
        x.save(1);
        for (int time = 1; time <= 8; time++) {
            x.restore(1);
            Check.due("changes", x.count(19), Math.min(time, 6));
        }
    }

    @Sentence(promise = 21, words = "- `slot`: 0 or 1")
    static void p21Slot0Or1() {
        PrintRacks x = Check.board(JOBS);
        x.save(0);
        x.drop(0);
        x.save(1);
        Check.due("restore(-1)", x.restore(-1), PrintRacks.BAD_VALUE);
        Check.due("restore(2)", x.restore(2), PrintRacks.BAD_VALUE);
        Check.due("restore(0)", x.restore(0), 3);
        Check.due("restore(1)", x.restore(1), 2);
    }

    @Sentence(promise = 21, words = "Returns how many jobs there are then;")
    static void p21ReturnsHowManyJobsThereAreThen() {
        for (int jobs = 0; jobs <= 12; jobs++) {
            PrintRacks x = new PrintRacks();
            for (int job = 0; job < jobs; job++) {
                x.job(0, 0, 1, 0);
            }
            x.save(jobs % 2);
            x.job(0, 0, 1, 0);
            Check.due("restore(" + jobs % 2 + ")", x.restore(jobs % 2), jobs);
            Check.due("jobs", x.count(7), jobs);
        }
    }

    @Sentence(promise = 21, words = "BAD_VALUE if there is no such slot;")
    static void p21BadValueIfThereIsNoSuchSlot() {
        PrintRacks x = Check.board(JOBS);
        x.save(0);
        x.save(1);
        for (int slot : new int[] {-1, 2, 3, Integer.MIN_VALUE, Integer.MAX_VALUE}) {
            Check.due("restore(" + slot + ")", x.restore(slot), PrintRacks.BAD_VALUE);
        }
        Check.due("changes", x.count(19), 1);
    }

    @Sentence(promise = 21, words = "NOT_POSSIBLE if nothing was saved in it.")
    static void p21NotPossibleIfNothingWasSavedInIt() {
        PrintRacks x = Check.board(JOBS);
        Check.due("restore(0)", x.restore(0), PrintRacks.NOT_POSSIBLE);
        Check.due("restore(1)", x.restore(1), PrintRacks.NOT_POSSIBLE);
        x.save(1);
        Check.due("restore(0)", x.restore(0), PrintRacks.NOT_POSSIBLE);
        Check.due("restore(1)", x.restore(1), 3);
        x.save(0);
        x.drop(0);
        Check.due("restore(0)", x.restore(0), 3);
        PrintRacks empty = new PrintRacks();
        empty.save(0);
        Check.due("an empty board that was saved is something", empty.restore(0), 0);
    }
}
