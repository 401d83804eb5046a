import java.util.function.Supplier;
import java.util.function.ToIntFunction;

/** All that can be seen of an object, so that two of them can be compared. */
final class Look {
    private Look() {
    }

    /** The settings and the jobs: what undo() and restore() bring back. */
    static String board(PrintRacks x) {
        StringBuilder text = new StringBuilder();
        for (int setting = 0; setting <= 6; setting++) {
            text.append(x.count(setting)).append(' ');
        }
        return text.append(Check.jobs(x)).toString();
    }

    /** Everything, the history, the slots and the pad, too. It is used up for that. */
    static String through(PrintRacks x) {
        StringBuilder text = new StringBuilder(board(x));
        text.append("; pad ").append(x.count(18)).append(" fault ").append(x.fault());
        text.append("; changes ").append(x.count(19));
        for (int left = x.undo(); left >= 0; left = x.undo()) {
            text.append("; undo ").append(left).append(": ").append(board(x));
        }
        for (int slot = 0; slot < 2; slot++) {
            text.append("; slot ").append(slot).append(": ");
            text.append(x.restore(slot)).append(' ').append(board(x));
        }
        int left = x.count(7);
        while (left > 0) {
            left = x.drop(0);
        }
        x.set(PrintRacks.HOLD, 10);
        text.append("; read ").append(x.read()).append(' ').append(Check.jobs(x));
        return text.toString();
    }

    /** Three jobs, four changes, a slot of two jobs, and the other one empty; a job on the pad. */
    static PrintRacks busy() {
        PrintRacks x = Check.board("p1s5n6d70;p1s7n5d300");
        x.set(PrintRacks.RUN, 5);
        x.save(0);
        x.job(2, 4, 20, 100);
        x.set(PrintRacks.RACKS, 5);
        Check.write(x, "p3s3n3d3");
        return x;
    }

    /** The call answers the error, and everything is as if it hadn't been made. */
    static void dueRefused(String name, Supplier<PrintRacks> made, ToIntFunction<PrintRacks> call, int error) {
        PrintRacks x = made.get();
        Check.due(name, call.applyAsInt(x), error);
        dueSame(name, x, made.get());
    }

    /** The call is answered, and everything is as if it hadn't been made. */
    static void dueUnchanged(String name, Supplier<PrintRacks> made, ToIntFunction<PrintRacks> call) {
        PrintRacks x = made.get();
        call.applyAsInt(x);
        dueSame(name, x, made.get());
    }

    private static void dueSame(String name, PrintRacks x, PrintRacks untouched) {
        Check.dueText("behind " + name, through(x), through(untouched));
    }

    /** The call is recorded: undo() brings back what was there, and as many changes as before can be undone then. */
    static void dueChange(String name, Supplier<PrintRacks> made, ToIntFunction<PrintRacks> call) {
        PrintRacks x = made.get();
        String before = board(x);
        int changes = x.count(19);
        Check.isTrue(name + " is no error", call.applyAsInt(x) >= 0);
        Check.due(name + " can be undone", x.count(19), changes + 1);
        Check.due("undo() of " + name, x.undo(), changes);
        Check.dueText("undo() of " + name, board(x), before);
    }
}
