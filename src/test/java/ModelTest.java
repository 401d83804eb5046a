/** All promises: long runs of mixed calls, each answer compared with that of the Model. */
public final class ModelTest {
    private static final int RUNS = 200;
    // A step is a call, or a few of them; what an object answers behind its 512th call is free.
    private static final int STEPS = 380;
    private static final String SIGNS = "psnd;0123456789x";

    private static long seed;

    private PrintRacks x = new PrintRacks();
    private Model model = new Model();
    private int wildness;

    public static void main(String[] args) {
        for (int run = 0; run < RUNS; run++) {
            seed = run * 7919L + 17;
            ModelTest test = new ModelTest();
            test.wildness = run % 3 == 0 ? 40 : 4;
            if (run % 5 == 4) {
                test.startTight();
            }
            for (int call = 0; call < STEPS; call++) {
                test.step("run " + run + ", call " + call + ": ");
            }
        }
        Check.end();
    }

    // A sequence of numbers that is the same in each run of the tests.
    private static int number(int below) {
        seed = seed * 6364136223846793005L + 1442695040888963407L;
        return (int) ((seed >>> 33) % below);
    }

    /** A number from least to most, now and then one beside or far off. */
    private int value(int least, int most) {
        if (number(100) < wildness) {
            int[] off = {least - 1, most + 1, Integer.MIN_VALUE, Integer.MAX_VALUE, -1, number(200000) - 100000};
            return off[number(off.length)];
        }
        return least + number(most - least + 1);
    }

    private int someJob() {
        return value(0, Math.max(0, model.count(7) - 1));
    }

    /** Few racks and a long time to dry: so the press waits often. */
    private void startTight() {
        int[][] settings = {{5, 4}, {4, 200}, {6, 5}};
        for (int[] each : settings) {
            Check.due("set", x.set(each[0], each[1]), model.set(each[0], each[1]));
        }
    }

    private void step(String where) {
        switch (number(26)) {
            case 0 -> set(where);
            case 1, 2, 3 -> job(where);
            case 4 -> Check.due(where + "read", x.read(), model.read());
            case 5 -> {
                int a = someJob();
                Check.due(where + "drop " + a, x.drop(a), model.drop(a));
            }
            case 6 -> {
                int a = someJob();
                int b = someJob();
                Check.due(where + "move " + a + " " + b, x.move(a, b), model.move(a, b));
            }
            case 7 -> {
                int a = someJob();
                int b = value(0, number(2) == 0 ? 3000 : 400);
                Check.due(where + "due " + a + " " + b, x.due(a, b), model.due(a, b));
            }
            case 8 -> {
                int a = value(0, 3);
                Check.due(where + "order " + a, x.order(a), model.order(a));
            }
            case 9, 10 -> {
                int a = someJob();
                int b = value(0, 11);
                Check.due(where + "jobOf " + a + " " + b, x.jobOf(a, b), model.jobOf(a, b));
            }
            case 11, 12 -> {
                int a = value(0, 19);
                Check.due(where + "count " + a, x.count(a), model.count(a));
            }
            case 13, 14 -> {
                int a = value(0, number(4) == 0 ? 99999 : 1500);
                int b = value(0, 3);
                Check.due(where + "at " + a + " " + b, x.at(a, b), model.at(a, b));
            }
            case 15 -> {
                int a = value(0, 3);
                int b = value(0, 3);
                Check.due(where + "ifOrdered " + a + " " + b, x.ifOrdered(a, b), model.ifOrdered(a, b));
            }
            case 16 -> {
                int a = value(0, 2);
                Check.due(where + "bestExchange " + a, x.bestExchange(a), model.bestExchange(a));
            }
            case 17 -> Check.due(where + "bestFirst", x.bestFirst(), model.bestFirst());
            case 18 -> Check.due(where + "leastRacks", x.leastRacks(), model.leastRacks());
            case 19, 20 -> put(where);
            case 21 -> {
                if (number(3) == 0) {
                    Check.due(where + "wipe", x.wipe(), model.wipe());
                }
            }
            case 22 -> Check.due(where + "fault", x.fault(), model.fault());
            case 23 -> Check.due(where + "undo", x.undo(), model.undo());
            case 24 -> {
                int a = value(0, 1);
                Check.due(where + "save " + a, x.save(a), model.save(a));
            }
            default -> {
                int a = value(0, 1);
                Check.due(where + "restore " + a, x.restore(a), model.restore(a));
            }
        }
    }

    private void set(String where) {
        int[] least = {0, 0, 0, 1, 0, 4, 1};
        int[] most = {60, 60, 9, 20, 500, 20, 10};
        int a = value(0, 6);
        boolean known = a >= 0 && a < 7;
        int b = known ? value(least[a], most[a]) : number(10);
        Check.due(where + "set " + a + " " + b, x.set(a, b), model.set(a, b));
    }

    private void job(String where) {
        int a = value(0, number(2) == 0 ? 9 : 2);
        int b = value(0, number(2) == 0 ? 9 : 2);
        int c = value(1, 20);
        int d = value(0, number(2) == 0 ? 3000 : 400);
        Check.due(where + "job " + a + " " + b + " " + c + " " + d, x.job(a, b, c, d), model.job(a, b, c, d));
    }

    /** Mostly what goes on as a text of jobs, cut anywhere, now and then with a sign out of place. */
    private void put(String where) {
        if (number(100) < wildness) {
            long wild = ((long) number(Integer.MAX_VALUE) << 33) ^ number(Integer.MAX_VALUE);
            Check.due(where + "put " + wild, x.put(wild), model.put(wild));
            return;
        }
        StringBuilder text = new StringBuilder(model.count(18) > 0 && number(4) > 0 ? ";" : "");
        text.append('p').append(number(10)).append('s').append(number(10)).append('n').append(number(21));
        if (number(2) == 0) {
            text.append('d').append(number(number(2) == 0 ? 3002 : 300));
        }
        if (number(8) == 0) {
            text.setCharAt(number(text.length()), SIGNS.charAt(number(SIGNS.length())));
        }
        for (int from = 0; from < text.length(); from += 8) {
            long packed = Check.packed(text.substring(from, Math.min(from + 8, text.length())));
            Check.due(where + "put " + packed, x.put(packed), model.put(packed));
        }
        if (number(4) == 0) {
            Check.due(where + "fault", x.fault(), model.fault());
            Check.due(where + "read", x.read(), model.read());
        }
    }
}
