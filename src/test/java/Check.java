/** What the tests share: answers are compared, and a test that saw a wrong one ends with exit code 1. */
final class Check {
    private static int wrong = 0;
    private static int seen = 0;
    private static String test = "";

    private Check() {
    }

    /** The name of the test from here on: a wrong answer is told with it. */
    static void begin(String name) {
        test = name + ": ";
    }

    static void due(String call, long got, long want) {
        seen++;
        if (got != want) {
            wrong++;
            System.out.println(test + call + " answered " + got + ", due is " + want);
        }
    }

    static void dueText(String what, String got, String want) {
        seen++;
        if (!got.equals(want)) {
            wrong++;
            System.out.println(test + what + " there is " + got + ", due is " + want);
        }
    }

    static void isTrue(String what, boolean holds) {
        due(what, holds ? 1 : 0, 1);
    }

    static void end() {
        System.out.println(seen + " answers, " + wrong + " not as due");
        if (wrong != 0) {
            System.exit(1);
        }
    }

    /** Up to 8 characters as put() takes them. */
    static long packed(String characters) {
        long number = 0;
        for (int i = 0; i < characters.length(); i++) {
            number = number << 8 | characters.charAt(i);
        }
        return number;
    }

    static void write(PrintRacks x, String text) {
        for (int from = 0; from < text.length(); from += 8) {
            String part = text.substring(from, Math.min(from + 8, text.length()));
            due("put(" + part + ") is no error", x.put(packed(part)) > 0 ? 1 : 0, 1);
        }
    }

    /** A new board with the jobs of a text on it. */
    static PrintRacks board(String text) {
        PrintRacks x = new PrintRacks();
        write(x, text);
        due("read() of " + text, x.read(), text.split(";").length);
        return x;
    }

    /** The jobs of a board as a text, each with its due time. */
    static String jobs(PrintRacks x) {
        StringBuilder text = new StringBuilder();
        int jobs = x.count(7);
        for (int job = 0; job < jobs; job++) {
            text.append(job == 0 ? "" : ";");
            text.append('p').append(x.jobOf(job, 0)).append('s').append(x.jobOf(job, 1));
            text.append('n').append(x.jobOf(job, 2)).append('d').append(x.jobOf(job, 3));
        }
        return text.toString();
    }

    static void dueJobs(String behind, PrintRacks x, String want) {
        dueText("behind " + behind + " on the board", jobs(x), want);
    }
}
