/** Promises 16 to 18: the pad, and its fault. */
public final class TextsTest {
    public static void main(String[] args) {
        put();
        putErrors();
        putTooMany();
        wipe();
        faults();
        noFaults();
        putIsNoChange();
        Check.end();
    }

    private static void put() {
        PrintRacks x = new PrintRacks();
        Check.due("put of one", x.put('p'), 1);
        Check.due("put of two", x.put(Check.packed("1s")), 3);
        Check.due("put of eight", x.put(Check.packed("2n3d45;p")), 11);
        Check.due("put of the rest", x.put(Check.packed("6s7n8")), 16);
        Check.due("read()", x.read(), 2);
        Check.dueJobs("read()", x, "p1s2n3d45;p6s7n8d3000");
    }

    private static void putErrors() {
        PrintRacks x = new PrintRacks();
        long[] wrong = {0, 32, 127, 128, 255, -1, 256, 0x7000, 0x70000070L, 0x2070L, 0x7020L, 0x7F70L, 0x7070007070L,
            Long.MIN_VALUE, Long.MAX_VALUE, 0x8070707070707070L, 0x0170000000000070L, 0x7070707070707000L,
            0x7000000000000000L};
        for (long each : wrong) {
            Check.due("put(" + Long.toHexString(each) + ")", x.put(each), PrintRacks.BAD_VALUE);
        }
        Check.due("nothing is put", x.count(18), 0);
        Check.due("the lowest code", x.put(33), 1);
        Check.due("the highest code", x.put(126), 2);
        Check.due("eight of the highest", x.put(0x7E7E7E7E7E7E7E7EL), 10);
    }

    private static void putTooMany() {
        PrintRacks x = new PrintRacks();
        for (int number = 1; number <= 7; number++) {
            Check.due("put", x.put(Check.packed("12345678")), 8 * number);
        }
        Check.due("61 characters", x.put(Check.packed("12345")), PrintRacks.TOO_MANY);
        Check.due("the pad stays", x.count(18), 56);
        Check.due("60 characters", x.put(Check.packed("1234")), 60);
        Check.due("one more", x.put('1'), PrintRacks.TOO_MANY);
        Check.due("BAD_VALUE comes first", x.put(' '), PrintRacks.BAD_VALUE);
    }

    private static void wipe() {
        PrintRacks x = new PrintRacks();
        Check.due("wipe() of the empty pad", x.wipe(), 0);
        Check.write(x, "p1s2n3");
        Check.due("wipe()", x.wipe(), 6);
        Check.due("it is empty", x.count(18), 0);
        Check.due("fault()", x.fault(), 0);
        Check.write(x, "p9s9n9");
        Check.due("nothing is left of it", x.fault(), PrintRacks.NONE);
    }

    private static void dueFault(String text, int want) {
        PrintRacks x = new PrintRacks();
        Check.write(x, text);
        Check.due("fault() of " + text, x.fault(), want);
        Check.due("the pad stays", x.count(18), text.length());
        int read = x.read();
        Check.isTrue("read() of " + text + " answered " + read, (want == PrintRacks.NONE) == (read > 0));
    }

    private static void faults() {
        String[] early = {"", "p", "p1", "p1s", "p1s2", "p1s2n", "p1s2n3d", "p1s2n3;", "p1s2n3d4;", "p1s2n3;p"};
        for (String text : early) {
            dueFault(text, text.length());
        }
        // The star marks the fault.
        String[] wrong = {"*x", "*P1s2n3", "*1", "*;", "p*x", "p*s", "p1*1s2n3", "p1*n", "p1s*n", "p1s2*2", "p1s2*d",
            "p1s2n*0", "p1s2n*x", "p1s2n*d", "p1s2n*;", "p1s2n2*1", "p1s2n3*0", "p1s2n9*9", "p1s2n10*0", "p1s2n20*0",
            "p1s2n1*x", "p1s2n1*p", "p1s2n20*p", "p1s2n*01", "p1s2n3d*x", "p1s2n3d*;", "p1s2n3d0*0", "p1s2n3d0*1",
            "p1s2n3d300*1", "p1s2n3d400*0", "p1s2n3d1000*0", "p1s2n3d3000*0", "p1s2n3d3000*d", "p1s2n3d9*p",
            "p1s2n3;*;", "p1s2n3;*x", "p1s2n3d4;p1s2n3d5*x", "p1s2n3d4;p1s2n2*1", "p1s2n3d999*9"};
        for (String text : wrong) {
            dueFault(text.replace("*", ""), text.indexOf('*'));
        }
    }

    private static void noFaults() {
        String[] right = {"p0s0n1", "p9s9n20", "p1s2n10", "p1s2n19d0", "p1s2n3d3000", "p1s2n3d2999", "p1s2n3d999",
            "p1s2n3;p1s2n3", "p1s2n3d4;p1s2n3d5;p1s2n20"};
        for (String text : right) {
            dueFault(text, PrintRacks.NONE);
        }
        PrintRacks x = new PrintRacks();
        Check.write(x, "p0s0n1;p1s1n2;p2s2n3;p3s3n4;p4s4n5;p5s5n6;p6s6n7;p7s7n8d1234");
        Check.due("60 characters", x.count(18), 60);
        Check.due("fault()", x.fault(), PrintRacks.NONE);
        Check.due("read()", x.read(), 8);
        Check.due("the last due time", x.jobOf(7, 3), 1234);
    }

    private static void putIsNoChange() {
        PrintRacks x = new PrintRacks();
        Check.write(x, "p1s2n3");
        x.fault();
        x.wipe();
        Check.due("changes", x.count(19), 0);
    }
}
