/** The conventions in the terms: error codes, their order, what an error leaves as it is, NONE. */
final class ErrorsSentences {
    private static final int NO_SUCH = -1, BAD_VALUE = -2, BAD_TEXT = -3, TOO_MANY = -4, NOT_POSSIBLE = -5, NONE = -6;
    private static final String IN_ORDER = "it names its errors in the order in which they are checked, "
            + "and the first one that applies is returned.";
    private static final String CHANGES_NOTHING = "A call that returns an error changes nothing.";
    private static final String NONE_IS_NO_ERROR = "NONE (-6) is not an error; it is returned only if no error applies.";

    private ErrorsSentences() {
    }

    /** Twelve jobs, of which the last one needs all 8 racks; a job on the pad. */
    private static PrintRacks full() {
        PrintRacks x = new PrintRacks();
        x.set(PrintRacks.HOLD, 1);
        Check.write(x, "p0s0n1;p1s1n1;p2s2n1;p3s3n1;p4s4n1;p5s5n1;p6s6n1;p7s7n1");
        x.read();
        Check.write(x, "p8s8n1;p9s9n1;p0s9n1;p1s8n8");
        Check.due("read()", x.read(), 12);
        Check.write(x, "p1s2n3");
        return x;
    }

    private static PrintRacks fullWith(String pad) {
        PrintRacks x = full();
        x.wipe();
        Check.write(x, pad);
        return x;
    }

    // ---- the codes

    @Sentence(promise = 5, words = "CONVENTIONS. A method that fails returns one of the error codes NO_SUCH (-1),")
    static void p05NoSuchIsMinus1() {
        Check.due("NO_SUCH", PrintRacks.NO_SUCH, -1);
        Check.due("drop(0)", new PrintRacks().drop(0), -1);
    }

    @Sentence(promise = 2, words = "BAD_VALUE (-2),")
    static void p02BadValueIsMinus2() {
        Check.due("BAD_VALUE", PrintRacks.BAD_VALUE, -2);
        Check.due("set(7, 0)", new PrintRacks().set(7, 0), -2);
    }

    @Sentence(promise = 4, words = "BAD_TEXT (-3),")
    static void p04BadTextIsMinus3() {
        Check.due("BAD_TEXT", PrintRacks.BAD_TEXT, -3);
        Check.due("read()", new PrintRacks().read(), -3);
    }

    @Sentence(promise = 3, words = "TOO_MANY (-4)")
    static void p03TooManyIsMinus4() {
        Check.due("TOO_MANY", PrintRacks.TOO_MANY, -4);
        Check.due("job()", full().job(0, 0, 1, 0), -4);
    }

    @Sentence(promise = 19, words = "and NOT_POSSIBLE (-5);")
    static void p19NotPossibleIsMinus5() {
        Check.due("NOT_POSSIBLE", PrintRacks.NOT_POSSIBLE, -5);
        Check.due("undo()", new PrintRacks().undo(), -5);
    }

    @Sentence(promise = 18, words = "The constants: `NO_SUCH = -1, BAD_VALUE = -2, BAD_TEXT = -3, TOO_MANY = -4, "
            + "NOT_POSSIBLE = -5, NONE = -6`: Error codes, and NONE: there is none.")
    static void p18NoneIsMinus6() {
        Check.due("NONE", PrintRacks.NONE, -6);
        PrintRacks x = new PrintRacks();
        Check.write(x, "p1s2n3");
        Check.due("fault()", x.fault(), -6);
        Check.due("at(0, 0)", x.at(0, 0), -6);
        Check.due("bestExchange(0)", x.bestExchange(0), -6);
        Check.due("bestFirst()", x.bestFirst(), -6);
    }

    // ---- their order

    @Sentence(promise = 2, words = IN_ORDER)
    static void p02BadValueAheadOfNotPossible() {
        PrintRacks x = full();
        Check.due("7 racks are too few", x.set(PrintRacks.RACKS, 7), NOT_POSSIBLE);
        Check.due("3 are out of range", x.set(PrintRacks.RACKS, 3), BAD_VALUE);
        Check.due("0 are out of range", x.set(PrintRacks.RACKS, 0), BAD_VALUE);
        Check.due("HOLD 0 is out of range", x.set(PrintRacks.HOLD, 0), BAD_VALUE);
        Check.due("no such setting", x.set(7, 7), BAD_VALUE);
    }

    @Sentence(promise = 3, words = IN_ORDER)
    static void p03BadValueNotPossibleTooMany() {
        PrintRacks x = full();
        Check.due("all three", x.job(10, 0, 9, 0), BAD_VALUE);
        Check.due("all three", x.job(0, 10, 9, 0), BAD_VALUE);
        Check.due("all three", x.job(0, 0, 21, 0), BAD_VALUE);
        Check.due("all three", x.job(0, 0, 9, 3001), BAD_VALUE);
        Check.due("no hundreds, too many", x.job(0, 0, 0, 0), BAD_VALUE);
        Check.due("too many racks, too many", x.job(0, 0, 9, 0), NOT_POSSIBLE);
        Check.due("too many", x.job(0, 0, 8, 0), TOO_MANY);
        x.drop(0);
        Check.due("out of range, too many racks", x.job(-1, 0, 9, 0), BAD_VALUE);
        Check.due("too many racks", x.job(0, 0, 9, 0), NOT_POSSIBLE);
        Check.due("none of them", x.job(0, 0, 8, 0), 11);
    }

    @Sentence(promise = 4, words = IN_ORDER)
    static void p04BadTextNotPossibleTooMany() {
        Check.due("all three", fullWith("p1s1n9;p1s1n9;").read(), BAD_TEXT);
        Check.due("bad text behind too many racks", fullWith("p1s1n9;x").read(), BAD_TEXT);
        Check.due("the empty text", fullWith("").read(), BAD_TEXT);
        Check.due("too many racks, too many", fullWith("p1s1n9").read(), NOT_POSSIBLE);
        Check.due("the last one, too many", fullWith("p1s1n8;p1s1n9").read(), NOT_POSSIBLE);
        Check.due("too many", fullWith("p1s1n8").read(), TOO_MANY);
        PrintRacks x = fullWith("p1s1n8;p1s1n9");
        x.drop(0);
        Check.due("the first one could be put, the second one needs too many racks", x.read(), NOT_POSSIBLE);
    }

    @Sentence(promise = 7, words = IN_ORDER)
    static void p07NoSuchAheadOfBadValue() {
        PrintRacks x = full();
        Check.due("due(12, 3001)", x.due(12, 3001), NO_SUCH);
        Check.due("due(-1, -1)", x.due(-1, -1), NO_SUCH);
        Check.due("due(11, 3001)", x.due(11, 3001), BAD_VALUE);
    }

    @Sentence(promise = 9, words = IN_ORDER)
    static void p09NoSuchAheadOfBadValue() {
        PrintRacks x = full();
        Check.due("jobOf(12, 12)", x.jobOf(12, 12), NO_SUCH);
        Check.due("jobOf(-1, -1)", x.jobOf(-1, -1), NO_SUCH);
        Check.due("jobOf(11, 12)", x.jobOf(11, 12), BAD_VALUE);
        Check.due("without jobs", new PrintRacks().jobOf(0, 12), NO_SUCH);
    }

    @Sentence(promise = 16, words = IN_ORDER)
    static void p16BadValueAheadOfTooMany() {
        PrintRacks x = new PrintRacks();
        for (int length = 1; length <= 60; length++) {
            x.put('1');
        }
        Check.due("no character", x.put(0), BAD_VALUE);
        Check.due("a code of 32", x.put(32), BAD_VALUE);
        Check.due("a code of 127 ahead of good ones", x.put(0x7F70707070707070L), BAD_VALUE);
        Check.due("a bit above 0", x.put(0x700070), BAD_VALUE);
        Check.due("a good one", x.put('1'), TOO_MANY);
    }

    @Sentence(promise = 21, words = IN_ORDER)
    static void p21BadValueAheadOfNotPossible() {
        PrintRacks x = new PrintRacks();
        Check.due("restore(2)", x.restore(2), BAD_VALUE);
        Check.due("restore(-1)", x.restore(-1), BAD_VALUE);
        Check.due("restore(1)", x.restore(1), NOT_POSSIBLE);
    }

    // ---- what they leave as it is

    @Sentence(promise = 2, words = CHANGES_NOTHING)
    static void p02ARefusedSetChangesNothing() {
        Look.dueRefused("set(-1, 4)", Look::busy, x -> x.set(-1, 4), BAD_VALUE);
        Look.dueRefused("set(7, 4)", Look::busy, x -> x.set(7, 4), BAD_VALUE);
        Look.dueRefused("set(RUN, 0)", Look::busy, x -> x.set(PrintRacks.RUN, 0), BAD_VALUE);
        Look.dueRefused("set(RUN, 21)", Look::busy, x -> x.set(PrintRacks.RUN, 21), BAD_VALUE);
        Look.dueRefused("set(HOLD, 3)", Look::busy, x -> x.set(PrintRacks.HOLD, 3), NOT_POSSIBLE);
        Look.dueRefused("set(RACKS, 7)", ErrorsSentences::full, x -> x.set(PrintRacks.RACKS, 7), NOT_POSSIBLE);
    }

    @Sentence(promise = 3, words = CHANGES_NOTHING)
    static void p03ARefusedJobChangesNothing() {
        Look.dueRefused("a plate of 10", Look::busy, x -> x.job(10, 1, 1, 1), BAD_VALUE);
        Look.dueRefused("a due time of 3001", Look::busy, x -> x.job(1, 1, 1, 3001), BAD_VALUE);
        Look.dueRefused("9 racks of 8", ErrorsSentences::full, x -> x.job(1, 1, 9, 1), NOT_POSSIBLE);
        Look.dueRefused("a 13th one", ErrorsSentences::full, x -> x.job(1, 1, 1, 1), TOO_MANY);
    }

    @Sentence(promise = 4, words = CHANGES_NOTHING)
    static void p04ARefusedReadChangesNothing() {
        Look.dueRefused("a bad text", () -> fullWith("p1s1n1;p1s1n"), PrintRacks::read, BAD_TEXT);
        Look.dueRefused("9 racks of 8", () -> fullWith("p1s1n1;p1s1n9"), PrintRacks::read, NOT_POSSIBLE);
        Look.dueRefused("a 13th one", () -> fullWith("p1s1n1"), PrintRacks::read, TOO_MANY);
    }

    @Sentence(promise = 5, words = CHANGES_NOTHING)
    static void p05ARefusedDropChangesNothing() {
        Look.dueRefused("drop(-1)", Look::busy, x -> x.drop(-1), NO_SUCH);
        Look.dueRefused("drop(3)", Look::busy, x -> x.drop(3), NO_SUCH);
        Look.dueRefused("drop(0) without jobs", PrintRacks::new, x -> x.drop(0), NO_SUCH);
    }

    @Sentence(promise = 6, words = CHANGES_NOTHING)
    static void p06ARefusedMoveChangesNothing() {
        Look.dueRefused("move(3, 0)", Look::busy, x -> x.move(3, 0), NO_SUCH);
        Look.dueRefused("move(0, 3)", Look::busy, x -> x.move(0, 3), NO_SUCH);
        Look.dueRefused("move(0, -1)", Look::busy, x -> x.move(0, -1), NO_SUCH);
        Look.dueRefused("move(0, 12)", ErrorsSentences::full, x -> x.move(0, 12), NO_SUCH);
    }

    @Sentence(promise = 7, words = CHANGES_NOTHING)
    static void p07ARefusedDueChangesNothing() {
        Look.dueRefused("due(3, 0)", Look::busy, x -> x.due(3, 0), NO_SUCH);
        Look.dueRefused("due(0, -1)", Look::busy, x -> x.due(0, -1), BAD_VALUE);
        Look.dueRefused("due(2, 3001)", Look::busy, x -> x.due(2, 3001), BAD_VALUE);
    }

    @Sentence(promise = 8, words = CHANGES_NOTHING)
    static void p08ARefusedOrderChangesNothing() {
        Look.dueRefused("order(-1)", Look::busy, x -> x.order(-1), BAD_VALUE);
        Look.dueRefused("order(4)", Look::busy, x -> x.order(4), BAD_VALUE);
    }

    @Sentence(promise = 9, words = CHANGES_NOTHING)
    static void p09ToP13ARefusedQuestionChangesNothing() {
        Look.dueRefused("jobOf(3, 0)", Look::busy, x -> x.jobOf(3, 0), NO_SUCH);
        Look.dueRefused("jobOf(0, 12)", Look::busy, x -> x.jobOf(0, 12), BAD_VALUE);
        Look.dueRefused("count(20)", Look::busy, x -> x.count(20), BAD_VALUE);
        Look.dueRefused("at(100000, 0)", Look::busy, x -> x.at(100000, 0), BAD_VALUE);
        Look.dueRefused("ifOrdered(4, 0)", Look::busy, x -> x.ifOrdered(4, 0), BAD_VALUE);
        Look.dueRefused("bestExchange(3)", Look::busy, x -> x.bestExchange(3), BAD_VALUE);
    }

    @Sentence(promise = 16, words = CHANGES_NOTHING)
    static void p16ARefusedPutChangesNothing() {
        Look.dueRefused("put(0)", Look::busy, x -> x.put(0), BAD_VALUE);
        Look.dueRefused("a space behind a good one", Look::busy, x -> x.put(Check.packed("; ")), BAD_VALUE);
        Look.dueRefused("a space ahead of a good one", Look::busy, x -> x.put(Check.packed(" ;")), BAD_VALUE);
        Look.dueRefused("a bit above 0", Look::busy, x -> x.put(0x70003BL), BAD_VALUE);
        String sixty = "p0s0n1;p1s1n2;p2s2n3;p3s3n4;p4s4n5;p5s5n6;p6s6n7;p7s7n8d123";
        Look.dueRefused("two more than 59", () -> fullWith(sixty), x -> x.put(Check.packed("12")), TOO_MANY);
    }

    @Sentence(promise = 19, words = CHANGES_NOTHING)
    static void p19ARefusedUndoChangesNothing() {
        Look.dueRefused("undo()", () -> {
            PrintRacks x = Look.busy();
            while (x.count(19) > 0) {
                x.undo();
            }
            return x;
        }, PrintRacks::undo, NOT_POSSIBLE);
        PrintRacks x = new PrintRacks();
        for (int time = 0; time < 7; time++) {
            x.undo();
        }
        x.set(PrintRacks.DRY, 1);
        x.set(PrintRacks.DRY, 2);
        Check.due("undo() behind refused ones", x.undo(), 1);
        Check.due("DRY", x.count(PrintRacks.DRY), 1);
    }

    @Sentence(promise = 20, words = CHANGES_NOTHING)
    static void p20ARefusedSaveChangesNothing() {
        Look.dueRefused("save(-1)", Look::busy, x -> x.save(-1), BAD_VALUE);
        Look.dueRefused("save(2)", Look::busy, x -> x.save(2), BAD_VALUE);
    }

    @Sentence(promise = 21, words = CHANGES_NOTHING)
    static void p21ARefusedRestoreChangesNothing() {
        Look.dueRefused("restore(-1)", Look::busy, x -> x.restore(-1), BAD_VALUE);
        Look.dueRefused("restore(2)", Look::busy, x -> x.restore(2), BAD_VALUE);
        Look.dueRefused("restore(1)", Look::busy, x -> x.restore(1), NOT_POSSIBLE);
    }

    // ---- NONE

    @Sentence(promise = 11, words = NONE_IS_NO_ERROR)
    static void p11NoneOnlyIfNoErrorApplies() {
        PrintRacks x = new PrintRacks();
        Check.due("no job on the press", x.at(0, 0), NONE);
        Check.due("a minute that is none", x.at(-1, 0), BAD_VALUE);
        Check.due("a minute that is too great", x.at(100000, 0), BAD_VALUE);
        Check.due("nothing to ask for", x.at(0, -1), BAD_VALUE);
    }

    @Sentence(promise = 13, words = NONE_IS_NO_ERROR)
    static void p13NoneOnlyIfNoErrorApplies() {
        PrintRacks x = new PrintRacks();
        Check.due("bestExchange(2)", x.bestExchange(2), NONE);
        Check.due("bestExchange(3)", x.bestExchange(3), BAD_VALUE);
        Check.due("bestExchange(-1)", x.bestExchange(-1), BAD_VALUE);
    }
}
