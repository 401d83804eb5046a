/** The texts in the terms; promises 16 to 18: put, wipe, fault. */
final class TextsSentences {
    private static final int NONE = PrintRacks.NONE;
    private static final String DIGITS = "0123456789";

    private TextsSentences() {
    }

    private static PrintRacks pad(String text) {
        PrintRacks x = new PrintRacks();
        Check.write(x, text);
        Check.due("the length", x.count(18), text.length());
        return x;
    }

    private static void dueFault(String text, int want) {
        Check.due("fault() of " + text, pad(text).fault(), want);
    }

    private static void dueNoFault(String... texts) {
        for (String text : texts) {
            dueFault(text, NONE);
            Check.due("read() of " + text, pad(text).read(), text.split(";").length);
        }
    }

    /** Of all characters only those that are allowed can stand behind the text; the others are its fault. */
    private static void dueNext(String text, String allowed) {
        for (char sign = 33; sign <= 126; sign++) {
            int fault = pad(text + sign).fault();
            if (allowed.indexOf(sign) >= 0) {
                Check.isTrue(sign + " can stand behind " + text, fault == NONE || fault == text.length() + 1);
            } else {
                Check.due("fault() of " + text + sign, fault, text.length());
                Check.due("fault() of " + text + sign + " with more", pad(text + sign + "p1s").fault(), text.length());
            }
        }
    }

    // ---- the terms

    @Sentence(promise = 16, words = "The pad is a text of at most 60 characters, jobs:")
    static void p16APadOfAtMost60Characters() {
        String text = "p0s0n1;p1s1n2;p2s2n3;p3s3n4;p4s4n5;p5s5n6;p6s6n7;p7s7n8d1234";
        PrintRacks x = pad(text);
        Check.due("its length", text.length(), 60);
        Check.due("one more", x.put(';'), PrintRacks.TOO_MANY);
        Check.due("fault()", x.fault(), NONE);
        Check.due("read()", x.read(), 8);
        Check.dueJobs("read()", x, "p0s0n1d3000;p1s1n2d3000;p2s2n3d3000;p3s3n4d3000;p4s4n5d3000;p5s5n6d3000;"
                + "p6s6n7d3000;p7s7n8d1234");
        PrintRacks wrong = pad(text.substring(0, 59) + "x");
        Check.due("the fault is the last of 60", wrong.fault(), 59);
        PrintRacks early = pad(text.substring(0, 55) + ";p1s2");
        Check.due("60 that end too early", early.fault(), 60);
        Check.due("cannot be read", early.read(), PrintRacks.BAD_TEXT);
    }

    @Sentence(promise = 18, words = "text = job { \";\" job };")
    static void p18TextIsJobsBySemicolons() {
        dueNoFault("p0s0n1", "p0s0n1;p0s0n1", "p0s0n1;p0s0n1;p0s0n1", "p0s0n1d1;p0s0n20;p0s0n1d0;p9s9n9");
        dueFault(";", 0);
        dueFault(";p0s0n1", 0);
        dueFault("p0s0n1;", 7);
        dueFault("p0s0n1;;", 7);
        dueFault("p0s0n1;;p0s0n1", 7);
        dueFault("p0s0n1p0s0n1", 6);
        dueFault("p0s0n1,p0s0n1", 6);
        dueFault("p0s0n1;p0s0n1d5;x", 16);
        dueNext("p0s0n1d3000", ";");
        dueNext("p0s0n3", "d;");
        dueNext("p0s0n1;", "p");
        dueNext("p0s0n1d5;", "p");
    }

    @Sentence(promise = 18, words = "job = \"p\" plate \"s\" shade \"n\" hundreds [ \"d\" due ]:")
    static void p18AJobIsPlateShadeHundredsAndDue() {
        dueNoFault("p1s2n3", "p1s2n3d4");
        dueNext("", "p");
        dueNext("p1", "s");
        dueNext("p1s2", "n");
        dueNext("p1s2n3", "d;");
        dueFault("s2p1n3", 0);
        dueFault("p1n3s2", 2);
        dueFault("p1s2d4n3", 4);
        dueFault("p1s2n3d4d4", 8);
        dueFault("P1s2n3", 0);
        dueFault("p1S2n3", 2);
        dueFault("p1s2N3", 4);
        dueFault("p1s2n3D4", 6);
    }

    @Sentence(promise = 18, words = "plate and shade are digits,")
    static void p18PlateAndShadeAreDigits() {
        dueNext("p", DIGITS);
        dueNext("p1s", DIGITS);
        for (int digit = 0; digit <= 9; digit++) {
            PrintRacks x = pad("p" + digit + "s" + (9 - digit) + "n1");
            Check.due("read()", x.read(), 1);
            Check.due("the plate", x.jobOf(0, 0), digit);
            Check.due("the shade", x.jobOf(0, 1), 9 - digit);
        }
        dueFault("p00s0n1", 2);
        dueFault("p10s0n1", 2);
        dueFault("p0s10n1", 4);
        dueFault("p-1s0n1", 1);
    }

    @Sentence(promise = 18, words = "hundreds a number from 1 to 20,")
    static void p18HundredsFrom1To20() {
        for (int hundreds = 1; hundreds <= 20; hundreds++) {
            PrintRacks x = pad("p0s0n" + hundreds);
            Check.due("fault()", x.fault(), NONE);
            Check.due("read()", x.read(), 1);
            Check.due("the hundreds", x.jobOf(0, 2), hundreds);
        }
        dueFault("p0s0n0", 5);
        dueFault("p0s0n21", 6);
        dueNext("p0s0n", "123456789");
        dueNext("p0s0n1", DIGITS + "d;");
        dueNext("p0s0n2", "0d;");
        for (int digit = 3; digit <= 9; digit++) {
            dueNext("p0s0n" + digit, "d;");
        }
        for (int hundreds = 10; hundreds <= 20; hundreds++) {
            dueNext("p0s0n" + hundreds, "d;");
        }
    }

    @Sentence(promise = 18, words = "due a number from 0 to 3000")
    static void p18DueFrom0To3000() {
        for (int due = 0; due <= 3000; due++) {
            PrintRacks x = pad("p0s0n1d" + due);
            Check.due("fault() with d" + due, x.fault(), NONE);
            Check.due("read()", x.read(), 1);
            Check.due("the due time", x.jobOf(0, 3), due);
        }
        for (int due = 3001; due <= 10009; due++) {
            dueFault("p0s0n1d" + due, due < 10000 ? 10 : 11);
        }
        dueNext("p0s0n1d", DIGITS);
        dueNext("p0s0n1d3", DIGITS + ";");
        dueNext("p0s0n1d300", "0;");
        dueNext("p0s0n1d301", ";");
        dueNext("p0s0n1d299", DIGITS + ";");
        dueNext("p0s0n1d999", ";");
        dueNext("p0s0n1d1000", ";");
        dueNext("p0s0n1d3000", ";");
    }

    @Sentence(promise = 18, words = "(3000 if it is not told),")
    static void p18Due3000IfItIsNotTold() {
        PrintRacks x = pad("p0s0n1d5;p0s0n1;p0s0n10d0;p0s0n20");
        Check.due("read()", x.read(), 4);
        Check.dueJobs("read()", x, "p0s0n1d5;p0s0n1d3000;p0s0n10d0;p0s0n20d3000");
        dueFault("p0s0n1d", 7);
        dueFault("p0s0n1d;p0s0n1", 7);
    }

    @Sentence(promise = 18, words = "without leading zeros.")
    static void p18WithoutLeadingZeros() {
        dueFault("p0s0n01", 5);
        dueFault("p0s0n010", 5);
        dueFault("p0s0n00", 5);
        dueFault("p0s0n1d00", 8);
        dueFault("p0s0n1d01", 8);
        dueFault("p0s0n1d0300", 8);
        dueNext("p0s0n1d0", ";");
        dueNoFault("p0s0n1d0", "p0s0n10", "p0s0n1d10", "p0s0n1d100", "p0s0n1d1000", "p0s0n1d1001");
    }

    @Sentence(promise = 18, words = "The fault is the index of the first character that cannot stand at its place "
            + "when the text is read from left to right")
    static void p18TheFirstCharacterThatCannotStandAtItsPlace() {
        String text = "p1s2n13d245;p9s8n7";
        for (int index = 0; index < text.length(); index++) {
            for (char sign : new char[] {'x', '!', '~', 'q', '/', ':'}) {
                dueFault(text.substring(0, index) + sign + text.substring(index + 1), index);
                dueFault(text.substring(0, index) + sign, index);
            }
        }
        // Of two faults the first one is told; and what is right behind it doesn't help.
        dueFault("x1s2n3", 0);
        dueFault("xx", 0);
        dueFault("p1x2x3", 2);
        dueFault("p1s2n3;p1s2n0;p1s2n0", 12);
    }

    @Sentence(promise = 18, words = "(also of a digit by which a number would be too great);")
    static void p18ADigitByWhichANumberWouldBeTooGreat() {
        dueFault("p0s0n21", 6);
        dueFault("p0s0n30", 6);
        dueFault("p0s0n99", 6);
        dueFault("p0s0n200", 7);
        dueFault("p0s0n100", 7);
        dueFault("p0s0n1d3001", 10);
        dueFault("p0s0n1d3010", 10);
        dueFault("p0s0n1d4000", 10);
        dueFault("p0s0n1d9999", 10);
        dueFault("p0s0n1d30000", 11);
        dueFault("p0s0n1d10000", 11);
        dueFault("p0s0n1;p0s0n21;p0s0n1", 13);
        // A number that goes on and on does not come round to one that is small enough.
        dueFault("p0s0n" + "4294967297".repeat(5), 6);
        dueFault("p0s0n1d" + "4294967296".repeat(5), 10);
    }

    @Sentence(promise = 18, words = "if there is none and the text ends too early (also if it is empty), "
            + "it is the length of the text.")
    static void p18TheLengthIfTheTextEndsTooEarly() {
        dueFault("", 0);
        String text = "p1s2n13d245;p9s8n7d0";
        for (int length = 0; length <= text.length(); length++) {
            String start = text.substring(0, length);
            // It may end behind the hundreds, and behind each digit of the due time.
            boolean mayEnd = start.matches("(p1s2n13d245;p9s8n7(d0)?)|(p1s2n1(3(d24?5?)?)?)");
            dueFault(start, mayEnd ? NONE : length);
            Check.due("read() of " + start, pad(start).read(), !mayEnd ? PrintRacks.BAD_TEXT : length < 12 ? 1 : 2);
        }
        PrintRacks x = pad("p1");
        x.wipe();
        Check.due("empty again", x.fault(), 0);
    }

    // ---- promise 16

    @Sentence(promise = 16, words = "Ahead of the calls `put`, `wipe`, `fault` the interface says: ---- texts.")
    static void p16ToP18AreNoChanges() {
        PrintRacks x = Look.busy();
        String board = Look.board(x);
        int changes = x.count(19);
        x.put('x');
        x.fault();
        x.wipe();
        x.fault();
        Check.dueText("on the board", Look.board(x), board);
        Check.due("changes", x.count(19), changes);
        Look.dueUnchanged("fault()", Look::busy, PrintRacks::fault);
        Look.dueUnchanged("fault() of a wrong text", () -> pad("p1s2n0"), PrintRacks::fault);
    }

    @Sentence(promise = 16, words = "Appends characters to the pad.")
    static void p16AppendsCharacters() {
        PrintRacks x = new PrintRacks();
        Check.due("put()", x.put(Check.packed("p1s2n3;p")), 8);
        Check.due("put()", x.put(Check.packed("4")), 9);
        Check.due("put()", x.put(Check.packed("s5n1")), 13);
        Check.due("put()", x.put(Check.packed("6d78")), 17);
        Check.due("read()", x.read(), 2);
        Check.dueJobs("read()", x, "p1s2n3d3000;p4s5n16d78");
    }

    @Sentence(promise = 16, words = "They are given as a number: its lowest 8 bits are the last character, "
            + "the next 8 bits the one before, and so on;")
    static void p16TheLowest8BitsAreTheLastCharacter() {
        PrintRacks x = new PrintRacks();
        Check.due("p1s2n34d", x.put(0x7031_7332_6E31_3464L), 8);
        Check.due("567", x.put(0x353637L), 11);
        Check.due("read()", x.read(), 1);
        Check.dueJobs("read()", x, "p1s2n14d567");
        Check.due("p9s8n7d1", x.put(((((((112L * 256 + 57) * 256 + 115) * 256 + 56) * 256 + 110) * 256 + 55) * 256 + 100)
                * 256 + 49), 8);
        Check.due("read()", x.read(), 2);
        Check.due("its due time", x.jobOf(1, 3), 1);
    }

    @Sentence(promise = 16, words = "8 bits that are 0 mean that there are no more characters,")
    static void p16EightBitsThatAre0EndTheCharacters() {
        PrintRacks x = new PrintRacks();
        long number = 0;
        int length = 0;
        for (int characters = 1; characters <= 8; characters++) {
            number = number << 8 | 'p';
            length += characters;
            Check.due("put() of " + characters, x.put(number), length);
        }
        Check.due("the lowest ones are 0: there is none", x.put(0x7000L), PrintRacks.BAD_VALUE);
        Check.due("all are 0: there is none", x.put(0), PrintRacks.BAD_VALUE);
    }

    @Sentence(promise = 16, words = "and everything above them has to be 0, too.")
    static void p16EverythingAboveHasToBe0() {
        PrintRacks x = new PrintRacks();
        long number = 0;
        for (int characters = 1; characters <= 6; characters++) {
            number = number << 8 | '1';
            // The gap is of 8 bits; each single bit above it is refused.
            for (int bit = 8 * characters + 8; bit < 64; bit++) {
                Check.due("bit " + bit + " above " + characters, x.put(number | 1L << bit), PrintRacks.BAD_VALUE);
            }
        }
        Check.due("nothing is put", x.count(18), 0);
        Check.due("without such a bit", x.put(number), 6);
    }

    @Sentence(promise = 16, words = "- `characters`: 1 to 8 characters")
    static void p16OneTo8Characters() {
        PrintRacks x = new PrintRacks();
        Check.due("one", x.put('!'), 1);
        Check.due("eight", x.put(0x7E21_7E21_7E21_7E21L), 9);
        Check.due("none", x.put(0L), PrintRacks.BAD_VALUE);
        Check.due("the length", x.count(18), 9);
    }

    @Sentence(promise = 16, words = "Returns the length of the pad then;")
    static void p16ReturnsTheLengthOfThePadThen() {
        for (int characters = 1; characters <= 8; characters++) {
            PrintRacks x = new PrintRacks();
            long number = Check.packed("12345678".substring(0, characters));
            for (int length = characters; length <= 60; length += characters) {
                Check.due("put()", x.put(number), length);
                Check.due("count(18)", x.count(18), length);
            }
        }
    }

    @Sentence(promise = 16, words = "BAD_VALUE if there is no character,")
    static void p16BadValueIfThereIsNoCharacter() {
        PrintRacks x = new PrintRacks();
        Check.due("put(0)", x.put(0), PrintRacks.BAD_VALUE);
        for (int shift = 8; shift <= 56; shift += 8) {
            Check.due("a character above 0 alone", x.put((long) 'p' << shift), PrintRacks.BAD_VALUE);
        }
        PrintRacks full = pad("123456789012345678901234567890123456789012345678901234567890");
        Check.due("put(0) on a full pad", full.put(0), PrintRacks.BAD_VALUE);
    }

    @Sentence(promise = 16, words = "a code is not 33 to 126,")
    static void p16BadValueIfACodeIsNot33To126() {
        PrintRacks x = new PrintRacks();
        for (int place = 0; place < 8; place++) {
            for (long code = 1; code <= 255; code++) {
                long others = 0x7070_7070_7070_7070L & ~(255L << 8 * place);
                boolean good = code >= 33 && code <= 126;
                int answer = x.put(others | code << 8 * place);
                Check.due("code " + code + " at " + place, answer, good ? 8 : PrintRacks.BAD_VALUE);
                if (good) {
                    x = new PrintRacks();
                }
            }
            x = new PrintRacks();
        }
        int alone = 0;
        for (int code = 0; code <= 255; code++) {
            alone += new PrintRacks().put(code) == 1 ? 1 : 0;
        }
        Check.due("codes that can stand alone", alone, 94);
        for (long wrong : new long[] {-1, Long.MIN_VALUE, Long.MAX_VALUE, 0x8070707070707070L, 0xFFFFFFFFL, -112}) {
            Check.due("put(" + wrong + ")", x.put(wrong), PrintRacks.BAD_VALUE);
        }
    }

    @Sentence(promise = 16, words = "or a bit above 8 bits that are 0 is not 0;")
    static void p16BadValueIfABitAbove8BitsThatAre0IsNot0() {
        PrintRacks x = new PrintRacks();
        long[] wrong = {0x700070L, 0x70000070L, 0x7000000070L, 0x0170000000000070L, 0x7000000000000070L,
            0x0100000000000070L, 0x8000000000000070L, 0x7070700070707070L, 0x7000707070707070L, 0x7070707070700070L};
        for (long each : wrong) {
            Check.due("put(" + Long.toHexString(each) + ")", x.put(each), PrintRacks.BAD_VALUE);
        }
        Check.due("nothing is put", x.count(18), 0);
    }

    @Sentence(promise = 16, words = "TOO_MANY if the pad would be longer than 60.")
    static void p16TooManyIfThePadWouldBeLongerThan60() {
        for (int added = 1; added <= 8; added++) {
            PrintRacks x = new PrintRacks();
            for (int length = 1; length <= 60 - added; length++) {
                x.put('1');
            }
            String characters = "123456789";
            if (added < 8) {
                Check.due("61 characters", x.put(Check.packed(characters.substring(0, added + 1))), PrintRacks.TOO_MANY);
                Check.due("not even some of them", x.count(18), 60 - added);
            }
            Check.due("60 characters", x.put(Check.packed(characters.substring(0, added))), 60);
            Check.due("one more", x.put('1'), PrintRacks.TOO_MANY);
            Check.due("eight more", x.put(Check.packed("12345678")), PrintRacks.TOO_MANY);
            Check.due("the length", x.count(18), 60);
        }
    }

    // ---- promise 17

    @Sentence(promise = 17, words = "Empties the pad, and returns the length that it had.")
    static void p17EmptiesThePadAndReturnsTheLengthThatItHad() {
        PrintRacks x = new PrintRacks();
        Check.due("wipe() of the empty pad", x.wipe(), 0);
        for (int length : new int[] {1, 7, 8, 59, 60}) {
            for (int i = 0; i < length; i++) {
                x.put('p');
            }
            Check.due("wipe()", x.wipe(), length);
            Check.due("its length then", x.count(18), 0);
            Check.due("its fault then", x.fault(), 0);
            Check.due("wipe() again", x.wipe(), 0);
        }
        Check.write(x, "p1s2n3");
        Check.due("nothing is left of what was wiped", x.fault(), NONE);
        Check.due("read()", x.read(), 1);
        Check.due("wipe() behind read()", x.wipe(), 0);
    }

    // ---- promise 18

    @Sentence(promise = 18, words = "Returns the fault of the pad, NONE if there is none.")
    static void p18ReturnsTheFaultOfThePadNoneIfThereIsNone() {
        PrintRacks x = new PrintRacks();
        String text = "p1s2n3d4;";
        int[] faults = {1, 2, 3, 4, 5, NONE, 7, NONE, 9};
        Check.due("fault() of the empty pad", x.fault(), 0);
        for (int i = 0; i < text.length(); i++) {
            x.put(text.charAt(i));
            Check.due("fault() of " + text.substring(0, i + 1), x.fault(), faults[i]);
            Check.due("again", x.fault(), faults[i]);
        }
        x.put(';');
        Check.due("fault() behind another ;", x.fault(), 9);
        x.put('p');
        Check.due("it stays the first one", x.fault(), 9);
    }
}
