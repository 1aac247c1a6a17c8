/**
 * The boundaries of a WORKS that is told: how many letters, each letter at each place of each STATEMENT, each number of
 * each STATEMENT, both kinds of FAULT, nothing told and no room for more.
 */
public final class LettersTest {
    private static final Checks CHECKS = new Checks();
    /** In front of the STATEMENT looked at, so that it has WORKERS: 0 has WEEKDAYS 0 and 6 off, 1 has 0 and 1, 2 has none. */
    private static final String CREW = "wm0065;wm0003;wm0000;";
    private static final int BEGIN = CREW.length();
    private static final String KINDS = "whbtmf";
    private static final String DIGITS = "0123456789";

    private LettersTest() {
    }

    public static void main(String[] args) {
        everyLetterAtEveryPlace("ww0001;", new String[] {"w", KINDS, DIGITS, DIGITS, DIGITS, DIGITS, ";"});
        everyLetterAtEveryPlace("o01;", new String[] {"o", DIGITS, DIGITS, ";"});
        everyLetterAtEveryPlace("t001;", new String[] {"t", DIGITS, DIGITS, DIGITS, ";"});
        everyLetterAtEveryPlace("x021;", new String[] {"x", DIGITS, DIGITS, DIGITS, ";"});
        everyLetterAtEveryPlace("d01;", new String[] {"d", DIGITS, DIGITS, ";"});
        everyFirstLetter();
        somethingLacksAtEveryPlace();
        everyKindAndFigure();
        everyOff();
        everyWeekdayOfEveryWorker();
        everyTiredOfEveryWorker();
        everyGiving();
        everyNumberOfDays();
        dayAbove999();
        workersAsTheyCome();
        noRoomForAWorkerMore();
        noLetters();
        at96Letters();
        faultsInTheirOrder();
        withAFaultNothing();
        CHECKS.end();
    }

    private static void due(String call, long got, long want) {
        CHECKS.due(call, got, want);
    }

    private static String inDigits(int number, int digits) {
        String written = "000" + number;
        return written.substring(written.length() - digits);
    }

    /** "kind 1 the place of the first letter with which no WORKS can go on": a letter that fits is no such FAULT there. */
    private static void everyLetterAtEveryPlace(String statement, String[] fitting) {
        for (int place = 1; place < statement.length(); place++) {
            for (int c = 0; c <= 255; c++) {
                String text = CREW + statement.substring(0, place) + (char) c + statement.substring(place + 1);
                long got = Checks.tell(new PaidInDays(), text);
                String call = "works() with letter " + c + " at place " + place + " of " + statement;
                if (fitting[place].indexOf(c) < 0) {
                    due(call, got, -1000 - BEGIN - place);
                } else {
                    CHECKS.holds(call + " has no FAULT of kind 1, answered " + got, got == 4 || got == -2000 - BEGIN);
                }
            }
        }
    }

    private static void everyFirstLetter() {
        for (int c = 0; c <= 255; c++) {
            boolean begins = "wotxd".indexOf(c) >= 0;
            due("works() of letter " + c + " alone", Checks.tell(new PaidInDays(), "" + (char) c), begins ? -1001 : -1000);
            int behind = begins ? -1000 - BEGIN - 1 : -1000 - BEGIN;
            due("works() of letter " + c + " behind others", Checks.tell(new PaidInDays(), CREW + (char) c), behind);
        }
    }

    /** "(the end, if something lacks)": the place is how many letters there are. */
    private static void somethingLacksAtEveryPlace() {
        for (String statement : new String[] {"ww0001;", "o01;", "t001;", "x021;", "d01;"}) {
            for (int length = 1; length < statement.length(); length++) {
                String part = statement.substring(0, length);
                due("works() of " + part, Checks.tell(new PaidInDays(), part), -1000 - length);
                due("works() of " + CREW + part, Checks.tell(new PaidInDays(), CREW + part), -1000 - BEGIN - length);
            }
        }
    }

    private static void everyKindAndFigure() {
        for (int kind = 0; kind < 6; kind++) {
            for (int figure = 0; figure <= 9; figure++) {
                String text = "w" + KINDS.charAt(kind) + figure + "005;";
                new Calls(CHECKS, text).works(text, 1).is("worker(0, 0)", kind).is("worker(0, 1)", figure);
            }
        }
    }

    /** "OFF (bits of WEEKDAYS, 0 .. 127)". */
    private static void everyOff() {
        for (int off = 0; off <= 999; off++) {
            String text = CREW + "ww0" + inDigits(off, 3) + ";";
            Calls calls = new Calls(CHECKS, text);
            if (off <= 127) {
                calls.works(text, 4).is("worker(3, 2)", off).is("worker(3, 3)", 0).is("worker(3, 4)", 0);
            } else {
                calls.works(text, -2000 - BEGIN).is("count(0)", 0);
            }
        }
    }

    /** "he has it off, or, told again, not". */
    private static void everyWeekdayOfEveryWorker() {
        int[] off = {65, 3, 0};
        for (int worker = 0; worker <= 9; worker++) {
            for (int weekday = 0; weekday <= 9; weekday++) {
                String text = CREW + "o" + worker + weekday + ";";
                Calls calls = new Calls(CHECKS, text);
                if (worker < 3 && weekday < 7) {
                    int flipped = off[worker] ^ (1 << weekday);
                    calls.works(text, 4).is(Calls.text("worker", worker, 2), flipped);
                    calls.works("o" + worker + weekday + ";", 1).is(Calls.text("worker", worker, 2), off[worker]);
                } else {
                    calls.works(text, -2000 - BEGIN).is("count(0)", 0);
                }
            }
        }
    }

    /** "TIRED (0 .. 30)". */
    private static void everyTiredOfEveryWorker() {
        for (int worker = 0; worker <= 9; worker++) {
            for (int tired = 0; tired <= 99; tired++) {
                String text = CREW + "t" + worker + inDigits(tired, 2) + ";";
                Calls calls = new Calls(CHECKS, text);
                if (worker < 3 && tired <= 30) {
                    calls.works(text, 4).is(Calls.text("worker", worker, 3), tired).is("count(4)", tired);
                } else {
                    calls.works(text, -2000 - BEGIN).is("count(0)", 0);
                }
            }
        }
    }

    /** "the first gives it to the second (he has it, that one not)". */
    private static void everyGiving() {
        int[] off = {65, 3, 0};
        for (int number = 0; number <= 999; number++) {
            int giver = number / 100;
            int taker = number / 10 % 10;
            int weekday = number % 10;
            String text = CREW + "x" + inDigits(number, 3) + ";";
            Calls calls = new Calls(CHECKS, text);
            boolean told = giver < 3 && taker < 3 && giver != taker && weekday < 7;
            int bit = 1 << weekday;
            if (told && (off[giver] & bit) != 0 && (off[taker] & bit) == 0) {
                calls.works(text, 4).is(Calls.text("worker", giver, 2), off[giver] - bit);
                calls.is(Calls.text("worker", taker, 2), off[taker] + bit).is("count(3)", 4);
            } else {
                calls.works(text, -2000 - BEGIN).is("count(0)", 0);
            }
        }
    }

    /** "DAYS (2 digits, 1 .. 60)". */
    private static void everyNumberOfDays() {
        for (int days = 0; days <= 99; days++) {
            String text = "wm0000;d" + inDigits(days, 2) + ";";
            Calls calls = new Calls(CHECKS, text);
            if (days >= 1 && days <= 60) {
                calls.works(text, 2).is("count(1)", days).is("worker(0, 3)", Math.min(days, 30));
            } else {
                calls.works(text, -2007).is("count(1)", 0).is("count(0)", 0);
            }
        }
    }

    private static void dayAbove999() {
        Calls calls = new Calls(CHECKS, "DAY (0 .. 999), told").works("d60;".repeat(16), 16).is("count(1)", 960);
        calls.works("d40;", -2000).works("d60;", -2000).works("d38;d02;", -2004).is("count(1)", 960);
        calls.works("d38;d01;", 2).is("count(1)", 999);
        calls.works("d01;", -2000).works("d60;", -2000).is("count(1)", 999);
        calls.works("d00;", -2000).works("wm0001;d01;", -2007).is("count(0)", 0).works("wm0001;", 1).is("count(0)", 1);
    }

    /** "no such WORKER so far": as far as they have been told, in this WORKS and in those before. */
    private static void workersAsTheyCome() {
        Calls calls = new Calls(CHECKS, "WORKERS 0 .. as they come");
        calls.works("o00;wm0001;", -2000).works("t005;wm0001;", -2000).works("x010;wm0001;wm0000;", -2000);
        calls.works("wm0001;x010;wm0000;", -2007).works("wm0001;o10;wm0000;", -2007).works("wm0001;t105;wm0000;", -2007);
        calls.works("wm0001;wm0000;x010;o10;t105;", 5).is("count(0)", 2).is("count(3)", 0).is("worker(1, 3)", 5);
        calls.works("o16;", 1).works("o26;", -2000).works("wm0000;o26;", 2).is("worker(2, 2)", 64).is("count(0)", 3);
    }

    private static void noRoomForAWorkerMore() {
        Calls calls = new Calls(CHECKS, "WORKERS (6 at most)");
        calls.works("wm0000;".repeat(7), -2042).is("count(0)", 0);
        calls.works("wm0000;".repeat(5), 5).works("wm0000;wm0000;", -2007).is("count(0)", 5);
        calls.works("wf9127;o50;t530;", 3).is("count(0)", 6).is("worker(5, 2)", 126).is("worker(5, 3)", 30);
        calls.works("wm0000;", -2000).works("o51;wm0000;", -2004).is("count(0)", 6).is("worker(5, 2)", 126);
        calls.works("o60;", -2000).works("t600;", -2000).works("x560;", -2000).works("x651;", -2000);
    }

    /** "At least one STATEMENT." */
    private static void noLetters() {
        Calls calls = new Calls(CHECKS, "no letters");
        calls.works("", -1000).works("", -1000).works("wm0001;t005;", 2).works("", -1000);
        calls.is("count(0)", 1).is("worker(0, 2)", 1).is("worker(0, 3)", 5).is("count(7)", 0);
        for (int what = 11; what <= 16; what++) {
            calls.is(Calls.text("count", what), 0);
        }
    }

    /** "(96 at most)": a WORKS of 96 letters comes, one that would need more does not. */
    private static void at96Letters() {
        String ninety = "wm0000;wm0000;" + "o00;".repeat(19);
        Calls whole = new Calls(CHECKS, "96 letters").letters(ninety + "t105;").is("count(7)", 95);
        whole.is("letter(100)", 96).refused("letter(48)", -6).is("works()", -1096).is("count(7)", 0).is("count(0)", 0);
        Calls right = new Calls(CHECKS, "96 letters").letters("o00;".repeat(24).replaceFirst("o00;o00;o00;o00;", "wm0000;d01;t005;"));
        right.is("count(7)", 96).refused("letter(59)", -6).is("works()", 23).is("worker(0, 2)", 0).is("letter(119)", 1);
        Calls begun = new Calls(CHECKS, "96 letters").letters("wm0000;".repeat(13) + "wm000").is("count(7)", 96);
        begun.refused("letter(48)", -6).refused("letter(59)", -6).is("works()", -1096).is("count(0)", 0);
        Calls last = new Calls(CHECKS, "96 letters, the last is wrong").letters("d01;".repeat(23) + "d01:");
        last.is("works()", -1095).is("count(1)", 0);
        Calls late = new Calls(CHECKS, "96 letters, the last STATEMENT is wrong").letters("d01;".repeat(23) + "d00;");
        late.is("works()", -2092).is("count(1)", 0);
    }

    /** "FAULT: kind 1 ..; else kind 2 .. the first STATEMENT that is not as it must be". */
    private static void faultsInTheirOrder() {
        Calls calls = new Calls(CHECKS, "both kinds of FAULT");
        calls.works("wm0128;z", -1007).works("d00;d61;o99;w", -1013).works("wm0128;wm0000", -1013).works("o00;;", -1004);
        calls.works("wm0128;d00;", -2000).works("wm0000;d61;wm0999;", -2007).works("wm0000;d01;o07;t031;", -2011);
        calls.is("count(0)", 0).is("count(1)", 0);
        for (int what = 11; what <= 16; what++) {
            calls.is(Calls.text("count", what), 0);
        }
    }

    /** "Without FAULT all of it comes, with one nothing." */
    private static void withAFaultNothing() {
        String begin = "wm0001;o10;t022;d05;";
        String[] ends = {"o09;", "t099;", "x009;", "wm0128;", "d00;", "z", "o0", ";", "o0:;"};
        int[] faults = {-2020, -2020, -2020, -2020, -2020, -1020, -1022, -1020, -1022};
        for (int i = 0; i < ends.length; i++) {
            Calls calls = new Calls(CHECKS, "with a FAULT nothing").works("wf3065;wb5012;d03;t107;", 4).is("image()", 3);
            calls.taken("days(5)").rows(1, 2).fault(begin + ends[i], faults[i]).works(begin, 4);
        }
        Calls all = new Calls(CHECKS, "without FAULT all of it").fault("wm0001;wm0000;o13;t022;d05;x013;", -2027);
        all.works("wm0001;wm0000;o13;t022;d05;x103;", 6).is("count(0)", 2).is("count(1)", 5).is("worker(0, 2)", 9);
        all.is("worker(1, 2)", 0).is("worker(0, 3)", 27).is("worker(1, 3)", 2);
    }
}
