/**
 * The boundaries of what there is: WEEKDAYS round, WORKERS, TIRED, DUE, WAGES, DAY, from whom a wage comes, THE IMAGE,
 * the ROW, the counts, the 512 calls. The sentence of the document stands with each; what is due was worked out by hand,
 * but for the WAGES of all 999 DAYS, which are the plain model's.
 */
public final class StateBoundariesTest {
    private static final Checks CHECKS = new Checks();
    private static final String KINDS = "whbtmf";
    private static final int[] NO_OFF = {0, 0, 0, 0, 0, 0};

    private StateBoundariesTest() {
    }

    public static void main(String[] args) {
        newObject();
        weekdaysGoRound();
        everyWeekdayIsFreed();
        tiredAtItsEnds();
        dueAtItsEnds();
        wageBehindJustSoManyDays();
        dueOrMore();
        wagesOfAllDays();
        dayAtItsEnd();
        fromWhomRound();
        fromTheOneWithMost();
        fromWhichWeekday();
        fromNobody();
        turnToEachKind();
        rowAtItsEnds();
        judgedAtItsEnds();
        imageOfNobody();
        imageOfAll();
        imageIsTheLast();
        countOfEachWhat();
        refusalsAreCounted();
        at512Calls();
        CHECKS.end();
    }

    private static Calls of(String sentence) {
        return new Calls(CHECKS, sentence);
    }

    private static String call(String name, int... arguments) {
        return Calls.text(name, arguments);
    }

    private static void newObject() {
        Calls calls = of("No WORKERS, DAY 0");
        for (int what = 0; what <= 7; what++) {
            calls.is(call("count", what), 0);
        }
        calls.refused("worker(0, 0)", -1).refused("on()", -3).is("works()", -1000).is("judge()", -9).is("clear()", 0);
        of("0 at first: TIRED, DUE").works("wf0127;", 1).is("worker(0, 3)", 0).is("worker(0, 4)", 0);
        of("0 at first: of one who comes later").works("wm0000;d09;wm0000;", 3).is("worker(1, 3)", 0).is("worker(1, 4)", 0);
        of("0 at first: WAGES, DAY").works("wf0127;", 1).is("count(1)", 0).is("count(2)", 0);
    }

    private static void weekdaysGoRound() {
        Calls first = of("DAY modulo 7: WEEKDAY 0 again on DAY 7").works("wm0001;t010;", 2).is("count(5)", 0);
        first.is("days(6)", 0).is("count(1)", 6).is("worker(0, 3)", 16).is("count(5)", 1);
        first.is("days(1)", 0).is("count(1)", 7).is("worker(0, 3)", 14).is("count(5)", 0);
        first.is("days(1)", 0).is("worker(0, 3)", 15).is("count(5)", 1);
        Calls last = of("WEEKDAYS 0 .. 6: the last one").works("wm0064;t010;d05;", 3).is("worker(0, 3)", 15).is("count(5)", 1);
        last.is("days(1)", 0).is("count(1)", 6).is("worker(0, 3)", 13).is("count(5)", 0);
        last.is("days(7)", 0).is("count(1)", 13).is("worker(0, 3)", 17).is("count(5)", 0);
        for (int weekday = 0; weekday < 7; weekday++) {
            Calls each = of("DAY modulo 7: WEEKDAY " + weekday).works("wm0000;", 1).is(call("frees", 0, weekday), 1 << weekday);
            for (int day = 0; day < 15; day++) {
                each.is("count(5)", day % 7 == weekday ? 0 : 1).taken("days(1)");
            }
        }
    }

    private static void everyWeekdayIsFreed() {
        Calls calls = of("he has it off, or not any more").works("wm0000;wm0127;", 2);
        int off = 0;
        for (int weekday = 0; weekday < 7; weekday++) {
            off += 1 << weekday;
            calls.is(call("frees", 0, weekday), off).is(call("frees", 1, weekday), 127 - off);
        }
        calls.is("worker(0, 2)", 127).is("worker(1, 2)", 0).refused("frees(0, 7)", -1).refused("frees(0, -1)", -1);
        for (int weekday = 0; weekday < 7; weekday++) {
            calls.is(call("gives", 0, 1, weekday), (2 << weekday) - 1).refused(call("gives", 0, 1, weekday), -3);
        }
        calls.is("worker(0, 2)", 0).is("worker(1, 2)", 127);
    }

    private static void tiredAtItsEnds() {
        int[] tired = {0, 1, 2, 3, 4, 29, 30};
        int[] rested = {0, 0, 0, 1, 2, 27, 28};
        int[] worked = {1, 2, 3, 4, 5, 30, 30};
        for (int i = 0; i < tired.length; i++) {
            Calls off = of("off: TIRED 2 less (0 at least)").works("wm0127;", 1).is(call("rests", 0, tired[i]), 0);
            off.is("workerThen(0, 1, 1)", rested[i]).is("days(1)", 0).is("worker(0, 3)", rested[i]).is("count(4)", rested[i]);
            Calls in = of("IN: TIRED 1 more (30 at most)").works("wm0000;", 1).is(call("rests", 0, tired[i]), 0);
            in.is("workerThen(0, 1, 1)", worked[i]).is("days(1)", 0).is("worker(0, 3)", worked[i]).is("count(4)", worked[i]);
        }
        Calls told = of("TIRED becomes v: what it was").works("wm0000;", 1);
        for (int v = 0; v <= 30; v++) {
            told.is(call("rests", 0, v), Math.max(v - 1, 0)).is("worker(0, 3)", v);
        }
        told.refused("rests(0, 31)", -6).refused("rests(0, -1)", -4).is("worker(0, 3)", 30);
    }

    private static void dueAtItsEnds() {
        Calls calls = of("DUE 1 more (9 at most)").works("wm0000;", 1);
        for (int day = 1; day <= 12; day++) {
            calls.is("days(1)", 0).is("worker(0, 4)", Math.min(day, 9));
        }
        calls.is("workerThen(0, 60, 2)", 9);
        of("DUE: DAYS worked").works("wm0002;d01;", 2).is("worker(0, 4)", 0).is("days(1)", 0).is("worker(0, 4)", 1);
        of("DUE: DAYS worked, none").works("wf0127;wm0127;d60;", 3).is("worker(0, 4)", 0).is("worker(1, 4)", 0);
    }

    /** WORKER 1 has WEEKDAY 0 off: it is there to be taken once, and the first five DAYS are others. */
    private static void wageBehindJustSoManyDays() {
        int[] more = {0, 0, 1, 0};
        for (int kind = 0; kind < 6; kind++) {
            for (int figure = 0; figure <= 9; figure++) {
                int after = kind == 4 ? 0 : kind == 5 ? 1 : figure / 3 + 1 + more[kind];
                String text = "w" + KINDS.charAt(kind) + figure + "000;wm0001;";
                Calls calls = of("behind how many DAYS worked a wage is DUE: " + text).works(text, 2);
                calls.is("worker(0, 5)", after);
                if (after > 0) {
                    calls.is(call("then", after - 1, 0), 0).is(call("then", after, 0), 1);
                    calls.is(call("workerThen", 0, after - 1, 2), after - 1).is(call("workerThen", 0, after, 2), 0);
                    calls.is(call("workerThen", 0, after - 1, 0), 0).is(call("workerThen", 0, after, 0), 1);
                }
                calls.is("then(60, 0)", after > 0 ? 1 : 0).is("workerThen(1, 60, 0)", after > 0 ? 0 : 1);
            }
        }
    }

    private static void dueOrMore() {
        Calls nobody = of("from whom it comes, if there is one: none").works("ww0000;d01;", 2).is("count(2)", 0);
        nobody.is("worker(0, 4)", 1).is("days(1)", 0).is("worker(0, 4)", 2).works("wm0001;", 1);
        nobody.is("days(1)", 1).is("worker(0, 4)", 0).is("worker(0, 2)", 1).is("worker(1, 2)", 0);
        Calls more = of("DUE is what it must be, or more").works("wm9000;wm0001;d09;", 3).is("turn(0, 0, 0)", 49);
        more.is("worker(0, 4)", 9).is("count(2)", 0).is("days(1)", 1).is("worker(0, 4)", 0);
        Calls off = of("who is off is not paid").works("wm9002;wm0001;d07;", 3).is("turn(0, 5, 0)", 49).is("worker(0, 4)", 6);
        off.is("days(1)", 0).is("worker(0, 4)", 6).is("days(1)", 1).is("worker(0, 4)", 0);
    }

    /** All 999 DAYS of six WORKERS; the plain model pays as many. */
    private static void wagesOfAllDays() {
        String text = "wf0000;wf0127;wf0021;wf0106;wf0000;wf0127;";
        Calls calls = of("WAGES of 999 DAYS").works(text, 6);
        PlainModel model = new PlainModel();
        text.chars().forEach(model::letter);
        model.works();
        for (int i = 0; i < 17; i++) {
            int n = i < 16 ? 60 : 39;
            calls.is(call("days", n), model.days(n));
        }
        calls.is("count(1)", 999).is("count(2)", model.count(2)).is("then(60, 0)", model.then(60, 0));
        CHECKS.holds("WAGES come above 999: " + model.count(2), model.count(2) > 999);
    }

    private static void dayAtItsEnd() {
        Calls calls = of("DAY (0 .. 999)");
        for (int i = 0; i < 16; i++) {
            calls.is("days(60)", 0);
        }
        calls.is("count(1)", 960).refused("days(60)", -6).refused("days(40)", -6).is("days(38)", 0).is("count(1)", 998);
        calls.refused("days(2)", -6).is("days(1)", 0).is("count(1)", 999).refused("days(1)", -6).refused("days(60)", -6);
        calls.refused("days(0)", -4).refused("days(61)", -6).is("image()", 999).is("on()", 999).is("count(1)", 999);
    }

    private static String crew(char kind, int who, int size, int off) {
        StringBuilder text = new StringBuilder();
        for (int i = 0; i < size; i++) {
            text.append(i == who ? "w" + kind + "0000;" : "wm0" + Integer.toString(1000 + off).substring(1) + ";");
        }
        return text.toString();
    }

    private static void fromWhomRound() {
        for (int size = 2; size <= 6; size++) {
            for (int who = 0; who < size; who++) {
                int next = (who + 1) % size;
                int before = (who + size - 1) % size;
                int least = who == 0 ? 1 : 0;
                int[] payers = {next, least, before, least, before, least};
                for (int kind = 0; kind < 6; kind++) {
                    Calls calls = of("from whom, KIND " + KINDS.charAt(kind) + " " + who + " of " + size);
                    calls.works(crew(KINDS.charAt(kind), who, size, 8), size);
                    calls.is(call("from", who, 0), payers[kind]).is(call("from", who, 1), 3);
                }
            }
        }
        Calls next = of("the next by numbers (round from the last to the first)").works("wm0000;wm0002;wm0004;ww0006;wm0006;", 5);
        next.is("from(3, 0)", -9).is("frees(1, 0)", 3).is("from(3, 0)", 1).is("from(3, 1)", 0);
        next.is("frees(0, 5)", 32).is("from(3, 0)", 0).is("from(3, 1)", 5).is("frees(4, 6)", 70).is("from(3, 0)", 4);
        Calls before = of("the one before him (round)").works("wm0006;wb0006;wm0004;wm0002;wm0000;", 5);
        before.is("from(1, 0)", -9).is("frees(3, 0)", 3).is("from(1, 0)", 3).is("from(1, 1)", 0);
        before.is("frees(4, 5)", 32).is("from(1, 0)", 4).is("from(1, 1)", 5).is("frees(0, 6)", 70).is("from(1, 0)", 0);
        Calls least = of("the least by numbers").works("wm0006;wm0004;wf0006;wm0001;wm0065;", 5);
        least.is("from(2, 0)", 3).is("from(2, 1)", 0).is("frees(3, 0)", 0).is("from(2, 0)", 4).is("from(2, 1)", 6);
    }

    private static void fromTheOneWithMost() {
        for (char kind : new char[] {'h', 't'}) {
            Calls calls = of("the one with most WEEKDAYS off: " + kind).works("wm0001;wm0003;w" + kind + "0126;wm0127;wm0127;", 5);
            calls.is("from(2, 0)", 3).is("from(2, 1)", 0);
            calls.is("frees(3, 0)", 126).is("from(2, 0)", 4);
            calls.is("frees(4, 0)", 126).is("from(2, 0)", 1);
            calls.is("frees(1, 1)", 1).is("from(2, 0)", 0);
            calls.is("frees(0, 0)", 0).is("from(2, 0)", 1);
            calls.is("frees(1, 0)", 0).is("from(2, 0)", -9);
        }
    }

    private static void fromWhichWeekday() {
        for (int kind = 0; kind < 6; kind++) {
            boolean greatest = kind == 3 || kind == 5;
            Calls calls = of("which of those WEEKDAYS, KIND " + kind).works("w" + KINDS.charAt(kind) + "0000;wm0127;", 2);
            calls.is("from(0, 1)", greatest ? 6 : 0);
            calls.is(call("frees", 0, greatest ? 6 : 0), greatest ? 64 : 1).is("from(0, 1)", greatest ? 5 : 1);
            calls.is(call("frees", 1, greatest ? 5 : 1), greatest ? 95 : 125).is("from(0, 1)", greatest ? 4 : 2);
            calls.is("frees(1, 3)", greatest ? 87 : 117).is("from(0, 1)", greatest ? 4 : 2);
        }
    }

    private static void fromNobody() {
        for (int kind = 0; kind < 6; kind++) {
            String he = "w" + KINDS.charAt(kind) + "0";
            of("FROM: -9, alone").works(he + "127;", 1).is("from(0, 0)", -9).is("from(0, 1)", -9);
            Calls six = of("FROM: -9, of six").works("wm0003;".repeat(5) + he + "003;", 6).is("from(5, 0)", -9).is("from(5, 1)", -9);
            six.is("frees(0, 5)", 35).is("from(5, 0)", 0).is("from(5, 1)", 5);
            of("FROM: -9, he has all").works(he + "127;wm0127;", 2).is("from(0, 0)", -9).is("from(0, 1)", -9);
            of("FROM: -9, none has one").works(he + "000;wm0000;wm0000;", 3).is("from(0, 0)", -9).is("from(0, 1)", -9);
            of("FROM: -9, the same ones").works(he + "042;wm0042;wm0008;", 3).is("from(0, 0)", -9).is("from(0, 1)", -9)
                .is("count(11)", 0).is("count(12)", 0);
        }
    }

    private static void turnToEachKind() {
        Calls calls = of("10 times the KIND and the FIGURE it had").works("ww0003;", 1);
        int had = 0;
        for (int kind = 0; kind < 6; kind++) {
            for (int figure = 0; figure <= 9; figure++) {
                calls.is(call("turn", 0, kind, figure), had).is("worker(0, 0)", kind).is("worker(0, 1)", figure);
                had = 10 * kind + figure;
            }
        }
        calls.refused("turn(0, 6, 9)", -2).refused("turn(0, -1, 0)", -2).refused("turn(0, 5, 10)", -6);
        calls.refused("turn(0, 0, -1)", -4).is("turn(0, 0, 0)", 59);
    }

    private static void rowAtItsEnds() {
        Calls calls = of("A ROW of numbers (0 .. 99; 16 at most)").is("clear()", 0);
        for (int i = 1; i <= 16; i++) {
            calls.is(call("row", i % 2 == 0 ? 0 : 99), i).is("count(6)", i);
        }
        calls.refused("row(0)", -6).refused("row(99)", -6).refused("row(100)", -6).refused("row(-1)", -4);
        calls.is("clear()", 16).is("clear()", 0).is("row(7)", 1).is("clear()", 1).is("count(6)", 0);
        calls.refused("row(100)", -6).refused("row(-1)", -4).is("count(6)", 0).is("row(99)", 1);
    }

    private static Calls rowed(String sentence, String text, int statements, int... numbers) {
        return of("JUDGED: " + sentence).works(text, statements).rows(numbers).is("count(6)", numbers.length);
    }

    private static void judgedAtItsEnds() {
        String two = "wm0001;wm0065;";
        of("JUDGED: an empty ROW").is("judge()", -9).works(two, 2).is("judge()", -9);
        rowed("all WEEKDAYS", two, 2, 0, 2, 2, 2, 2, 2, 1).is("judge()", -9).is("count(6)", 0).is("judge()", -9);
        rowed("a part of them", two, 2, 0).is("judge()", -9).is("count(6)", 0);
        rowed("the first", two, 2, 1, 9, 9).is("judge()", 0).is("count(6)", 0).is("judge()", -9);
        rowed("the last WEEKDAY", two, 2, 0, 2, 2, 2, 2, 2, 2).is("judge()", 6).is("count(6)", 0);
        rowed("none there, 0 told", two, 2, 0, 2, 2, 2, 2, 2, 1, 0).is("judge()", 7).is("count(6)", 0);
        rowed("none there, as if round", two, 2, 0, 2, 2, 2, 2, 2, 1, 0, 2, 2, 2, 2, 2, 1, 0, 2).is("judge()", 7);
        rowed("before none is there", two, 2, 0, 2, 2, 2, 2, 2, 0, 0).is("judge()", 6);
        rowed("greatest number", two, 2, 0, 99).is("judge()", 1);
        rowed("not by DAY", "wm0001;wm0065;d05;", 3, 0, 2).is("judge()", -9);
        rowed("six of them", "wm0126;".repeat(6), 6, 6, 0, 0, 0, 0, 0, 0).is("judge()", -9);
        of("JUDGED: nobody").rows(NO_OFF).rows(0).is("judge()", -9).rows(NO_OFF).rows(0, 0).is("judge()", 7);
        of("JUDGED: nobody, not so").rows(0, 1).is("judge()", 1).is("count(6)", 0).is("row(5)", 1);
    }

    private static void imageOfNobody() {
        Calls calls = of("THE IMAGE of nobody").refused("on()", -3).is("image()", 0).is("on()", 0).is("days(9)", 0);
        calls.works("wf0000;wf0127;d05;", 3).is("on()", 0).is("count(0)", 0).is("count(1)", 0).is("count(2)", 0);
        calls.refused("worker(0, 0)", -1).works("wm0000;".repeat(6), 6).is("worker(5, 0)", 4);
        calls.is("on()", 0).is("count(0)", 0);
    }

    /** TIRED, DUE, WAGES, DAY at their greatest or none, six WORKERS; then all of it else. */
    private static void imageOfAll() {
        Calls calls = of("ON from it all is as then").works("wf0000;wm0127;d03;wh9127;wb0000;wt5001;t430;", 7);
        calls.is("worker(0, 2)", 112).is("worker(1, 2)", 15).is("count(2)", 3);
        calls.is("row(5)", 1).letters("t").is("image()", 3).refused("days(0)", -4).is("row(6)", 2).letters("0");
        calls.is("works()", -1002).works("wf9127;d60;o00;t022;", 4).is("turn(0, 4, 9)", 50).is("turn(2, 0, 0)", 19);
        calls.letters("wm").is("on()", 3).is("count(0)", 5).is("count(1)", 3).is("count(2)", 3);
        int[][] was = {{5, 0, 112, 3, 0}, {4, 0, 15, 0, 0}, {1, 9, 127, 0, 0}, {2, 0, 0, 0, 0}, {3, 5, 1, 30, 0}};
        for (int who = 0; who < was.length; who++) {
            for (int what = 0; what < 5; what++) {
                calls.is(call("worker", who, what), was[who][what]);
            }
        }
        calls.refused("worker(5, 0)", -1).is("count(6)", 2).is("count(7)", 2).is("count(14)", 1).is("count(11)", 1);
        calls.works("0000;", 1).is("count(0)", 6).is("worker(5, 0)", 4).is("worker(5, 3)", 0).is("worker(5, 4)", 0);
    }

    private static void imageIsTheLast() {
        Calls calls = of("THE IMAGE: all that there is, but it").works("wm0000;", 1).is("days(1)", 0).is("image()", 1);
        calls.is("days(2)", 0).is("on()", 1).is("worker(0, 3)", 1).is("days(5)", 0).is("on()", 1).is("worker(0, 3)", 1);
        calls.is("days(3)", 0).is("image()", 4).is("days(9)", 0).is("image()", 13).is("on()", 13).is("worker(0, 3)", 13);
        calls.is("on()", 13).is("rests(0, 30)", 13).is("frees(0, 0)", 1).is("on()", 13).is("worker(0, 3)", 13);
        calls.is("worker(0, 2)", 0).is("count(13)", 0);
    }

    private static void countOfEachWhat() {
        Calls most = of("count: all at their most").works("wm0127;".repeat(6) + "t030;t130;t230;t330;t430;t530;", 12);
        most.is("count(0)", 6).is("count(3)", 42).is("count(4)", 180).is("count(5)", 0);
        Calls in = of("count: who is IN now").works("wm0126;".repeat(6), 6).is("count(5)", 63).is("count(3)", 36);
        in.is("frees(5, 0)", 127).is("count(5)", 31).is("days(1)", 0).is("count(5)", 0);
        Calls others = of("-9 for another what").works("wm0001;", 1);
        for (int what : new int[] {-1, 8, 9, 10, 17, 18, 100, Integer.MIN_VALUE, Integer.MAX_VALUE}) {
            others.is(call("count", what), -9);
        }
        for (int what = 11; what <= 16; what++) {
            others.is(call("count", what), 0);
        }
    }

    private static void refusalsAreCounted() {
        String[] calls = {"worker(9, 0)", "strike(9)", "on()", "days(0)", "days(61)"};
        int[] refusals = {-1, -2, -3, -4, -6};
        for (int i = 0; i < calls.length; i++) {
            Calls each = of("11 .. 16 REFUSALS -1 .. -6");
            for (int times = 1; times <= 3; times++) {
                each.refused(calls[i], refusals[i]).is(call("count", 10 - refusals[i]), times).is("count(15)", 0);
            }
        }
        of("Of longs they count as well").refused("fever(0, 0, 2, 0, 0)", -1).refused("mean(2)", -2).is("count(11)", 1)
            .is("count(12)", 1);
        of("-9 is no REFUSAL").is("falls(-1)", -9).is("strike(3)", -9).is("never(1)", -9).is("send(5)", -9).is("judge()", -9)
            .is("count(99)", -9).is("count(11)", 0).is("count(12)", 0).is("count(13)", 0).is("count(14)", 0).is("count(16)", 0);
    }

    private static void at512Calls() {
        PaidInDays refusing = new PaidInDays();
        for (int i = 0; i < 511; i++) {
            refusing.worker(0, 0);
        }
        CHECKS.due("512 calls: count(11) is the last", refusing.count(11), 511);
        PaidInDays turning = new PaidInDays();
        CHECKS.due("512 calls: works()", Checks.tell(turning, "wm0001;"), 1);
        for (int i = 8; i < 511; i++) {
            turning.frees(0, 6);
        }
        CHECKS.due("512 calls: worker(0, 2) is the last", turning.worker(0, 2), 65);
        PaidInDays telling = new PaidInDays();
        for (int i = 0; i < 5; i++) {
            CHECKS.due("512 calls: works() of 96 letters", Checks.tell(telling, "d01;".repeat(24)), 24);
        }
        for (int i = 485; i < 511; i++) {
            telling.still();
        }
        CHECKS.due("512 calls: count(1) is the last", telling.count(1), 120);
    }
}
