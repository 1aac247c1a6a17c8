/**
 * The boundaries of what is thought: the least and the greatest n of each call, DAY past 999, "of several the least",
 * "less than else", "-9", nobody there, round over the week's end; asking changes nothing. What is due was worked out by
 * hand, but for the rows marked "by search" and the sums of lots, which a script of its own reckoned.
 */
public final class ThoughtBoundariesTest {
    private static final Checks CHECKS = new Checks();

    private ThoughtBoundariesTest() {
    }

    public static void main(String[] args) {
        nobodyIsThere();
        behindNoDay();
        behindTheMostDays();
        dayPasses999();
        thoughtsOfOne();
        fallsAtItsEnds();
        firstOfThoseWhoFall();
        stillFourteenDays();
        strikeAndCover();
        meetAndNever();
        restIsRound();
        giftOfSeveral();
        tradeOfSeveral();
        turnOfSeveral();
        fewestOfSeveral();
        sendOfSeveral();
        holidayOfSeveral();
        twoWhoHaveItNoBetter();
        feverAtItsEnds();
        meanAtItsEnds();
        whatHeIsAtItsEnds();
        lotsByAnInt();
        CHECKS.end();
    }

    private static Calls of(String sentence) {
        return new Calls(CHECKS, sentence);
    }

    /** This crew, told on DAY 999: the next WEEKDAY is 6, the one behind it 0. */
    private static Calls at999(String sentence, String text, int statements) {
        Calls calls = of(sentence + ", past DAY 999");
        for (int i = 0; i < 16; i++) {
            calls.is("days(60)", 0);
        }
        return calls.is("days(39)", 0).works(text, statements).is("count(1)", 999);
    }

    private static void nobodyIsThere() {
        Calls calls = of("nobody");
        calls.asked("then(0, 0)", 0).asked("then(60, 0)", 0).asked("then(0, 1)", 0).asked("then(60, 1)", 0);
        calls.asked("falls(-1)", -9).asked("still()", 0).asked("strike(0)", 0).asked("strike(1)", 0).asked("strike(2)", 127);
        calls.asked("strike(3)", -9).asked("never(0)", 0).asked("never(1)", -9).asked("fewest(0)", 0).asked("fewest(20)", 0);
        calls.asked("send(0)", -9).asked("send(30)", -9).asked("holiday(0, 0)", 0).asked("holiday(0, 1)", 0);
        calls.asked("holiday(30, 0)", 0).asked("holiday(30, 1)", 0).asked("mean(0)", 0).asked("mean(1)", 1);
        calls.asked("lots(1, 5, 0)", 0).asked("lots(20, 5, 1)", 0).asked("count(3)", 0).asked("count(5)", 0);
    }

    private static void behindNoDay() {
        Calls calls = of("n is 0").works("wf0003;wm0004;t010;t105;", 4);
        calls.asked("workerThen(0, 0, 0)", 3).asked("workerThen(0, 0, 1)", 10).asked("workerThen(0, 0, 2)", 0);
        calls.asked("then(0, 0)", 0).asked("then(0, 1)", 2).asked("gift(0, 1, 0)", -9).asked("trade(0, 1, 0)", -9);
        calls.asked("better(0, 0, 0)", 0).asked("better(0, 0, 1)", 15).asked("fewest(0)", 0).asked("send(0)", -9);
        calls.asked("holiday(0, 0)", 0).asked("holiday(0, 1)", 15).asked("two(0, 1, 0)", 11).asked("two(1, 0, 0)", 11);
        calls.asked("fever(0, 0, 20, 10, 0)", 1).asked("fever(0, 0, 20, 10, 1)", 1);
        calls.asked("fever(0, 0, 20, 11, 0)", 0).asked("fever(0, 0, 20, 11, 1)", 1);
    }

    private static void behindTheMostDays() {
        Calls alone = of("n is the greatest, alone").works("wm0000;t005;", 2);
        alone.asked("workerThen(0, 60, 0)", 0).asked("workerThen(0, 60, 1)", 30).asked("workerThen(0, 60, 2)", 9);
        alone.asked("better(0, 30, 0)", 0).asked("better(0, 30, 1)", 30).asked("fewest(20)", 1).asked("send(30)", -9);
        Calls off = of("n is the greatest, off").works("wm0127;t030;", 2).asked("workerThen(0, 14, 1)", 2);
        off.asked("workerThen(0, 15, 1)", 0).asked("workerThen(0, 60, 1)", 0).asked("workerThen(0, 60, 2)", 0);
        Calls tired = of("behind 60 DAYS, not 59").works("wm0065;d01;t008;", 3);
        tired.asked("workerThen(0, 59, 1)", 19).asked("workerThen(0, 60, 1)", 20);
        // DAY 60 is WEEKDAY 4, DAY 56 is WEEKDAY 0, which the foreman has from the first DAY on.
        Calls taker = of("n is the greatest, a wage").works("wf0000;wm0001;", 2).asked("then(60, 0)", 1).asked("then(60, 1)", 3);
        taker.asked("then(56, 1)", 2).asked("workerThen(0, 60, 0)", 1).asked("workerThen(1, 60, 0)", 0).asked("send(30)", 0);
        // He is IN on WEEKDAY 0 alone: behind 2, 9, 16, 23 and 30 DAYS, and for the fifth time he is paid.
        Calls late = of("behind 30 DAYS, not 29").works("d05;wb9126;wm0001;", 3).asked("then(29, 0)", 0).asked("then(30, 0)", 1);
        late.asked("send(29)", -9).asked("send(30)", 0).asked("two(0, 1, 30)", 11);
        // With WEEKDAY 1 off from TIRED 5 he comes to 20 behind 30 DAYS, from 0 to 17; without to 30.
        Calls gift = of("behind 30 DAYS, not 1").works("wm0002;wm0000;t005;", 3).asked("gift(0, 1, 1)", -9);
        gift.asked("gift(0, 1, 30)", 1);
        // Together 37 as it is, 36 with the WEEKDAYS changed.
        of("behind 30 DAYS").works("wm0002;wm0004;t105;", 3).asked("trade(0, 1, 30)", 12).asked("trade(1, 0, 30)", 21);
        Calls free = of("behind 30 DAYS, not 29").works("wm0000;", 1).asked("holiday(30, 0)", 2).asked("holiday(30, 1)", 16);
        free.asked("holiday(29, 0)", 1).asked("holiday(29, 1)", 16);
    }

    private static void dayPasses999() {
        Calls taker = at999("In thought DAY may pass 999", "wf0000;wm0001;t010;", 3);
        taker.asked("then(0, 1)", 3).asked("then(1, 1)", 3).asked("then(2, 1)", 2).asked("then(60, 0)", 1).asked("then(60, 1)", 3);
        taker.asked("workerThen(0, 2, 1)", 9).asked("workerThen(1, 2, 1)", 2).asked("still()", 1).asked("send(1)", 0);
        taker.asked("better(0, 2, 0)", 0).asked("better(0, 2, 1)", 11).asked("two(0, 1, 2)", 1).asked("two(1, 0, 2)", 10);
        taker.asked("fever(0, 2, 5, 10, 0)", 1).asked("fever(0, 2, 5, 10, 1)", 5).rows(10, 11, 9).asked("whatIs(0, 0)", 43);
        taker.asked("whatIs(0, 1)", 1023).refused("days(1)", -6);
        at999("FALLS", "wm0064;t018;", 2).asked("falls(0)", 5).asked("falls(-1)", 0);
        at999("GIFT", "wm0064;wm0000;t105;", 3).asked("gift(0, 6, 1)", 1);
        at999("TRADE", "wm0064;wm0001;t105;", 3).asked("trade(0, 1, 1)", 60).asked("trade(1, 0, 1)", 6);
        at999("FEWEST", "wm0000;t015;", 2).asked("fewest(4)", 0).asked("fewest(5)", 1);
        Calls free = at999("HOLIDAY", "wm0000;t005;", 2).asked("holiday(1, 0)", 6).asked("holiday(1, 1)", 3);
        free.asked("holiday(2, 0)", 0).asked("holiday(2, 1)", 4);
        at999("LOTS", "wm0000;wm0000;wm0000;wm0000;wm0000;wm0000;", 6).asked("lots(1, 7, 0)", 16)
            .asked("lots(20, least, 0)", 187).asked("lots(20, least, 1)", 0);
    }

    private static void thoughtsOfOne() {
        Calls calls = of("In mind, of one").works("ww0002;wb5065;t115;", 3);
        int[] off = {2, 2, 3, 66};
        int[] tired = {0, 0, 1, 2};
        for (int n = 0; n < 4; n++) {
            calls.asked(Calls.text("workerThen", 0, n, 0), off[n]).asked(Calls.text("workerThen", 0, n, 1), tired[n]);
        }
        calls.refused("workerThen(0, 61, 0)", -6).refused("workerThen(0, -1, 0)", -4).refused("workerThen(0, 60, 3)", -2);
        // The foreman has taken WEEKDAY 1 on DAY 1: by OFF then the other one is IN.
        of("who is IN, by OFF then").works("wm0002;wf0000;", 2).asked("then(1, 1)", 1).asked("then(0, 1)", 3);
    }

    private static void fallsAtItsEnds() {
        for (int tired = 0; tired <= 30; tired++) {
            Calls in = of("TIRED 20 or more first, TIRED " + tired).works("wm0000;", 1).taken(Calls.text("rests", 0, tired));
            in.asked("falls(0)", Math.max(20 - tired, 0)).asked("falls(-1)", 0);
            Calls off = of("TIRED 20 or more first, off, TIRED " + tired).works("wm0127;", 1);
            off.taken(Calls.text("rests", 0, tired)).asked("falls(0)", tired < 20 ? -9 : 0).asked("falls(-1)", tired < 20 ? -9 : 0);
        }
        Calls last = of("FALLS (0 .. 60)").works("wm0065;t007;", 2).asked("falls(0)", -9).asked("falls(-1)", -9);
        last.is("days(1)", 0).asked("falls(0)", 60).asked("falls(-1)", 0);
    }

    private static void firstOfThoseWhoFall() {
        Calls calls = of("FIRST, of several the least").works("wm0000;wm0000;wm0000;t014;t115;t215;", 6).asked("falls(-1)", 1);
        calls.is("rests(2, 16)", 15).asked("falls(-1)", 2).is("rests(0, 16)", 14).asked("falls(-1)", 0);
        calls.is("rests(1, 20)", 15).is("rests(2, 30)", 16).asked("falls(-1)", 1).refused("falls(3)", -1).refused("falls(-2)", -1);
        of("FIRST, the last of six").works("wm0127;".repeat(5) + "wm0000;", 6).asked("falls(-1)", 5).asked("falls(5)", 20)
            .asked("falls(4)", -9);
    }

    /** He is IN on WEEKDAY 0 alone, and has it off as soon as he is paid. */
    private static void stillFourteenDays() {
        of("a wage on the 14th DAY").works("ww3126;wm0001;", 2).asked("still()", 14);
        of("a wage on the 15th DAY").works("d06;ww6126;wm0001;", 3).asked("then(14, 0)", 0).asked("then(15, 0)", 1).asked("still()", 0);
        of("a wage on the first DAY").works("wf0000;wm0001;", 2).asked("still()", 1).is("days(1)", 1).asked("still()", 0);
        of("none is paid").works("wm0003;wm0127;", 2).asked("still()", 0);
        // By search: the last wage is paid behind 61 DAYS, a DAY later behind 60.
        of("(0 .. 60)").works("wb4092;wh6075;wm9125;", 3).asked("still()", -9).is("days(1)", 0).asked("still()", 60);
    }

    private static void strikeAndCover() {
        Calls all = of("all have all off").works("wm0127;".repeat(6), 6).asked("strike(0)", 0).asked("strike(1)", 6);
        all.asked("strike(2)", 127).asked("strike(3)", 0).refused("strike(4)", -2).refused("strike(-1)", -2);
        Calls none = of("none has one off").works("wm0000;wm0000;", 2).asked("strike(0)", 0).asked("strike(1)", 0);
        none.asked("strike(2)", 0).asked("strike(3)", 0);
        Calls last = of("the last WEEKDAY").works("wm0064;wm0096;wm0001;", 3).asked("strike(0)", 6).asked("strike(1)", 2);
        last.asked("strike(2)", 0).asked("strike(3)", 1).is("frees(2, 6)", 65).asked("strike(1)", 3).asked("strike(2)", 64);
        last.asked("strike(3)", 1).is("frees(2, 5)", 97).asked("strike(3)", 2);
        of("COVER: only the first is IN").works("wm0000;wm0127;wm0127;", 3).asked("strike(2)", 0).is("frees(0, 6)", 64)
            .asked("strike(2)", 64);
        of("COVER: only the last is IN").works("wm0127;wm0127;wm0126;", 3).asked("strike(2)", 126);
        of("of several the least").works("wm0080;wm0080;wm0006;wm0006;", 4).asked("strike(0)", 1).asked("strike(1)", 2)
            .asked("strike(3)", 0);
    }

    private static void meetAndNever() {
        Calls calls = of("both IN").works("wm0000;wm0000;wm0127;wm0085;wm0042;", 5).asked("meet(0, 1)", 127).asked("meet(0, 2)", 0);
        calls.asked("meet(0, 3)", 42).asked("meet(3, 4)", 0).asked("meet(4, 0)", 85).refused("meet(4, 4)", -1);
        of("NEVER MET: all").works("wm0127;".repeat(6), 6).asked("never(0)", 15).asked("never(1)", 1);
        of("NEVER MET: the last two").works("wm0000;".repeat(4) + "wm0085;wm0042;", 6).asked("never(0)", 1).asked("never(1)", 45);
        of("NEVER MET: none").works("wm0000;".repeat(6), 6).asked("never(0)", 0).asked("never(1)", -9);
        of("NEVER MET: one alone").works("wm0127;", 1).asked("never(0)", 0).asked("never(1)", -9);
        of("NEVER MET: the first").works("wm0000;wm0085;wm0042;wm0127;", 4).asked("never(0)", 4).asked("never(1)", 3)
            .is("frees(3, 1)", 125).asked("never(0)", 2).asked("never(1)", 12);
    }

    /** The longest run of 1 in the bits written twice. */
    private static void restIsRound() {
        for (int off = 0; off <= 127; off++) {
            String bits = Integer.toBinaryString(128 + off).substring(1);
            int longest = 0;
            while (longest < 7 && (bits + bits).contains("1".repeat(longest + 1))) {
                longest++;
            }
            String text = "wm0" + Integer.toString(1000 + off).substring(1) + ";";
            of("the longest run of WEEKDAYS (round), OFF " + off).works(text, 1).asked("rest(0)", longest);
        }
    }

    private static void giftOfSeveral() {
        of("GIFT: of several the least").works("wm0002;wm0000;wm0000;t105;t205;", 5).asked("gift(0, 1, 1)", 1);
        of("GIFT: the more tired one").works("wm0002;wm0000;wm0000;t101;t205;", 5).asked("gift(0, 1, 1)", 2);
        of("GIFT: the last of six").works("wm0002;".repeat(5) + "wm0000;t505;", 7).asked("gift(0, 1, 1)", 5).asked("gift(4, 1, 1)", 5);
        of("GIFT: of the last to the first").works("wm0000;wm0002;t005;", 3).asked("gift(1, 1, 1)", 0);
        of("GIFT: less than else, it is as much").works("wm0002;wm0000;t005;t105;", 4).asked("gift(0, 1, 1)", -9);
        of("GIFT: less than else, by 1").works("wm0002;wm0000;t001;t102;", 4).asked("gift(0, 1, 1)", 1);
        of("GIFT: another one, there is none").works("wm0127;t030;", 2).asked("gift(0, 1, 30)", -9);
        of("GIFT: who has it not, all have").works("wm0002;wm0002;t105;", 3).asked("gift(0, 1, 1)", -9);
        // WEEKDAY 0 comes round on DAY 7.
        of("GIFT: round").works("wm0001;wm0000;d06;t000;t105;", 5).asked("gift(0, 0, 1)", 1);
        of("GIFT: he has it not").works("wm0002;wm0001;", 2).refused("gift(0, 0, 5)", -3).refused("gift(0, 6, 30)", -3)
            .refused("gift(0, 0, 31)", -6).refused("gift(0, 0, -1)", -4).refused("gift(0, 7, 31)", -1);
    }

    private static void tradeOfSeveral() {
        of("TRADE: of several the first, the other's").works("wm0002;wm0028;t105;", 3).asked("trade(0, 1, 1)", 12);
        of("TRADE: of several the first, the one's").works("wm0012;wm0002;t005;", 3).asked("trade(0, 1, 1)", 21);
        of("TRADE: less than else, it is as much").works("wm0002;wm0004;t005;t105;", 4).asked("trade(0, 1, 1)", -9);
        of("TRADE: less than else, by 1").works("wm0002;wm0004;t001;t102;", 4).asked("trade(0, 1, 1)", 12);
        of("TRADE: WEEKDAYS 0 and 6").works("wm0001;wm0064;d06;t000;t105;", 5).asked("trade(0, 1, 1)", 6).asked("trade(1, 0, 1)", 60);
        of("TRADE: each has his, and not the other's").works("wm0002;wm0006;t105;", 3).asked("trade(0, 1, 1)", -9);
        of("TRADE: none to change").works("wm0127;wm0127;wm0000;t030;", 4).asked("trade(0, 1, 30)", -9).asked("trade(0, 2, 30)", -9);
        // A third one, TIRED 30, is IN on both DAYS whatever the two do.
        of("TRADE: of both together").works("wm0002;wm0004;wm0000;t105;t230;", 5).asked("trade(0, 1, 1)", 12);
        // 13 as it is, 11 with the WEEKDAYS changed; but a foreman takes WEEKDAY 1 back on DAY 1, and it is 14.
        of("TRADE: nobody is paid").works("wm0002;wm0008;t110;", 3).asked("trade(0, 1, 2)", 13);
        of("TRADE: the one is paid").works("wf0002;wm0008;t110;", 3).asked("trade(0, 1, 2)", -9);
        // By numbers the tired one comes first here, and is off before it is taken.
        of("TRADE: the later one is paid").works("wm0008;wf0002;t010;", 3).asked("trade(1, 0, 2)", 13);
    }

    private static void turnOfSeveral() {
        Calls calls = of("TURN: of several the least").works("wm0000;wm0004;t010;", 3).asked("better(0, 2, 0)", 0);
        calls.asked("better(0, 2, 1)", 11).is("turn(0, 4, 9)", 40).asked("better(0, 2, 0)", 5).asked("better(0, 2, 1)", 11);
        calls.asked("better(0, 1, 0)", 0).asked("better(0, 1, 1)", 12).is("turn(0, 5, 0)", 49).asked("better(0, 1, 0)", 0);
        of("TURN: one alone").works("wf0000;t030;", 2).asked("better(0, 30, 0)", 0).asked("better(0, 30, 1)", 30);
        // Any wage on the two DAYS would take the rest of the second off the one who is TIRED 10.
        Calls mild = of("TURN: not to be paid").works("ww0000;wm0004;t110;", 3).asked("better(0, 2, 0)", 4);
        mild.asked("better(0, 2, 1)", 11).is("turn(0, 0, 9)", 0).asked("better(0, 2, 0)", 0).asked("better(0, 2, 1)", 11);
    }

    private static void fewestOfSeveral() {
        StringBuilder six = new StringBuilder("wm0000;".repeat(6));
        for (int who = 0; who < 6; who++) {
            six.append("t").append(who).append("19;");
        }
        of("FEWEST: all of them").works(six.toString(), 12).asked("fewest(1)", 63).asked("fewest(0)", 0).asked("fewest(20)", 63);
        // The foreman would take WEEKDAY 1 off the other one: it helps to send home the one or the other.
        of("FEWEST: of several the least").works("wf0000;wm0002;t119;", 3).asked("fewest(1)", 1);
        of("FEWEST: one, though of greater bits").works("wm0000;wm0000;wm0000;t219;", 4).asked("fewest(1)", 4);
        Calls last = of("FEWEST: (0 .. 20)").works("wm0000;", 1).asked("fewest(19)", 0).asked("fewest(20)", 1);
        last.refused("fewest(21)", -6).refused("fewest(-1)", -4).is("rests(0, 19)", 0).asked("fewest(0)", 0).asked("fewest(1)", 1);
        last.is("rests(0, 20)", 19).asked("fewest(0)", -9).asked("fewest(1)", -9).asked("fewest(20)", -9);
        of("FEWEST: none is needed").works("wm0127;wm0085;t019;", 3).asked("fewest(20)", 0);
    }

    private static void sendOfSeveral() {
        // Each of the two foremen is paid once; with one of them at home only the other is.
        of("SEND: of several the least").works("wf0000;wf0000;wm0065;", 3).asked("then(1, 0)", 2).asked("send(1)", 0);
        // As it is 3 WAGES; 2 without the boy, 1 without the foreman.
        of("SEND: fewest").works("wb0000;wf0000;wm0127;", 3).asked("then(2, 0)", 3).asked("send(2)", 1);
        of("SEND: fewer than else, as many").works("wm0127;wm0000;wm0000;", 3).asked("send(30)", -9);
        // The foreman has WEEKDAYS 4, 5 and 6 by then, and is paid again on DAY 7.
        Calls more = of("SEND: WAGES of before").works("wf0000;wm0127;d03;", 3).is("count(2)", 3).asked("send(0)", -9);
        more.asked("then(3, 0)", 3).asked("send(3)", -9).asked("then(4, 0)", 4).asked("send(4)", 0);
        of("SEND: the last of six").works("wm0001;".repeat(5) + "wf0000;", 6).asked("send(1)", 5).asked("send(0)", -9);
    }

    private static void holidayOfSeveral() {
        for (int day = 1; day <= 7; day++) {
            Calls calls = of("HOLIDAY: WEEKDAY " + (day + 1) % 7).works("wm0000;d0" + day + ";t005;", 3);
            calls.asked("holiday(1, 0)", (day + 1) % 7).asked("holiday(1, 1)", 3);
        }
        of("HOLIDAY: of several the least").works("wm0000;t005;", 2).asked("holiday(2, 0)", 1).asked("holiday(2, 1)", 4)
            .asked("holiday(0, 0)", 0).asked("holiday(0, 1)", 5);
        of("HOLIDAY: all have it already").works("wm0127;wm0127;t005;", 3).asked("holiday(1, 0)", 0).asked("holiday(1, 1)", 3);
        // By search: without one they are TIRED 1 together; HOLIDAY does not ask that it be less than else.
        of("HOLIDAY: the best, though none is better").works("wf0014;wf6113;t105;", 3).asked("workerThen(0, 11, 1)", 0)
            .asked("workerThen(1, 11, 1)", 1).asked("holiday(11, 0)", 3).asked("holiday(11, 1)", 2);
    }

    private static void twoWhoHaveItNoBetter() {
        // Paid he is TIRED 0 behind 2 DAYS, else 2 and as if 0: neither has it better, and the first pair counts.
        Calls even = of("TWO: as if 2 less, it is as good").works("wf0000;wm0004;", 2).asked("two(0, 1, 2)", 1);
        even.asked("two(1, 0, 2)", 10).asked("two(0, 1, 1)", 11);
        of("TWO: by another one alone, better by 1").works("wf0000;wm0004;t010;", 3).asked("two(0, 1, 2)", 1);
        // Off on DAY 2 as it is, he is TIRED 0 behind 3 DAYS if he is paid, else 1 and as if 1 below 0.
        of("TWO: as if 2 less, it is better").works("wf0004;wm0008;", 2).asked("two(0, 1, 3)", 11).asked("two(1, 0, 3)", 11);
        of("TWO: none").works("wt0040;wb2096;wh7047;", 3).asked("two(0, 1, 3)", -9).asked("two(1, 0, 3)", -9);
        // By search.
        of("TWO: none, the third is always paid").works("wb0009;wt7005;wb0096;t007;t103;t213;", 6).asked("two(0, 2, 6)", -9);
        of("TWO: (0 .. 30)").works("wm0000;wm0001;", 2).asked("two(0, 1, 30)", 11).refused("two(0, 1, 31)", -6)
            .refused("two(0, 1, -1)", -4).refused("two(1, 1, -1)", -1);
    }

    private static void feverAtItsEnds() {
        Calls calls = of("FEVER: v (0 .. 30)").works("wm0000;t023;", 2).asked("fever(0, 7, 20, 30, 0)", 1);
        calls.asked("fever(0, 7, 20, 30, 1)", 1).asked("fever(0, 6, 20, 30, 0)", 0).asked("fever(0, 6, 20, 30, 1)", 1);
        calls.asked("fever(0, 0, 2, 0, 0)", 1).asked("fever(0, 7, 2, 0, 1)", 1);
        Calls odds = of("FEVER: t (2 .. 20)").works("wf0000;wm0004;t010;", 3);
        odds.asked("fever(0, 2, 2, 10, 0)", 1).asked("fever(0, 2, 2, 10, 1)", 2);
        odds.asked("fever(0, 2, 20, 10, 0)", 1).asked("fever(0, 2, 20, 10, 1)", 20);
        odds.asked("fever(1, 2, 20, 1, 0)", 399).asked("fever(1, 2, 20, 1, 1)", 400);
        odds.refused("fever(0, 2, 1, 10, 0)", -4).refused("fever(0, 2, 21, 10, 0)", -6);
        Calls week = of("FEVER: n (0 .. 7)").works("wf0000;wm0001;t010;", 3).asked("fever(1, 7, 20, 7, 0)", 1279999999);
        week.asked("fever(1, 7, 20, 7, 1)", 1280000000).asked("fever(0, 7, 20, 17, 0)", 1).asked("fever(0, 7, 20, 17, 1)", 64000000);
        week.refused("fever(0, 8, 20, 17, 0)", -6).refused("fever(0, -1, 20, 17, 0)", -4);
    }

    private static void meanAtItsEnds() {
        StringBuilder six = new StringBuilder("wm0000;".repeat(6));
        for (int who = 0; who < 6; who++) {
            six.append("t").append(who).append("30;");
        }
        Calls most = of("MEAN: the greatest").works(six.toString(), 12).asked("mean(0)", 30).asked("mean(1)", 1);
        most.is("rests(5, 29)", 30).asked("mean(0)", 179).asked("mean(1)", 6).refused("mean(2)", -2).refused("mean(-1)", -2);
        of("MEAN: of one").works("wm0000;t005;", 2).asked("mean(0)", 5).asked("mean(1)", 1);
        of("MEAN: 0").works("wm0000;".repeat(6), 6).asked("mean(0)", 0).asked("mean(1)", 1).is("rests(3, 1)", 0)
            .asked("mean(0)", 1).asked("mean(1)", 6);
    }

    private static void whatHeIsAtItsEnds() {
        of("WHAT HE IS: by no ROW").works("wm0000;", 1).asked("whatIs(0, 0)", 63).asked("whatIs(0, 1)", 1023);
        // Only FIGURE 9 is paid on DAY 4 and so IN on it; all the others have WEEKDAY 4 off by then.
        Calls figures = of("FIGURES (bits 0 .. 9)").works("ww0000;wm0016;", 2).rows(0, 1, 2, 3, 4).asked("whatIs(0, 1)", 512);
        figures.is("clear()", 5).rows(0, 1, 2, 3, 1).asked("whatIs(0, 1)", 511).asked("count(6)", 5);
        of("KINDS (bits): the last").works("ww9000;wm0004;", 2).rows(0, 1, 0).asked("whatIs(0, 0)", 32);
        of("KINDS (bits): all but the last").works("ww9000;wm0004;", 2).rows(0, 1, 2).asked("whatIs(0, 0)", 31);
        Calls all = of("behind 0, 1, .. 15 DAYS").works("wm0000;", 1).rows(0, 1, 2, 3, 4, 5, 6, 7, 8, 9, 10, 11, 12, 13, 14, 15);
        all.asked("whatIs(0, 0)", 63).asked("whatIs(0, 1)", 1023).asked("count(6)", 16);
        Calls last = of("behind 15 DAYS").works("wm0000;", 1).rows(0, 1, 2, 3, 4, 5, 6, 7, 8, 9, 10, 11, 12, 13, 14, 16);
        last.asked("whatIs(0, 0)", 0).asked("whatIs(0, 1)", 0);
        of("behind 0 DAYS").works("wm0000;t030;", 2).rows(30, 30, 30).asked("whatIs(0, 0)", 63).is("clear()", 3).rows(29, 30)
            .asked("whatIs(0, 0)", 0);
        of("no such TIRED").works("wm0000;t030;", 2).rows(31).asked("whatIs(0, 0)", 0).asked("whatIs(0, 1)", 0);
    }

    private static void lotsByAnInt() {
        Calls calls = of("DRAW: an int").works("wm0127;t030;", 2).asked("lots(1, 0, 0)", 0).asked("lots(1, -1, 0)", 1);
        calls.asked("lots(1, greatest, 0)", 1).asked("lots(1, least, 0)", 0).asked("lots(20, greatest, 0)", 17);
        calls.asked("lots(20, -1, 0)", 17).asked("lots(20, least, 0)", 15).asked("lots(20, 0, 0)", 15).asked("lots(20, 0, 1)", 0);
        calls.refused("lots(0, 0, 0)", -4).refused("lots(21, 0, 0)", -6);
        of("DRAW: of each, by numbers").works("wm0000;".repeat(6), 6).asked("lots(20, 0, 0)", 174);
        // OFF 63 and 98: he is IN on WEEKDAY 6 alone, on the 6th and the 13th DAY, and DUE behind 4.
        Calls due = of("LOTS: each from now").works("ww9000;wm0000;d03;", 3).asked("lots(1, 2, 1)", 1).works("t030;", 1);
        due.asked("lots(1, 2, 1)", 1);
        due.asked("lots(2, 2, 0)", 15).asked("lots(2, 2, 1)", 3).asked("lots(20, 2, 0)", 102).asked("lots(20, 2, 1)", 28);
        Calls more = of("LOTS: WAGES more").works("ww0000;wm0127;wm0127;d03;", 4).is("count(2)", 3).asked("lots(1, 11, 0)", 11);
        more.asked("lots(1, 11, 1)", 3).asked("lots(2, 11, 0)", 27).asked("lots(2, 11, 1)", 5).asked("lots(20, 11, 0)", 166);
        more.asked("lots(20, 11, 1)", 56);
        Calls all = of("LOTS: all KINDS").works("ww0003;wh4012;wb2096;wt5127;wm3064;wf9000;d09;", 7).is("count(2)", 21);
        all.asked("lots(20, greatest, 0)", 328).asked("lots(20, greatest, 1)", 538).asked("lots(20, least, 0)", 276);
        all.asked("lots(20, least, 1)", 500).asked("lots(1, least, 1)", 23);
        of("LOTS: each from now, DUE 0").works("ww9000;wm0000;", 2).asked("lots(1, 2, 1)", 0);
    }
}
