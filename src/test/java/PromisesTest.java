/**
 * At least one method for each promise. What is due was worked out by hand from the document, but for the rows marked
 * "by search": those were looked for with the class, and PlainModel answers the same; and the sums of lots over several
 * weeks, which a script of a few lines reckoned.
 */
public final class PromisesTest {
    private static final Checks CHECKS = new Checks();
    private static final long REFUSED = 4000000000000000000L;
    private static final int LEAST = Integer.MIN_VALUE;
    private static final int GREATEST = Integer.MAX_VALUE;

    private PromisesTest() {
    }

    public static void main(String[] args) {
        promise1NewObject();
        promise2Letter();
        promise3WorksStatements();
        promise3WorksLetterFaults();
        promise3WorksStatementFaults();
        promise3WorksDayAndRoom();
        promise4Worker();
        promise5From();
        promise5FromEdges();
        promise6Frees();
        promise7Gives();
        promise8Rests();
        promise9Turn();
        promise10Days();
        promise10DayRules();
        promise10DaysEnd();
        promise11WorkerThen();
        promise12Then();
        promise13Falls();
        promise14Still();
        promise15Strike();
        promise16Meet();
        promise17Never();
        promise18Rest();
        promise19Gift();
        promise20Trade();
        promise21Better();
        promise22Fewest();
        promise23Send();
        promise24Holiday();
        promise25Two();
        promise26Fever();
        promise26FeverRefusals();
        promise27Mean();
        promise28WhatIs();
        promise29Row();
        promise30Judge();
        promise31Clear();
        promise32Lots();
        promise33And34ImageAndOn();
        promise35Count();
        CHECKS.end();
    }

    private static void due(String call, long got, long want) {
        CHECKS.due(call, got, want);
    }

    private static void promise1NewObject() {
        PaidInDays x = new PaidInDays();
        for (int what = 0; what <= 7; what++) {
            due("1: count(" + what + ")", x.count(what), 0);
        }
        for (int what = 11; what <= 16; what++) {
            due("1: count(" + what + ")", x.count(what), 0);
        }
        due("1: worker(0, 0)", x.worker(0, 0), -1);
        due("1: clear()", x.clear(), 0);
        due("1: on()", x.on(), -3);
    }

    private static void promise2Letter() {
        PaidInDays x = new PaidInDays();
        due("2: letter(-1)", x.letter(-1), -4);
        due("2: letter(least)", x.letter(LEAST), -4);
        due("2: letter(256)", x.letter(256), -6);
        due("2: letter(greatest)", x.letter(GREATEST), -6);
        due("2: letter(0)", x.letter(0), 1);
        due("2: letter(255)", x.letter(255), 2);
        for (int i = 3; i <= 96; i++) {
            due("2: letter " + i, x.letter('w'), i);
        }
        due("2: the 97th letter", x.letter('w'), -6);
        due("2: the 97th letter, below", x.letter(-1), -4);
        due("2: count(7)", x.count(7), 96);
        due("2: count(14)", x.count(14), 3);
        due("2: count(16)", x.count(16), 3);
        due("2: works()", x.works(), -1000);
        due("2: letter behind works()", x.letter('w'), 1);
    }

    private static void promise3WorksStatements() {
        PaidInDays x = new PaidInDays();
        due("3: all statements", Checks.tell(x, "ww0001;wb5064;o01;t115;x010;d03;"), 6);
        due("3: WORKERS", x.count(0), 2);
        due("3: DAY", x.count(1), 3);
        due("3: WAGES", x.count(2), 3);
        due("3: letters", x.count(7), 0);
        due("3: OFF of 0", x.worker(0, 2), 66);
        due("3: TIRED of 0", x.worker(0, 3), 2);
        due("3: DUE of 0", x.worker(0, 4), 0);
        due("3: OFF of 1", x.worker(1, 2), 1);
        due("3: TIRED of 1", x.worker(1, 3), 18);
        due("3: DUE of 1", x.worker(1, 4), 0);
        due("3: told again", Checks.tell(x, "o01;"), 1);
        due("3: OFF told again", x.worker(0, 2), 64);
        due("3: a worker more", Checks.tell(x, "wf9127;"), 1);
        due("3: KIND of 2", x.worker(2, 0), 5);
        due("3: FIGURE of 2", x.worker(2, 1), 9);
        due("3: OFF of 2", x.worker(2, 2), 127);
        due("3: greatest TIRED", Checks.tell(x, "t230;"), 1);
        due("3: TIRED of 2", x.worker(2, 3), 30);
    }

    private static void promise3WorksLetterFaults() {
        String[] texts = {
            "", "z", "ww", "W", "ww0001;z", "ww0001;;", "wz0001;", "ww000;", "ww00010;", "ww0001", "ww0001;o",
            "ww0001;o0;", "ww0001;o000;", "ww0001;t00;", "ww0001;x00;", "ww0001;d1;", "ww0001;d001;", "wwa001;", "ww000:;",
            "ww9999;z"
        };
        int[] places = {0, 0, 2, 0, 7, 7, 1, 5, 6, 6, 8, 9, 10, 10, 10, 9, 10, 2, 5, 7};
        for (int i = 0; i < texts.length; i++) {
            PaidInDays x = new PaidInDays();
            due("3: works of " + texts[i], Checks.tell(x, texts[i]), -1000 - places[i]);
            due("3: WORKERS by " + texts[i], x.count(0), 0);
            due("3: letters behind " + texts[i], x.count(7), 0);
            for (int what = 11; what <= 16; what++) {
                due("3: a fault is not counted, " + what, x.count(what), 0);
            }
        }
    }

    private static void promise3WorksStatementFaults() {
        String[] texts = {
            "ww0128;", "ww0999;", "o00;", "t000;", "ww0001;o10;", "ww0001;o07;", "ww0001;t100;", "ww0001;t031;",
            "ww0001;d00;", "ww0001;d61;", "ww0001;x000;", "ww0001;x010;", "ww0001;ww0001;x010;", "ww0001;ww0000;x011;",
            "ww0001;ww0000;x017;", "ww0001;ww0000;x100;", "o00;ww0001;", "ww0001;o09;ww0128;", "ww0127;ww0000;x010;x010;"
        };
        int[] places = {0, 0, 0, 0, 7, 7, 7, 7, 7, 7, 7, 7, 14, 14, 14, 14, 0, 7, 19};
        for (int i = 0; i < texts.length; i++) {
            PaidInDays x = new PaidInDays();
            due("3: works of " + texts[i], Checks.tell(x, texts[i]), -2000 - places[i]);
            due("3: WORKERS by " + texts[i], x.count(0), 0);
            due("3: DAY by " + texts[i], x.count(1), 0);
            due("3: letters behind " + texts[i], x.count(7), 0);
        }
    }

    private static void promise3WorksDayAndRoom() {
        PaidInDays x = new PaidInDays();
        String six = "wm0000;wm0000;wm0000;wm0000;wm0000;wm0000;";
        due("3: no room for the seventh", Checks.tell(x, six + "wm0000;"), -2042);
        due("3: nothing came", x.count(0), 0);
        due("3: six", Checks.tell(x, six), 6);
        due("3: no room later", Checks.tell(x, "o01;wm0000;"), -2004);
        due("3: OFF is as before", x.worker(0, 2), 0);
        PaidInDays y = new PaidInDays();
        StringBuilder days = new StringBuilder();
        for (int i = 0; i < 16; i++) {
            days.append("d60;");
        }
        due("3: 960 DAYS", Checks.tell(y, days.toString()), 16);
        due("3: DAY above 999", Checks.tell(y, "d39;d01;"), -2004);
        due("3: DAY is as before", y.count(1), 960);
        due("3: DAY 999", Checks.tell(y, "d39;"), 1);
        due("3: DAY is 999", y.count(1), 999);
    }

    private static void promise4Worker() {
        String[] letters = {"w", "h", "b", "t", "m", "f"};
        int[][] after = {{1, 1, 2, 2, 3, 4}, {1, 1, 2, 2, 3, 4}, {2, 2, 3, 3, 4, 5}, {1, 1, 2, 2, 3, 4}, {0, 0, 0, 0, 0, 0},
            {1, 1, 1, 1, 1, 1}};
        int[] figures = {0, 2, 3, 5, 8, 9};
        for (int kind = 0; kind < 6; kind++) {
            for (int i = 0; i < figures.length; i++) {
                PaidInDays x = Checks.told("w" + letters[kind] + figures[i] + "005;");
                String who = "4: " + letters[kind] + figures[i] + " ";
                due(who + "KIND", x.worker(0, 0), kind);
                due(who + "FIGURE", x.worker(0, 1), figures[i]);
                due(who + "OFF", x.worker(0, 2), 5);
                due(who + "TIRED", x.worker(0, 3), 0);
                due(who + "DUE", x.worker(0, 4), 0);
                due(who + "wage behind", x.worker(0, 5), after[kind][i]);
            }
        }
        PaidInDays x = Checks.told("wm0000;d04;");
        due("4: TIRED", x.worker(0, 3), 4);
        due("4: DUE", x.worker(0, 4), 4);
        due("4: worker(1, 9)", x.worker(1, 9), -1);
        due("4: worker(-1, 0)", x.worker(-1, 0), -1);
        due("4: worker(greatest, 0)", x.worker(GREATEST, 0), -1);
        due("4: worker(least, 0)", x.worker(LEAST, 0), -1);
        due("4: worker(0, 6)", x.worker(0, 6), -2);
        due("4: worker(0, -1)", x.worker(0, -1), -2);
        due("4: count(11)", x.count(11), 4);
        due("4: count(12)", x.count(12), 2);
    }

    private static void promise5From() {
        int[] payers = {4, 2, 2, 2, 2, 0};
        int[] weekdays = {2, 4, 4, 6, 4, 1};
        PaidInDays x = Checks.told("wm0003;wm0000;wm0120;ww0008;wm0004;wm0000;");
        for (int kind = 0; kind < 6; kind++) {
            x.turn(3, kind, 0);
            due("5: from whom, KIND " + kind, x.from(3, 0), payers[kind]);
            due("5: WEEKDAY, KIND " + kind, x.from(3, 1), weekdays[kind]);
        }
        due("5: OFF stays", x.worker(2, 2), 120);
    }

    private static void promise5FromEdges() {
        PaidInDays x = Checks.told("wb0003;wm0000;wm0120;wh0120;ww0004;wm0000;");
        due("5: the next, round, past who has none", x.from(4, 0), 0);
        due("5: its WEEKDAY", x.from(4, 1), 0);
        due("5: the one before, round, past who has none", x.from(0, 0), 4);
        due("5: its WEEKDAY", x.from(0, 1), 2);
        due("5: the richest of those that have another one", x.from(3, 0), 0);
        due("5: its WEEKDAY", x.from(3, 1), 0);
        x.frees(4, 0);
        due("5: of several the least", x.from(3, 0), 0);
        x.frees(4, 6);
        due("5: most WEEKDAYS off, not most of those he has not", x.from(3, 0), 4);
        PaidInDays alone = Checks.told("wf0003;");
        due("5: alone", alone.from(0, 0), -9);
        due("5: alone, WEEKDAY", alone.from(0, 1), -9);
        due("5: -9 is no refusal", alone.count(11) + alone.count(12), 0);
        due("5: from(1, 2)", alone.from(1, 2), -1);
        due("5: from(-1, 0)", alone.from(-1, 0), -1);
        due("5: from(0, 2)", alone.from(0, 2), -2);
        due("5: from(0, -1)", alone.from(0, -1), -2);
    }

    private static void promise6Frees() {
        PaidInDays x = Checks.told("ww0005;");
        due("6: off", x.frees(0, 1), 7);
        due("6: off no more", x.frees(0, 0), 6);
        due("6: the last", x.frees(0, 6), 70);
        due("6: OFF", x.worker(0, 2), 70);
        due("6: frees(1, 0)", x.frees(1, 0), -1);
        due("6: frees(-1, 0)", x.frees(-1, 0), -1);
        due("6: frees(0, 7)", x.frees(0, 7), -1);
        due("6: frees(0, -1)", x.frees(0, -1), -1);
        due("6: OFF as before", x.worker(0, 2), 70);
        due("6: count(11)", x.count(11), 4);
    }

    private static void promise7Gives() {
        PaidInDays x = Checks.told("ww0005;ww0006;");
        due("7: gives(0, 1, 0)", x.gives(0, 1, 0), 7);
        due("7: OFF of 0", x.worker(0, 2), 4);
        due("7: the other has it", x.gives(0, 1, 2), -3);
        due("7: he has it not", x.gives(0, 1, 3), -3);
        due("7: gives(0, 0, 2)", x.gives(0, 0, 2), -1);
        due("7: gives(0, 2, 2)", x.gives(0, 2, 2), -1);
        due("7: gives(2, 0, 2)", x.gives(2, 0, 2), -1);
        due("7: gives(-1, 0, 2)", x.gives(-1, 0, 2), -1);
        due("7: gives(0, 1, 7)", x.gives(0, 1, 7), -1);
        due("7: gives(0, 1, -1)", x.gives(0, 1, -1), -1);
        due("7: back", x.gives(1, 0, 0), 5);
        due("7: count(11)", x.count(11), 6);
        due("7: count(13)", x.count(13), 2);
    }

    private static void promise8Rests() {
        PaidInDays x = Checks.told("ww0005;t007;");
        due("8: what it was", x.rests(0, 30), 7);
        due("8: again", x.rests(0, 0), 30);
        due("8: rests(1, -1)", x.rests(1, -1), -1);
        due("8: rests(0, -1)", x.rests(0, -1), -4);
        due("8: rests(0, 31)", x.rests(0, 31), -6);
        due("8: TIRED", x.worker(0, 3), 0);
    }

    private static void promise9Turn() {
        PaidInDays x = Checks.told("wf7005;t007;d01;");
        due("9: what it had", x.turn(0, 2, 9), 57);
        due("9: KIND", x.worker(0, 0), 2);
        due("9: FIGURE", x.worker(0, 1), 9);
        due("9: again", x.turn(0, 0, 0), 29);
        due("9: TIRED stays", x.worker(0, 3), 8);
        due("9: DUE stays", x.worker(0, 4), 1);
        due("9: turn(1, 6, -1)", x.turn(1, 6, -1), -1);
        due("9: turn(0, 6, -1)", x.turn(0, 6, -1), -2);
        due("9: turn(0, -1, 10)", x.turn(0, -1, 10), -2);
        due("9: turn(0, 5, -1)", x.turn(0, 5, -1), -4);
        due("9: turn(0, 5, 10)", x.turn(0, 5, 10), -6);
        due("9: KIND as before", x.worker(0, 0), 0);
    }

    private static void promise10Days() {
        PaidInDays x = Checks.told("ww0002;wb5065;t115;");
        due("10: a DAY without a wage", x.days(1), 0);
        due("10: OFF on it, not below 0", x.worker(0, 3), 0);
        due("10: IN on it", x.worker(1, 3), 16);
        due("10: DUE of who is off", x.worker(0, 4), 0);
        due("10: DUE of who is IN", x.worker(1, 4), 1);
        due("10: two DAYS, three wages", x.days(2), 3);
        due("10: OFF of 0", x.worker(0, 2), 66);
        due("10: OFF of 1", x.worker(1, 2), 1);
        due("10: DUE of 1", x.worker(1, 4), 0);
        due("10: DAY", x.count(1), 3);
        due("10: days(0)", x.days(0), -4);
        due("10: days(least)", x.days(LEAST), -4);
        due("10: days(61)", x.days(61), -6);
        due("10: days(greatest)", x.days(GREATEST), -6);
        due("10: DAY as before", x.count(1), 3);
    }

    private static void promise10DayRules() {
        PaidInDays taken = Checks.told("wf0000;wm0002;t105;");
        due("10: the WEEKDAY is taken before his turn comes", taken.days(1), 1);
        due("10: so he is IN", taken.worker(1, 3), 6);
        due("10: and the other has it", taken.worker(0, 2), 2);
        PaidInDays later = Checks.told("wm0002;wf0000;t005;");
        due("10: behind his turn", later.days(1), 1);
        due("10: he was off", later.worker(0, 3), 3);
        due("10: he has it no more", later.worker(0, 2), 0);
        PaidInDays most = Checks.told("wf0000;t029;d60;");
        due("10: TIRED at most", most.worker(0, 3), 30);
        due("10: DUE at most, with nobody to pay", most.worker(0, 4), 9);
        due("10: no WAGES", most.count(2), 0);
        PaidInDays late = Checks.told("wf0000;d09;wm0127;d01;");
        due("10: DUE above what it must be", late.count(2), 1);
        due("10: DUE 0 then", late.worker(0, 4), 0);
        PaidInDays mild = Checks.told("wm0000;wm0127;d60;");
        due("10: MILD is not paid", mild.count(2), 0);
        due("10: MILD is DUE", mild.worker(0, 4), 9);
        PaidInDays rested = Checks.told("wm0127;t005;d01;");
        due("10: 2 less", rested.worker(0, 3), 3);
        rested.days(2);
        due("10: 0 at least", rested.worker(0, 3), 0);
    }

    private static void promise10DaysEnd() {
        PaidInDays x = new PaidInDays();
        for (int i = 0; i < 16; i++) {
            due("10: 60 DAYS", x.days(60), 0);
        }
        due("10: DAY 1000", x.days(40), -6);
        due("10: DAY 999", x.days(39), 0);
        due("10: DAY", x.count(1), 999);
        due("10: no more", x.days(1), -6);
        due("10: below comes first", x.days(0), -4);
        due("10: in thought DAY goes on", x.then(60, 0), 0);
    }

    private static void promise11WorkerThen() {
        PaidInDays x = Checks.told("ww0002;wb5065;t115;");
        due("11: OFF now", x.workerThen(0, 0, 0), 2);
        due("11: TIRED now", x.workerThen(1, 0, 1), 15);
        due("11: DUE behind 2", x.workerThen(1, 2, 2), 2);
        due("11: OFF behind 3", x.workerThen(0, 3, 0), 66);
        due("11: TIRED behind 3", x.workerThen(1, 3, 1), 18);
        due("11: DUE behind 3", x.workerThen(1, 3, 2), 0);
        due("11: DAY stays", x.count(1), 0);
        due("11: OFF stays", x.worker(0, 2), 2);
        due("11: workerThen(2, -1, 3)", x.workerThen(2, -1, 3), -1);
        due("11: workerThen(0, -1, 3)", x.workerThen(0, -1, 3), -4);
        due("11: workerThen(0, 61, 3)", x.workerThen(0, 61, 3), -6);
        due("11: workerThen(0, 60, 3)", x.workerThen(0, 60, 3), -2);
        due("11: workerThen(0, 0, -1)", x.workerThen(0, 0, -1), -2);
        PaidInDays tired = Checks.told("wm0000;");
        due("11: TIRED behind 60", tired.workerThen(0, 60, 1), 30);
        due("11: TIRED behind 29", tired.workerThen(0, 29, 1), 29);
    }

    private static void promise12Then() {
        PaidInDays x = Checks.told("ww0002;wb5065;t115;");
        due("12: WAGES now", x.then(0, 0), 0);
        due("12: IN now", x.then(0, 1), 1);
        due("12: IN behind 1", x.then(1, 1), 2);
        due("12: WAGES behind 2", x.then(2, 0), 1);
        due("12: WAGES behind 3", x.then(3, 0), 3);
        due("12: IN behind 3", x.then(3, 1), 3);
        x.days(3);
        due("12: WAGES of before, too", x.then(0, 0), 3);
        due("12: then(-1, 2)", x.then(-1, 2), -4);
        due("12: then(61, 2)", x.then(61, 2), -6);
        due("12: then(60, 2)", x.then(60, 2), -2);
        due("12: then(60, -1)", x.then(60, -1), -2);
        PaidInDays paid = Checks.told("wm0002;wf0000;");
        due("12: IN by OFF behind the DAY", paid.then(1, 1), 1);
    }

    private static void promise13Falls() {
        due("13: soon", Checks.told("wm0000;t015;").falls(0), 5);
        due("13: now", Checks.told("wm0000;t020;").falls(0), 0);
        due("13: 19 is not 20", Checks.told("wm0127;t019;").falls(0), -9);
        due("13: with a WEEKDAY off", Checks.told("wm0001;").falls(0), 32);
        due("13: on the last DAY", Checks.told("wm0065;d01;t008;").falls(0), 60);
        due("13: behind the last DAY", Checks.told("wm0065;t007;").falls(0), -9);
        PaidInDays x = Checks.told("wm0000;wm0000;wm0000;t014;t115;t215;");
        due("13: FIRST, of several the least", x.falls(-1), 1);
        due("13: of 0", x.falls(0), 6);
        due("13: FIRST of none that falls", Checks.told("wm0127;").falls(-1), -9);
        due("13: FIRST of nobody", new PaidInDays().falls(-1), -9);
        due("13: falls(3)", x.falls(3), -1);
        due("13: falls(-2)", x.falls(-2), -1);
        due("13: falls(least)", x.falls(LEAST), -1);
        due("13: TIRED stays", x.worker(0, 3), 14);
        due("13: count(11)", x.count(11), 3);
    }

    private static void promise14Still() {
        due("14: nobody", new PaidInDays().still(), 0);
        due("14: none is paid", Checks.told("wm0003;wm0127;").still(), 0);
        due("14: one wage", Checks.told("wf0000;wm0001;").still(), 1);
        PaidInDays x = Checks.told("ww0003;wb2064;");
        due("14: for ever", x.still(), -9);
        // By search.
        PaidInDays late = Checks.told("wb4092;wh6075;wm9125;");
        due("14: the last wage on the 61st DAY", late.still(), -9);
        late.days(1);
        due("14: the last wage on the 60th DAY", late.still(), 60);
        due("14: DAY stays", x.count(1), 0);
        due("14: WAGES stay", x.count(2), 0);
    }

    private static void promise15Strike() {
        PaidInDays x = Checks.told("ww0006;ww0012;ww0004;");
        due("15: the WEEKDAY", x.strike(0), 2);
        due("15: how many", x.strike(1), 3);
        due("15: COVER", x.strike(2), 4);
        due("15: RICHEST, of several the least", x.strike(3), 0);
        x.frees(2, 2);
        x.frees(2, 1);
        due("15: of several the least", x.strike(0), 1);
        due("15: how many then", x.strike(1), 2);
        due("15: COVER none", x.strike(2), 0);
        x.frees(1, 6);
        due("15: RICHEST", x.strike(3), 1);
        due("15: RICHEST with none off", Checks.told("ww0000;").strike(3), 0);
        PaidInDays nobody = new PaidInDays();
        due("15: of nobody", nobody.strike(0), 0);
        due("15: of nobody, how many", nobody.strike(1), 0);
        due("15: of nobody, COVER", nobody.strike(2), 127);
        due("15: of nobody, RICHEST", nobody.strike(3), -9);
        due("15: strike(4)", nobody.strike(4), -2);
        due("15: strike(-1)", nobody.strike(-1), -2);
    }

    private static void promise16Meet() {
        PaidInDays x = Checks.told("ww0006;ww0012;wm0127;");
        due("16: meet(0, 1)", x.meet(0, 1), 113);
        due("16: meet(1, 0)", x.meet(1, 0), 113);
        due("16: meet(0, 2)", x.meet(0, 2), 0);
        due("16: one twice", x.meet(1, 1), -1);
        due("16: meet(0, 3)", x.meet(0, 3), -1);
        due("16: meet(-1, 0)", x.meet(-1, 0), -1);
    }

    private static void promise17Never() {
        PaidInDays x = Checks.told("ww0000;ww0015;wm0112;wm0127;");
        due("17: how many", x.never(0), 4);
        due("17: the first", x.never(1), 3);
        x.frees(3, 0);
        due("17: how many then", x.never(0), 2);
        due("17: the first then", x.never(1), 12);
        due("17: none", Checks.told("ww0000;ww0015;").never(1), -9);
        due("17: alone", Checks.told("ww0127;").never(0), 0);
        due("17: never(2)", x.never(2), -2);
        due("17: never(-1)", x.never(-1), -2);
    }

    private static void promise18Rest() {
        int[] off = {0, 1, 42, 65, 99, 119, 126, 127, 63};
        int[] longest = {0, 1, 1, 2, 4, 6, 6, 7, 6};
        for (int i = 0; i < off.length; i++) {
            String digits = Integer.toString(1000 + off[i]).substring(1);
            due("18: OFF " + off[i], Checks.told("ww0" + digits + ";").rest(0), longest[i]);
        }
        due("18: rest(1)", Checks.told("ww0001;").rest(1), -1);
        due("18: rest(-1)", new PaidInDays().rest(-1), -1);
    }

    private static void promise19Gift() {
        due("19: to the tired one", Checks.told("wm0002;wm0000;t105;").gift(0, 1, 1), 1);
        due("19: of several the least", Checks.told("wm0002;wm0000;wm0000;t105;t205;").gift(0, 1, 1), 1);
        due("19: the more tired one", Checks.told("wm0002;wm0000;wm0000;t101;t205;").gift(0, 1, 1), 2);
        due("19: not to who has it", Checks.told("wm0002;wm0002;t105;").gift(0, 1, 1), -9);
        due("19: worse", Checks.told("wm0002;wm0000;t005;").gift(0, 1, 1), -9);
        due("19: no less than else", Checks.told("wm0002;wm0000;t005;t105;").gift(0, 1, 1), -9);
        PaidInDays x = Checks.told("wm0002;wm0000;t105;");
        due("19: behind no DAY", x.gift(0, 1, 0), -9);
        due("19: OFF stays", x.worker(0, 2), 2);
        due("19: gift(2, 1, -1)", x.gift(2, 1, -1), -1);
        due("19: gift(0, 7, -1)", x.gift(0, 7, -1), -1);
        due("19: gift(0, -1, 31)", x.gift(0, -1, 31), -1);
        due("19: gift(0, 0, -1)", x.gift(0, 0, -1), -4);
        due("19: gift(0, 0, 31)", x.gift(0, 0, 31), -6);
        due("19: gift(0, 0, 30)", x.gift(0, 0, 30), -3);
    }

    private static void promise20Trade() {
        PaidInDays x = Checks.told("wm0002;wm0004;t105;");
        due("20: trade(0, 1, 1)", x.trade(0, 1, 1), 12);
        due("20: trade(1, 0, 1)", x.trade(1, 0, 1), 21);
        due("20: behind no DAY", x.trade(0, 1, 0), -9);
        due("20: OFF stays", x.worker(0, 2), 2);
        due("20: of several the first", Checks.told("wm0002;wm0028;t105;").trade(0, 1, 1), 12);
        due("20: worse", Checks.told("wm0002;wm0004;t005;").trade(0, 1, 1), -9);
        due("20: no less than else", Checks.told("wm0002;wm0004;t005;t105;").trade(0, 1, 1), -9);
        due("20: not what the other has", Checks.told("wm0002;wm0006;t105;").trade(0, 1, 1), -9);
        due("20: trade(0, 0, -1)", x.trade(0, 0, -1), -1);
        due("20: trade(0, 2, -1)", x.trade(0, 2, -1), -1);
        due("20: trade(-1, 0, 31)", x.trade(-1, 0, 31), -1);
        due("20: trade(0, 1, -1)", x.trade(0, 1, -1), -4);
        due("20: trade(0, 1, 31)", x.trade(0, 1, 31), -6);
        due("20: trade(0, 1, 30) is allowed", Checks.told("wm0127;wm0127;").trade(0, 1, 30), -9);
    }

    private static void promise21Better() {
        PaidInDays x = Checks.told("wm0000;wm0004;t010;");
        due("21: the KIND, of several the least", x.better(0, 2, 0), 0);
        due("21: that", x.better(0, 2, 1), 11);
        x.turn(0, 4, 9);
        due("21: the KIND with FIGURE 9", x.better(0, 2, 0), 5);
        due("21: that", x.better(0, 2, 1), 11);
        due("21: KIND stays", x.worker(0, 0), 4);
        due("21: behind no DAY", x.better(0, 0, 0), 0);
        due("21: behind no DAY, that", x.better(0, 0, 1), 10);
        due("21: better(2, -1, 2)", x.better(2, -1, 2), -1);
        due("21: better(0, -1, 2)", x.better(0, -1, 2), -4);
        due("21: better(0, 31, 2)", x.better(0, 31, 2), -6);
        due("21: better(0, 30, 2)", x.better(0, 30, 2), -2);
        due("21: better(0, 30, -1)", x.better(0, 30, -1), -2);
    }

    private static void promise22Fewest() {
        due("22: nobody", new PaidInDays().fewest(20), 0);
        PaidInDays x = Checks.told("wm0000;t015;");
        due("22: none falls", x.fewest(4), 0);
        due("22: he falls on the last DAY", x.fewest(5), 1);
        due("22: OFF stays", x.worker(0, 2), 0);
        due("22: both", Checks.told("wm0000;wm0000;t019;t119;").fewest(1), 3);
        due("22: one of them", Checks.told("wm0000;wm0000;t119;").fewest(1), 2);
        // By search: each of the three alone would do.
        due("22: of several the least", Checks.told("wm8104;wf7075;ww3018;t016;t116;").fewest(10), 1);
        due("22: fallen already", Checks.told("wm0000;t020;").fewest(0), -9);
        due("22: fallen already, later too", Checks.told("wm0127;t020;").fewest(20), -9);
        due("22: fewest(-1)", x.fewest(-1), -4);
        due("22: fewest(21)", x.fewest(21), -6);
    }

    private static void promise23Send() {
        PaidInDays x = Checks.told("wm0127;wf0000;");
        due("23: who takes", x.send(3), 1);
        due("23: behind no DAY", x.send(0), -9);
        due("23: OFF stays", x.worker(1, 2), 0);
        due("23: of several the least", Checks.told("wf0000;wm0001;wm0000;").send(1), 0);
        due("23: none is paid", Checks.told("wm0127;wm0000;").send(30), -9);
        due("23: nobody", new PaidInDays().send(30), -9);
        due("23: send(-1)", x.send(-1), -4);
        due("23: send(31)", x.send(31), -6);
    }

    private static void promise24Holiday() {
        PaidInDays x = Checks.told("wm0000;t005;");
        due("24: tomorrow", x.holiday(1, 0), 1);
        due("24: that", x.holiday(1, 1), 3);
        due("24: of several the least", x.holiday(0, 0), 0);
        due("24: now", x.holiday(0, 1), 5);
        due("24: OFF stays", x.worker(0, 2), 0);
        due("24: who has it keeps it", Checks.told("wm0002;t005;").holiday(1, 1), 3);
        due("24: nobody", new PaidInDays().holiday(30, 1), 0);
        due("24: holiday(-1, 2)", x.holiday(-1, 2), -4);
        due("24: holiday(31, 2)", x.holiday(31, 2), -6);
        due("24: holiday(30, 2)", x.holiday(30, 2), -2);
        due("24: holiday(30, -1)", x.holiday(30, -1), -2);
    }

    private static void promise25Two() {
        PaidInDays x = Checks.told("wm0000;wm0001;");
        due("25: behind no DAY", x.two(0, 1, 0), 11);
        due("25: who is never paid lets be", x.two(0, 1, 30), 11);
        // By his wage 0 is 3 less TIRED behind 2 DAYS, which is more than the 2 for letting be.
        PaidInDays taker = Checks.told("wf0000;wm0004;t010;");
        due("25: he takes, the other lets be", taker.two(0, 1, 2), 1);
        due("25: the other way round", taker.two(1, 0, 2), 10);
        due("25: OFF stays", taker.worker(0, 2), 0);
        // The first's: 0, 0, 1, -2 for 00, 01, 10, 11; the other's: 3, 1, 0, 1.
        due("25: none", Checks.told("wt0040;wb2096;wh7047;").two(0, 1, 3), -9);
        // By search.
        due("25: both take", Checks.told("ww1116;ww1010;wh0016;").two(0, 1, 3), 0);
        due("25: two(0, 0, -1)", x.two(0, 0, -1), -1);
        due("25: two(0, 2, -1)", x.two(0, 2, -1), -1);
        due("25: two(-1, 0, 31)", x.two(-1, 0, 31), -1);
        due("25: two(0, 1, -1)", x.two(0, 1, -1), -4);
        due("25: two(0, 1, 31)", x.two(0, 1, 31), -6);
    }

    private static void promise26Fever() {
        PaidInDays x = Checks.told("wf0000;wm0004;t010;");
        due("26: no wage on the first DAY", x.fever(0, 2, 5, 10, 0), 1);
        due("26: in lowest terms", x.fever(0, 2, 5, 10, 1), 5);
        due("26: surely", x.fever(0, 2, 5, 9, 0), 1);
        due("26: surely, below", x.fever(0, 2, 5, 9, 1), 1);
        due("26: never", x.fever(0, 2, 5, 13, 0), 0);
        due("26: never, below", x.fever(0, 2, 5, 13, 1), 1);
        due("26: but on both DAYS", x.fever(1, 2, 5, 1, 0), 24);
        due("26: but on both DAYS, below", x.fever(1, 2, 5, 1, 1), 25);
        due("26: least odds", x.fever(1, 2, 2, 1, 0), 3);
        due("26: greatest odds", x.fever(1, 2, 20, 1, 0), 399);
        due("26: now", x.fever(0, 0, 2, 10, 0), 1);
        due("26: not now", x.fever(0, 0, 2, 11, 0), 0);
        due("26: nothing changes", x.worker(0, 3) * 1000 + x.worker(1, 2), 10004);
        PaidInDays second = Checks.told("ww3000;wm0008;t010;");
        due("26: no wage on the second DAY, DUE goes on", second.fever(0, 3, 5, 13, 0), 1);
        due("26: no wage on the second DAY, below", second.fever(0, 3, 5, 13, 1), 5);
        // The foreman is IN on the seventh DAY by fever on the six before, the other off by fever on all seven.
        PaidInDays week = Checks.told("wf0000;wm0001;t010;");
        due("26: six DAYS", week.fever(0, 7, 20, 17, 0), 1);
        due("26: six DAYS, below", week.fever(0, 7, 20, 17, 1), 64000000);
        due("26: seven DAYS", week.fever(1, 7, 20, 7, 0), 1279999999);
        due("26: seven DAYS, below", week.fever(1, 7, 20, 7, 1), 1280000000);
    }

    private static void promise26FeverRefusals() {
        PaidInDays x = Checks.told("wf0000;");
        due("26: fever(1, -1, 1, -1, 2)", x.fever(1, -1, 1, -1, 2), REFUSED + 1);
        due("26: fever(-1, 0, 2, 0, 0)", x.fever(-1, 0, 2, 0, 0), REFUSED + 1);
        due("26: fever(0, -1, 21, 31, 2)", x.fever(0, -1, 21, 31, 2), REFUSED + 4);
        due("26: fever(0, 8, 1, 31, 2)", x.fever(0, 8, 1, 31, 2), REFUSED + 4);
        due("26: fever(0, 8, 21, -1, 2)", x.fever(0, 8, 21, -1, 2), REFUSED + 4);
        due("26: fever(0, 8, 2, 0, 2)", x.fever(0, 8, 2, 0, 2), REFUSED + 6);
        due("26: fever(0, 0, 21, 0, 2)", x.fever(0, 0, 21, 0, 2), REFUSED + 6);
        due("26: fever(0, 0, 2, 31, 2)", x.fever(0, 0, 2, 31, 2), REFUSED + 6);
        due("26: fever(0, 7, 20, 30, 2)", x.fever(0, 7, 20, 30, 2), REFUSED + 2);
        due("26: fever(0, 0, 2, 0, -1)", x.fever(0, 0, 2, 0, -1), REFUSED + 2);
        due("26: count(11)", x.count(11), 2);
        due("26: count(12)", x.count(12), 2);
        due("26: count(14)", x.count(14), 3);
        due("26: count(16)", x.count(16), 3);
    }

    private static void promise27Mean() {
        due("27: nobody", new PaidInDays().mean(0), 0);
        due("27: nobody, below", new PaidInDays().mean(1), 1);
        PaidInDays x = Checks.told("wm0000;wm0000;wm0000;t001;t102;");
        due("27: 3 by 3", x.mean(0), 1);
        due("27: 3 by 3, below", x.mean(1), 1);
        x.rests(2, 2);
        due("27: 5 by 3", x.mean(0), 5);
        due("27: 5 by 3, below", x.mean(1), 3);
        PaidInDays four = Checks.told("wm0000;wm0000;wm0000;wm0000;t030;");
        due("27: 30 by 4", four.mean(0), 15);
        due("27: 30 by 4, below", four.mean(1), 2);
        four.rests(0, 0);
        due("27: 0 by 4", four.mean(0), 0);
        due("27: 0 by 4, below", four.mean(1), 1);
        due("27: mean(2)", x.mean(2), REFUSED + 2);
        due("27: mean(-1)", x.mean(-1), REFUSED + 2);
        due("27: count(12)", x.count(12), 2);
    }

    private static void promise28WhatIs() {
        PaidInDays x = Checks.told("ww0000;wm0004;t010;");
        due("28: by no ROW, KINDS", x.whatIs(0, 0), 63);
        due("28: by no ROW, FIGURES", x.whatIs(0, 1), 1023);
        Checks.rows(x, 10, 11, 9);
        due("28: who is paid on the first DAY", x.whatIs(0, 0), 43);
        due("28: his FIGURES", x.whatIs(0, 1), 7);
        due("28: the ROW stays", x.count(6), 3);
        x.clear();
        Checks.rows(x, 10, 11, 12);
        due("28: who is not", x.whatIs(0, 0), 20);
        due("28: his FIGURES", x.whatIs(0, 1), 1016);
        x.turn(0, 4, 0);
        due("28: FIGURES of a MILD one", x.whatIs(0, 1), 1023);
        due("28: FIGURES by which it is not so", x.whatIs(1, 1), 0);
        due("28: KIND stays", x.worker(0, 0), 4);
        x.clear();
        Checks.rows(x, 99);
        due("28: none", x.whatIs(0, 0), 0);
        due("28: whatIs(2, 2)", x.whatIs(2, 2), -1);
        due("28: whatIs(-1, 0)", x.whatIs(-1, 0), -1);
        due("28: whatIs(0, 2)", x.whatIs(0, 2), -2);
        due("28: whatIs(0, -1)", x.whatIs(0, -1), -2);
    }

    private static void promise29Row() {
        PaidInDays x = new PaidInDays();
        due("29: row(-1)", x.row(-1), -4);
        due("29: row(100)", x.row(100), -6);
        due("29: row(0)", x.row(0), 1);
        due("29: row(99)", x.row(99), 2);
        for (int i = 3; i <= 16; i++) {
            due("29: row " + i, x.row(i), i);
        }
        due("29: the 17th", x.row(0), -6);
        due("29: the 17th, below", x.row(-1), -4);
        due("29: count(6)", x.count(6), 16);
        due("29: count(14)", x.count(14), 2);
        due("29: count(16)", x.count(16), 2);
    }

    private static void promise30Judge() {
        PaidInDays x = Checks.told("ww0001;wm0000;");
        due("30: no ROW", x.judge(), -9);
        Checks.rows(x, 1, 2, 2, 2, 2, 2, 2);
        due("30: all is so", x.judge(), -9);
        due("30: the ROW has none then", x.count(6), 0);
        Checks.rows(x, 1, 1, 1);
        due("30: the first that is not so", x.judge(), 1);
        due("30: the ROW has none then, too", x.count(6), 0);
        Checks.rows(x, 1, 2, 2, 2, 2, 2, 2, 1, 2);
        due("30: no such WEEKDAY", x.judge(), 7);
        Checks.rows(x, 0);
        due("30: not even the first", x.judge(), 0);
        x.days(3);
        Checks.rows(x, 1, 2);
        due("30: by WEEKDAYS from 0, not from DAY", x.judge(), -9);
    }

    private static void promise31Clear() {
        PaidInDays x = new PaidInDays();
        Checks.rows(x, 5, 6, 7);
        due("31: how many it had", x.clear(), 3);
        due("31: none", x.clear(), 0);
        due("31: count(6)", x.count(6), 0);
        due("31: the first again", x.row(1), 1);
    }

    private static void promise32Lots() {
        PaidInDays x = Checks.told("wm0127;t030;");
        due("32: OFF 115", x.lots(1, 0, 0), 0);
        due("32: OFF 13", x.lots(1, -1, 0), 1);
        due("32: OFF 22, by a z with its sign's bit", x.lots(1, 1000, 0), 3);
        due("32: OFF 59, 24, 38", x.lots(3, 123456789, 0), 6);
        due("32: twenty weeks", x.lots(20, -987654321, 0), 31);
        due("32: none is paid", x.lots(20, 1000, 1), 0);
        due("32: nothing changes", x.worker(0, 3) * 1000 + x.worker(0, 2), 30127);
        // OFF 63 and 98: he is IN on one WEEKDAY alone, and has it from the other if he is DUE on the first.
        PaidInDays paid = Checks.told("ww9000;wm0000;");
        due("32: never long enough", paid.lots(1, 2, 1), 0);
        paid.days(3);
        due("32: DUE is as it is now", paid.lots(1, 2, 1), 1);
        due("32: nobody", new PaidInDays().lots(20, 5, 0), 0);
        due("32: lots(0, 0, 2)", x.lots(0, 0, 2), -4);
        due("32: lots(21, 0, 2)", x.lots(21, 0, 2), -6);
        due("32: lots(20, 0, 2)", x.lots(20, 0, 2), -2);
        due("32: lots(20, 0, -1)", x.lots(20, 0, -1), -2);
    }

    private static void promise33And34ImageAndOn() {
        PaidInDays x = Checks.told("ww0001;wb5064;t115;");
        due("34: there is none", x.on(), -3);
        x.days(3);
        x.row(4);
        x.letter('w');
        due("33: image()", x.image(), 3);
        int wages = x.count(2);
        int off = x.worker(0, 2);
        int due = x.worker(1, 4);
        x.works();
        Checks.tell(x, "wf9127;d20;o00;t122;");
        x.turn(0, 5, 9);
        x.row(5);
        x.letter('d');
        due("34: there is one", x.on(), 3);
        due("34: WORKERS", x.count(0), 2);
        due("34: DAY", x.count(1), 3);
        due("34: WAGES", x.count(2), wages);
        due("34: OFF", x.worker(0, 2), off);
        due("34: KIND", x.worker(0, 0), 0);
        due("34: FIGURE", x.worker(0, 1), 0);
        due("34: TIRED", x.worker(1, 3), 18);
        due("34: DUE", x.worker(1, 4), due);
        due("34: the ROW is not of it", x.count(6), 2);
        due("34: letters are not of it", x.count(7), 1);
        due("34: REFUSALS are not of it", x.count(13), 1);
        x.days(1);
        due("34: again", x.on(), 3);
        x.days(10);
        due("33: another image", x.image(), 13);
        x.days(1);
        due("34: from the later one", x.on(), 13);
    }

    private static void promise35Count() {
        PaidInDays x = Checks.told("ww0001;wb5064;wm0127;d01;t110;t203;");
        due("35: WORKERS", x.count(0), 3);
        due("35: DAY", x.count(1), 1);
        due("35: WAGES", x.count(2), 1);
        due("35: WEEKDAYS off of all", x.count(3), 9);
        due("35: all TIRED", x.count(4), 14);
        due("35: who is IN now", x.count(5), 3);
        Checks.rows(x, 1, 2);
        due("35: in the ROW", x.count(6), 2);
        x.letter('w');
        due("35: letters", x.count(7), 1);
        x.worker(9, 0);
        x.strike(9);
        x.on();
        x.days(0);
        x.days(99);
        for (int what = 11; what <= 16; what++) {
            due("35: count(" + what + ")", x.count(what), what == 15 ? 0 : 1);
        }
        int[] others = {-1, 8, 9, 10, 17, LEAST, GREATEST};
        for (int what : others) {
            due("35: count(" + what + ")", x.count(what), -9);
        }
        due("35: -9 is no refusal", x.count(12), 1);
    }
}
