import java.util.Random;

/** Runs of random calls, the same ones on the class and on the plain model: every answer must be the same. */
public final class AgainstModelTest {
    private static final int RUNS = 150;
    private static final int CALLS = 512;
    private static final int SHOWN = 20;

    private final Checks checks;
    private final Random random;
    private final PaidInDays x = new PaidInDays();
    private final PlainModel model = new PlainModel();
    private final int run;

    private AgainstModelTest(Checks checks, int run) {
        this.checks = checks;
        this.run = run;
        this.random = new Random(run);
    }

    public static void main(String[] args) {
        Checks checks = new Checks();
        for (int run = 0; run < RUNS && checks.wrong() < SHOWN; run++) {
            new AgainstModelTest(checks, run).calls();
        }
        checks.end();
    }

    private void calls() {
        int made = 0;
        if (run % 8 != 0) {
            made = tell(workers(2 + random.nextInt(5)));
        }
        while (made < CALLS) {
            if (random.nextInt(12) == 0) {
                made += tell(random.nextInt(3) == 0 ? workers(1 + random.nextInt(2)) : text());
            } else {
                call(random.nextInt(34));
                made++;
            }
        }
        for (int what = 0; what <= 17; what++) {
            due("count(" + what + ")", x.count(what), model.count(what));
        }
    }

    private void due(String call, long got, long want) {
        checks.due("run " + run + ": " + call, got, want);
    }

    private int tell(String text) {
        for (int i = 0; i < text.length(); i++) {
            int c = text.charAt(i);
            due("letter(" + c + ")", x.letter(c), model.letter(c));
        }
        due("works() of " + text, x.works(), model.works());
        return text.length() + 1;
    }

    private String workers(int many) {
        StringBuilder text = new StringBuilder();
        for (int i = 0; i < many; i++) {
            text.append('w').append("whbtmf".charAt(random.nextInt(6))).append(random.nextInt(10));
            text.append(Integer.toString(1000 + off()).substring(1)).append(';');
        }
        return text.toString();
    }

    private int off() {
        int bits = random.nextInt(128);
        return random.nextInt(3) == 0 ? bits & random.nextInt(128) : bits;
    }

    private String text() {
        StringBuilder text = new StringBuilder();
        int statements = 1 + random.nextInt(4);
        for (int i = 0; i < statements; i++) {
            text.append(statement()).append(';');
        }
        if (random.nextInt(4) == 0) {
            int place = random.nextInt(text.length());
            text.setCharAt(place, "wotxd;0189hz:/".charAt(random.nextInt(14)));
        }
        if (random.nextInt(8) == 0) {
            text.setLength(random.nextInt(text.length()));
        }
        return text.toString();
    }

    private String statement() {
        int one = random.nextInt(6);
        switch (random.nextInt(5)) {
            case 0:
                return "o" + one + random.nextInt(random.nextInt(9) == 0 ? 10 : 7);
            case 1:
                return "t" + one + Integer.toString(100 + random.nextInt(random.nextInt(9) == 0 ? 100 : 31)).substring(1);
            case 2:
                return "x" + one + random.nextInt(6) + random.nextInt(random.nextInt(9) == 0 ? 10 : 7);
            case 3:
                return "d" + Integer.toString(100 + random.nextInt(random.nextInt(9) == 0 ? 100 : 8)).substring(1);
            default:
                return "w" + "whbtmf".charAt(random.nextInt(6)) + random.nextInt(10)
                    + Integer.toString(1000 + random.nextInt(140)).substring(1);
        }
    }

    private int near(int least, int greatest) {
        switch (random.nextInt(24)) {
            case 0:
                return least - 1 - random.nextInt(2);
            case 1:
                return greatest + 1 + random.nextInt(2);
            case 2:
                return least;
            case 3:
                return greatest;
            default:
                return least + random.nextInt(greatest - least + 1);
        }
    }

    private int who() {
        int size = Math.max(1, model.count(0));
        return random.nextInt(20) == 0 ? near(0, 6) : random.nextInt(size);
    }

    private void call(int which) {
        if (which < 11) {
            changing(which);
        } else if (which < 22) {
            asking(which);
        } else {
            planning(which);
        }
    }

    private void changing(int which) {
        int a = who();
        int b = who();
        int day = near(0, 6);
        switch (which) {
            case 0:
            case 1:
                due("frees(" + a + ", " + day + ")", x.frees(a, day), model.frees(a, day));
                break;
            case 2:
            case 3:
                due("gives(" + a + ", " + b + ", " + day + ")", x.gives(a, b, day), model.gives(a, b, day));
                break;
            case 4: {
                int v = near(0, 30);
                due("rests(" + a + ", " + v + ")", x.rests(a, v), model.rests(a, v));
                break;
            }
            case 5: {
                int kind = near(0, 5);
                int figure = near(0, 9);
                due("turn(" + a + ", " + kind + ", " + figure + ")", x.turn(a, kind, figure), model.turn(a, kind, figure));
                break;
            }
            case 6: {
                int n = random.nextInt(3) == 0 ? near(1, 60) : near(1, 5);
                due("days(" + n + ")", x.days(n), model.days(n));
                break;
            }
            case 7:
                due("image()", x.image(), model.image());
                break;
            case 8:
                due("on()", x.on(), model.on());
                break;
            case 9:
                rowOfWorker(a);
                break;
            default:
                rowOfIn();
                break;
        }
    }

    /** A row that is true of the worker, but for a slip now and then. */
    private void rowOfWorker(int a) {
        due("clear()", x.clear(), model.clear());
        int many = random.nextInt(18);
        for (int i = 0; i < many && a >= 0 && a < model.count(0); i++) {
            int v = random.nextInt(40) == 0 ? near(0, 99) : x.workerThen(a, i, 1);
            model.workerThen(a, i, 1);
            due("row(" + v + ")", x.row(v), model.row(v));
        }
        for (int what = 0; what < 2; what++) {
            due("whatIs(" + a + ", " + what + ")", x.whatIs(a, what), model.whatIs(a, what));
        }
    }

    private void rowOfIn() {
        due("clear()", x.clear(), model.clear());
        int many = random.nextInt(9);
        for (int i = 0; i < many; i++) {
            int in = 0;
            for (int who = 0; who < model.count(0); who++) {
                in += 1 - (model.worker(who, 2) >> i % 7 & 1);
                x.worker(who, 2);
            }
            int v = random.nextInt(10) == 0 ? near(0, 99) : in;
            due("row(" + v + ")", x.row(v), model.row(v));
        }
        due("judge()", x.judge(), model.judge());
        due("count(6)", x.count(6), model.count(6));
    }

    private void asking(int which) {
        int a = who();
        int b = who();
        int n = near(0, 60);
        switch (which) {
            case 11: {
                int what = near(0, 5);
                due("worker(" + a + ", " + what + ")", x.worker(a, what), model.worker(a, what));
                break;
            }
            case 12: {
                int what = near(0, 1);
                due("from(" + a + ", " + what + ")", x.from(a, what), model.from(a, what));
                break;
            }
            case 13: {
                int what = near(0, 2);
                due("workerThen(" + a + ", " + n + ", " + what + ")", x.workerThen(a, n, what), model.workerThen(a, n, what));
                break;
            }
            case 14: {
                int what = near(0, 1);
                due("then(" + n + ", " + what + ")", x.then(n, what), model.then(n, what));
                break;
            }
            case 15: {
                int one = random.nextInt(3) == 0 ? -1 : a;
                due("falls(" + one + ")", x.falls(one), model.falls(one));
                break;
            }
            case 16:
                due("still()", x.still(), model.still());
                break;
            case 17: {
                int what = near(0, 3);
                due("strike(" + what + ")", x.strike(what), model.strike(what));
                break;
            }
            case 18:
                due("meet(" + a + ", " + b + ")", x.meet(a, b), model.meet(a, b));
                break;
            case 19: {
                int what = near(0, 1);
                due("never(" + what + ")", x.never(what), model.never(what));
                break;
            }
            case 20:
                due("rest(" + a + ")", x.rest(a), model.rest(a));
                break;
            default: {
                int what = near(0, 17);
                due("count(" + what + ")", x.count(what), model.count(what));
                break;
            }
        }
    }

    private void planning(int which) {
        int a = who();
        int b = who();
        int n = near(0, 30);
        int what = near(0, 1);
        switch (which) {
            case 22:
            case 23: {
                int day = near(0, 6);
                due("gift(" + a + ", " + day + ", " + n + ")", x.gift(a, day, n), model.gift(a, day, n));
                break;
            }
            case 24:
                due("trade(" + a + ", " + b + ", " + n + ")", x.trade(a, b, n), model.trade(a, b, n));
                break;
            case 25:
                due("better(" + a + ", " + n + ", " + what + ")", x.better(a, n, what), model.better(a, n, what));
                break;
            case 26: {
                int few = near(0, 20);
                due("fewest(" + few + ")", x.fewest(few), model.fewest(few));
                break;
            }
            case 27:
                due("send(" + n + ")", x.send(n), model.send(n));
                break;
            case 28:
                due("holiday(" + n + ", " + what + ")", x.holiday(n, what), model.holiday(n, what));
                break;
            case 29:
                due("two(" + a + ", " + b + ", " + n + ")", x.two(a, b, n), model.two(a, b, n));
                break;
            case 30: {
                int few = near(0, 7);
                int t = near(2, 20);
                int v = random.nextInt(3) == 0 ? near(0, 30) : near(0, 8);
                due("fever(" + a + ", " + few + ", " + t + ", " + v + ", " + what + ")", x.fever(a, few, t, v, what),
                    model.fever(a, few, t, v, what));
                break;
            }
            case 31:
                due("mean(" + what + ")", x.mean(what), model.mean(what));
                break;
            case 32: {
                int weeks = near(1, 20);
                int z = random.nextInt();
                due("lots(" + weeks + ", " + z + ", " + what + ")", x.lots(weeks, z, what), model.lots(weeks, z, what));
                break;
            }
            default: {
                int c = near(0, 255);
                due("letter(" + c + ")", x.letter(c), model.letter(c));
                break;
            }
        }
    }
}
