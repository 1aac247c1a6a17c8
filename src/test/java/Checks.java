/** What every test of the project uses: it tells each answer that is not the one due, and ends as .ci/run wants. */
final class Checks {
    private int checked = 0;
    private int wrong = 0;

    void due(String call, long got, long want) {
        checked++;
        if (got != want) {
            wrong++;
            System.out.println(call + " answered " + got + ", due is " + want);
        }
    }

    void holds(String what, boolean so) {
        due(what, so ? 1 : 0, 1);
    }

    int wrong() {
        return wrong;
    }

    void end() {
        System.out.println(checked + " answers looked at, " + wrong + " wrong");
        if (checked == 0 || wrong != 0) {
            System.exit(1);
        }
    }

    /** What works() answers to this text. */
    static int tell(PaidInDays x, String text) {
        for (int i = 0; i < text.length(); i++) {
            x.letter(text.charAt(i));
        }
        return x.works();
    }

    /** A new object to which this text has been told. */
    static PaidInDays told(String text) {
        PaidInDays x = new PaidInDays();
        int answer = tell(x, text);
        if (answer <= 0) {
            throw new IllegalStateException("the test tells no works: " + text + " is answered by " + answer);
        }
        return x;
    }

    static void rows(PaidInDays x, int... numbers) {
        for (int number : numbers) {
            x.row(number);
        }
    }
}
