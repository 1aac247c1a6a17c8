import java.util.ArrayList;
import java.util.List;

/**
 * Every REFUSAL of every call, as the document lists them: the last values that are taken and the first that are refused on
 * both sides of each range; of two that fit at once the first in the order; and each leaves all as it was but the counts.
 */
public final class RefusalsTest {
    private static final Checks CHECKS = new Checks();
    private static final int NOBODY = -1;
    private static final int OTHER = -2;
    private static final int STATE = -3;
    private static final int BELOW = -4;
    private static final int ROOM = -6;
    private static final int LEAST = Integer.MIN_VALUE;
    private static final int GREATEST = Integer.MAX_VALUE;

    /** One argument's values that bring one refusal. */
    private record Bad(int refusal, int argument, int[] values) {
    }

    /** A call of the face: arguments that are taken, and what is refused, in the document's order. */
    private static final class Face {
        final String name;
        final List<int[]> taken = new ArrayList<>();
        final List<Bad> bads = new ArrayList<>();

        Face(String name, int... arguments) {
            this.name = name;
            taken.add(arguments);
        }

        Face taken(int... arguments) {
            taken.add(arguments);
            return this;
        }

        Face bad(int refusal, int argument, int... values) {
            bads.add(new Bad(refusal, argument, values));
            return this;
        }

        String call(int[] arguments) {
            return Calls.text(name, arguments);
        }

        int[] first() {
            return taken.get(0).clone();
        }
    }

    private RefusalsTest() {
    }

    public static void main(String[] args) {
        for (int size : new int[] {3, 6}) {
            List<Face> faces = new ArrayList<>();
            faces.addAll(ofRoom());
            faces.addAll(changing(size));
            faces.addAll(asking(size));
            faces.addAll(planning(size));
            for (Face face : faces) {
                takenToTheEdges(face, size);
                refusedBeyond(face, size);
                firstOfTwo(face, size);
                firstOfAll(face, size);
            }
        }
        noWorkers();
        noRoom();
        noImage();
        CHECKS.end();
    }

    /**
     * WORKER 0 has WEEKDAYS 0 and 6 off, 1 has 2, 3 and 6, the last one 5; a ROW that is so of WORKER 0, letters that are
     * a WORKS, and THE IMAGE of another state are there.
     */
    private static Calls ordinary(String sentence, int size) {
        String others = "wf3065;wb5076;wm0000;wh9064;wt1024;".substring(0, 7 * (size - 1));
        Calls calls = new Calls(CHECKS, sentence);
        calls.works(others, size - 1).is("image()", 0).works("ww7032;", 1).is("rests(0, 7)", 0);
        return calls.rows(7, 8).letters("o01;t111;");
    }

    private static int[] nobody(int size) {
        return new int[] {-1, size, LEAST, GREATEST};
    }

    private static int[] outside(int greatest) {
        return new int[] {-1, greatest + 1, LEAST, GREATEST};
    }

    private static Face below(Face face, int argument, int least) {
        return face.bad(BELOW, argument, least - 1, LEAST);
    }

    private static Face above(Face face, int argument, int greatest) {
        return face.bad(ROOM, argument, greatest + 1, GREATEST);
    }

    private static Face range(Face face, int argument, int least, int greatest) {
        return above(below(face, argument, least), argument, greatest);
    }

    private static Face twoWorkers(Face face, int size) {
        return face.bad(NOBODY, 0, nobody(size)).bad(NOBODY, 1, nobody(size)).bad(NOBODY, 1, 0).bad(NOBODY, 0, 1);
    }

    private static List<Face> ofRoom() {
        List<Face> faces = new ArrayList<>();
        faces.add(range(new Face("letter", 'w').taken(0).taken(255), 0, 0, 255));
        faces.add(range(new Face("row", 5).taken(0).taken(99), 0, 0, 99));
        faces.add(range(new Face("days", 2).taken(1).taken(60), 0, 1, 60));
        faces.add(new Face("works"));
        faces.add(new Face("judge"));
        faces.add(new Face("clear"));
        faces.add(new Face("image"));
        faces.add(new Face("on"));
        faces.add(new Face("still"));
        // Another what is answered by -9, and that is no REFUSAL.
        faces.add(new Face("count", 0).taken(7).taken(8).taken(10).taken(11).taken(16).taken(17).taken(-1).taken(LEAST));
        return faces;
    }

    private static List<Face> changing(int size) {
        int last = size - 1;
        List<Face> faces = new ArrayList<>();
        faces.add(new Face("frees", 0, 0).taken(last, 6).bad(NOBODY, 0, nobody(size)).bad(NOBODY, 1, outside(6)));
        // Of WEEKDAYS 1, 6, 2 neither has the first, both have the second, only the other has the third.
        faces.add(twoWorkers(new Face("gives", 0, 1, 0).taken(last, 0, 5).taken(1, last, 6), size)
            .bad(NOBODY, 2, outside(6)).bad(STATE, 2, 1, 6, 2));
        faces.add(range(new Face("rests", 0, 5).taken(last, 0).taken(last, 30).bad(NOBODY, 0, nobody(size)), 1, 0, 30));
        faces.add(range(new Face("turn", 0, 3, 4).taken(last, 0, 0).taken(last, 5, 9).bad(NOBODY, 0, nobody(size))
            .bad(OTHER, 1, outside(5)), 2, 0, 9));
        return faces;
    }

    private static List<Face> asking(int size) {
        int last = size - 1;
        List<Face> faces = new ArrayList<>();
        faces.add(new Face("worker", 0, 0).taken(last, 5).bad(NOBODY, 0, nobody(size)).bad(OTHER, 1, outside(5)));
        faces.add(new Face("from", 0, 0).taken(last, 1).bad(NOBODY, 0, nobody(size)).bad(OTHER, 1, outside(1)));
        faces.add(range(new Face("workerThen", 0, 5, 1).taken(last, 0, 0).taken(last, 60, 2).bad(NOBODY, 0, nobody(size)),
            1, 0, 60).bad(OTHER, 2, outside(2)));
        faces.add(range(new Face("then", 5, 0).taken(0, 1).taken(60, 1), 0, 0, 60).bad(OTHER, 1, outside(1)));
        faces.add(new Face("falls", 0).taken(-1).taken(last).bad(NOBODY, 0, -2, size, LEAST, GREATEST));
        faces.add(new Face("strike", 0).taken(3).bad(OTHER, 0, outside(3)));
        faces.add(twoWorkers(new Face("meet", 0, 1).taken(last, 0).taken(1, 0), size));
        faces.add(new Face("never", 0).taken(1).bad(OTHER, 0, outside(1)));
        faces.add(new Face("rest", 0).taken(last).bad(NOBODY, 0, nobody(size)));
        faces.add(new Face("mean", 0).taken(1).bad(OTHER, 0, outside(1)));
        faces.add(new Face("whatIs", 0, 0).taken(last, 1).bad(NOBODY, 0, nobody(size)).bad(OTHER, 1, outside(1)));
        return faces;
    }

    private static List<Face> planning(int size) {
        int last = size - 1;
        List<Face> faces = new ArrayList<>();
        faces.add(range(new Face("gift", 0, 0, 5).taken(0, 6, 0).taken(last, 5, 30).bad(NOBODY, 0, nobody(size))
            .bad(NOBODY, 1, outside(6)), 2, 0, 30).bad(STATE, 1, 1, 5));
        faces.add(range(twoWorkers(new Face("trade", 0, 1, 5).taken(last, 0, 0).taken(1, 0, 30), size), 2, 0, 30));
        faces.add(range(new Face("better", 0, 5, 0).taken(last, 0, 1).taken(last, 30, 1).bad(NOBODY, 0, nobody(size)),
            1, 0, 30).bad(OTHER, 2, outside(1)));
        faces.add(range(new Face("fewest", 5).taken(0).taken(20), 0, 0, 20));
        faces.add(range(new Face("send", 5).taken(0).taken(30), 0, 0, 30));
        faces.add(range(new Face("holiday", 5, 0).taken(0, 1).taken(30, 1), 0, 0, 30).bad(OTHER, 1, outside(1)));
        faces.add(range(twoWorkers(new Face("two", 0, 1, 5).taken(last, 0, 0).taken(1, 0, 30), size), 2, 0, 30));
        faces.add(fever(size));
        faces.add(range(new Face("lots", 5, 7, 0).taken(1, LEAST, 1).taken(20, GREATEST, 1), 0, 1, 20)
            .bad(OTHER, 2, outside(1)));
        return faces;
    }

    /** All that is below comes before all that is above. */
    private static Face fever(int size) {
        Face face = new Face("fever", 0, 3, 5, 10, 0).taken(size - 1, 0, 2, 0, 1).taken(size - 1, 7, 20, 30, 1);
        face.bad(NOBODY, 0, nobody(size));
        below(below(below(face, 1, 0), 2, 2), 3, 0);
        above(above(above(face, 1, 7), 2, 20), 3, 30);
        return face.bad(OTHER, 4, outside(1));
    }

    private static String sentence(Face face, int size, String what) {
        return face.name + " with " + size + " WORKERS, " + what;
    }

    private static void takenToTheEdges(Face face, int size) {
        for (int[] arguments : face.taken) {
            ordinary(sentence(face, size, "to the edges"), size).taken(face.call(arguments));
        }
    }

    private static void refusedBeyond(Face face, int size) {
        for (Bad bad : face.bads) {
            for (int value : bad.values) {
                int[] arguments = face.first();
                arguments[bad.argument] = value;
                ordinary(sentence(face, size, "beyond"), size).refused(face.call(arguments), bad.refusal);
            }
        }
    }

    private static void firstOfTwo(Face face, int size) {
        for (int i = 0; i < face.bads.size(); i++) {
            for (int j = i + 1; j < face.bads.size(); j++) {
                Bad one = face.bads.get(i);
                Bad other = face.bads.get(j);
                if (one.argument != other.argument && one.refusal != other.refusal) {
                    bothAtOnce(face, size, one, other);
                }
            }
        }
    }

    private static void bothAtOnce(Face face, int size, Bad one, Bad other) {
        for (int value : one.values) {
            int[] arguments = face.first();
            arguments[one.argument] = value;
            arguments[other.argument] = other.values[0];
            ordinary(sentence(face, size, "two at once"), size).refused(face.call(arguments), one.refusal);
        }
    }

    /** Where two of them are of one argument, the first of them counts. */
    private static void firstOfAll(Face face, int size) {
        if (face.bads.isEmpty()) {
            return;
        }
        int[] arguments = face.first();
        for (int i = face.bads.size() - 1; i >= 0; i--) {
            Bad bad = face.bads.get(i);
            arguments[bad.argument] = bad.values[0];
        }
        ordinary(sentence(face, size, "all at once"), size).refused(face.call(arguments), face.bads.get(0).refusal);
    }

    private static Calls empty(String sentence) {
        return new Calls(CHECKS, sentence);
    }

    private static void noWorkers() {
        String[] ofWorkers = {
            "worker(0, 0)", "worker(0, 6)", "from(0, 0)", "from(0, 2)", "frees(0, 0)", "frees(0, 7)", "gives(0, 1, 0)",
            "gives(0, 0, 7)", "rests(0, 5)", "rests(0, -1)", "rests(0, 31)", "turn(0, 0, 0)", "turn(0, 6, 10)",
            "workerThen(0, 0, 0)", "workerThen(0, 61, 3)", "falls(0)", "falls(-2)", "meet(0, 1)", "rest(0)", "rest(-1)",
            "gift(0, 0, 5)", "gift(0, 0, 31)", "trade(0, 1, 5)", "trade(0, 1, -1)", "better(0, 5, 0)", "better(0, 31, 2)",
            "two(0, 1, 5)", "two(0, 1, 31)", "fever(0, 3, 5, 10, 0)", "fever(0, 8, 1, 31, 2)", "whatIs(0, 0)", "whatIs(0, 2)"
        };
        for (String call : ofWorkers) {
            empty("no WORKERS").refused(call, NOBODY);
        }
        String[] ofAll = {
            "works()", "days(60)", "then(60, 1)", "falls(-1)", "still()", "strike(3)", "never(1)", "fewest(20)", "send(30)",
            "holiday(30, 1)", "mean(1)", "judge()", "clear()", "lots(20, 5, 1)", "image()", "count(8)"
        };
        for (String call : ofAll) {
            empty("no WORKERS").taken(call);
        }
    }

    /** 6 WORKERS, DAY 999, 16 numbers, 96 letters: the letters are a WORKS, the numbers are so of WORKER 2. */
    private static Calls full(String sentence) {
        Calls calls = new Calls(CHECKS, sentence);
        calls.works("wf3065;wb5012;wm0000;wh9064;wt1024;ww7064;", 6).is("image()", 0);
        for (int i = 0; i < 16; i++) {
            calls.taken("days(60)");
        }
        calls.taken("days(39)").is("rests(2, 0)", 30);
        calls.rows(0, 1, 2, 3, 4, 5, 6, 7, 8, 9, 10, 11, 12, 13, 14, 15);
        calls.letters("t007;t108;t209;t310;t411;t512;".repeat(2) + "o00;o11;o22;o33;o44;o55;o06;o15;o24;");
        return calls.is("count(0)", 6).is("count(1)", 999).is("count(6)", 16).is("count(7)", 96);
    }

    private static void noRoom() {
        full("no room").refused("letter(0)", ROOM).refused("letter(255)", ROOM).refused("letter(119)", ROOM);
        full("no room and below").refused("letter(-1)", BELOW).refused("letter(least)", BELOW);
        full("no room and above, refused once").refused("letter(256)", ROOM).is("count(16)", 1);
        full("no room").refused("row(0)", ROOM).refused("row(99)", ROOM);
        full("no room and below").refused("row(-1)", BELOW).refused("row(least)", BELOW);
        full("no room and above, refused once").refused("row(100)", ROOM).is("count(16)", 1);
        full("no DAY more").refused("days(1)", ROOM).refused("days(60)", ROOM);
        full("no DAY more and below").refused("days(0)", BELOW).refused("days(least)", BELOW);
        full("no DAY more and above, refused once").refused("days(61)", ROOM).refused("days(greatest)", ROOM).is("count(16)", 2);
        full("all that is full is as it was").is("whatIs(2, 1)", 1023).is("works()", 21).is("worker(0, 3)", 7);
    }

    private static void noImage() {
        empty("no IMAGE").refused("on()", STATE).refused("on()", STATE).is("count(13)", 2);
        empty("no IMAGE").works("wf3065;d05;", 2).rows(3, 4).letters("o0").refused("on()", STATE);
        empty("an IMAGE").refused("on()", STATE).is("image()", 0).taken("on()").is("count(13)", 1);
    }
}
