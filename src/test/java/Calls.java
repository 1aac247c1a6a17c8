import java.lang.reflect.InvocationTargetException;
import java.lang.reflect.Method;
import java.lang.reflect.Modifier;
import java.util.ArrayList;
import java.util.Arrays;
import java.util.HashMap;
import java.util.List;
import java.util.Map;

/**
 * One object of the class and the calls made on it, told as text: "gift(0, 1, 30)"; least and greatest are the ends of int.
 * It remembers its calls, so that the same object can be made twice and a refused call be made on only one of the two.
 */
final class Calls {
    private static final long OF_LONGS = 4000000000000000000L;
    private static final int MOST_CALLS = 512;
    private static final int REFUSAL_KINDS = 6;
    private static final Map<String, Method> FACE = face();

    private final Checks checks;
    private final String sentence;
    private final PaidInDays x = new PaidInDays();
    private final List<String> made = new ArrayList<>();

    Calls(Checks checks, String sentence) {
        this.checks = checks;
        this.sentence = sentence;
    }

    private static Map<String, Method> face() {
        Map<String, Method> face = new HashMap<>();
        for (Method method : PaidInDays.class.getDeclaredMethods()) {
            if (Modifier.isPublic(method.getModifiers())) {
                face.put(method.getName(), method);
            }
        }
        return face;
    }

    static String text(String name, int... arguments) {
        String inside = Arrays.toString(arguments);
        return name + "(" + inside.substring(1, inside.length() - 1) + ")";
    }

    private static String nameOf(String call) {
        return call.substring(0, call.indexOf('('));
    }

    private static int number(String written) {
        switch (written) {
            case "least":
                return Integer.MIN_VALUE;
            case "greatest":
                return Integer.MAX_VALUE;
            default:
                return Integer.parseInt(written);
        }
    }

    private static long answer(PaidInDays x, String call) {
        String inside = call.substring(call.indexOf('(') + 1, call.length() - 1);
        String[] written = inside.isEmpty() ? new String[0] : inside.split(", ");
        Object[] arguments = new Object[written.length];
        for (int i = 0; i < written.length; i++) {
            arguments[i] = number(written[i]);
        }
        try {
            return ((Number) FACE.get(nameOf(call)).invoke(x, arguments)).longValue();
        } catch (IllegalAccessException | InvocationTargetException thrown) {
            throw new IllegalStateException(call, thrown);
        }
    }

    private long make(String call) {
        if (made.size() >= MOST_CALLS) {
            throw new IllegalStateException(sentence + ": the document promises nothing behind " + MOST_CALLS + " calls");
        }
        made.add(call);
        return answer(x, call);
    }

    Calls is(String call, long want) {
        checks.due(sentence + ": " + call, make(call), want);
        return this;
    }

    /** Letters come, and no more. */
    Calls letters(String text) {
        for (int i = 0; i < text.length(); i++) {
            make(text("letter", text.charAt(i)));
        }
        return this;
    }

    Calls works(String text, long want) {
        letters(text);
        checks.due(sentence + ": works() of " + text, make("works()"), want);
        return this;
    }

    Calls rows(int... numbers) {
        for (int number : numbers) {
            make(text("row", number));
        }
        return this;
    }

    /** It is not refused, whatever else it answers. */
    Calls taken(String call) {
        PaidInDays same = again();
        long[] before = refusals(same);
        long got = answer(same, call);
        checks.holds(sentence + ": " + call + " is taken, answered " + got, Arrays.equals(before, refusals(same)));
        make(call);
        return this;
    }

    /** It answers the refusal, and nothing changes but how many there were. */
    Calls refused(String call, int refusal) {
        boolean ofLongs = FACE.get(nameOf(call)).getReturnType() == long.class;
        long want = ofLongs ? OF_LONGS - refusal : refusal;
        PaidInDays with = again();
        PaidInDays without = again();
        checks.due(sentence + ": " + call, answer(with, call), want);
        oneRefusalMore(call, refusal, refusals(with), refusals(without));
        sameToTheLast(call, with, without);
        make(call);
        return this;
    }

    /** It answers so, whatever was thought before, and nothing changes at all. */
    Calls asked(String call, long want) {
        PaidInDays with = again();
        PaidInDays without = again();
        checks.due(sentence + ": " + call, answer(with, call), want);
        PaidInDays thinking = again();
        answer(thinking, "then(60, 0)");
        checks.due(sentence + ": " + call + " behind another thought", answer(thinking, call), want);
        checks.holds(sentence + ": no REFUSAL by " + call, Arrays.equals(refusals(with), refusals(without)));
        sameToTheLast(call, with, without);
        make(call);
        return this;
    }

    /** Letters that have a FAULT: works() answers it, and all is as if they had never come. */
    Calls fault(String text, int fault) {
        PaidInDays with = again();
        PaidInDays without = again();
        checks.due(sentence + ": works() of " + text, Checks.tell(with, text), fault);
        checks.holds(sentence + ": no REFUSAL by " + text, Arrays.equals(refusals(with), refusals(without)));
        sameToTheLast("works() of " + text, with, without);
        return works(text, fault);
    }

    private PaidInDays again() {
        PaidInDays same = new PaidInDays();
        for (String call : made) {
            answer(same, call);
        }
        return same;
    }

    private static long[] refusals(PaidInDays x) {
        long[] counts = new long[REFUSAL_KINDS];
        for (int i = 0; i < REFUSAL_KINDS; i++) {
            counts[i] = x.count(11 + i);
        }
        return counts;
    }

    private void oneRefusalMore(String call, int refusal, long[] with, long[] without) {
        for (int i = 0; i < REFUSAL_KINDS; i++) {
            long more = -refusal == i + 1 ? 1 : 0;
            checks.due(sentence + ": REFUSALS " + (-1 - i) + " behind " + call, with[i] - without[i], more);
        }
    }

    /** All that the object would answer from here on: as it is, by its letters, by its ROW, and on from THE IMAGE. */
    private void sameToTheLast(String call, PaidInDays with, PaidInDays without) {
        List<String> looks = new ArrayList<>(looks());
        looks.add("judge()");
        looks.add("works()");
        looks.addAll(looks());
        looks.add("on()");
        looks.addAll(looks());
        if (made.size() + 1 + looks.size() > MOST_CALLS) {
            throw new IllegalStateException(sentence + ": too many calls to look at " + call);
        }
        for (String look : looks) {
            checks.due(sentence + ": " + look + " behind " + call, answer(with, look), answer(without, look));
        }
    }

    private static List<String> looks() {
        List<String> looks = new ArrayList<>();
        for (int what = 0; what <= 7; what++) {
            looks.add(text("count", what));
        }
        for (int worker = 0; worker < 6; worker++) {
            for (int what = 0; what <= 4; what++) {
                looks.add(text("worker", worker, what));
            }
            looks.add(text("whatIs", worker, 0));
        }
        return looks;
    }
}
