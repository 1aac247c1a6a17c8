import java.math.BigInteger;
import java.util.ArrayList;
import java.util.Arrays;
import java.util.Collections;
import java.util.Comparator;
import java.util.List;
import java.util.TreeSet;
import java.util.regex.Matcher;
import java.util.regex.Pattern;

/**
 * The document once more, as plainly as the Java library allows: sets of weekdays, a new world for each thought.
 * It shares no code with the class, so that a slip in one of them shows where they differ.
 */
final class PlainModel {
    private static final class Person {
        int kind;
        int figure;
        final TreeSet<Integer> off = new TreeSet<>();
        int tired = 0;
        int due = 0;

        Person(int kind, int figure, int bits) {
            this.kind = kind;
            this.figure = figure;
            for (int weekday = 0; weekday < 7; weekday++) {
                if ((bits & (1 << weekday)) != 0) {
                    off.add(weekday);
                }
            }
        }

        Person(Person other) {
            this(other.kind, other.figure, other.offBits());
            tired = other.tired;
            due = other.due;
        }

        int offBits() {
            return off.stream().mapToInt(weekday -> 1 << weekday).sum();
        }

        void offAll() {
            off.addAll(List.of(0, 1, 2, 3, 4, 5, 6));
        }

        int wageAfter() {
            switch (kind) {
                case 2:
                    return figure / 3 + 2;
                case 4:
                    return 0;
                case 5:
                    return 1;
                default:
                    return figure / 3 + 1;
            }
        }
    }

    private static final class World {
        final List<Person> people = new ArrayList<>();
        int day = 0;
        int wages = 0;
        int paid = 0;

        World copy() {
            World copy = new World();
            people.forEach(person -> copy.people.add(new Person(person)));
            copy.day = day;
            copy.wages = wages;
            return copy;
        }

        boolean has(int who) {
            return who >= 0 && who < people.size();
        }

        TreeSet<Integer> wanted(int payer, int paidOne) {
            TreeSet<Integer> wanted = new TreeSet<>(people.get(payer).off);
            wanted.removeAll(people.get(paidOne).off);
            return wanted;
        }

        int payer(int who) {
            int size = people.size();
            List<Integer> able = new ArrayList<>();
            for (int other = 0; other < size; other++) {
                if (other != who && !wanted(other, who).isEmpty()) {
                    able.add(other);
                }
            }
            if (able.isEmpty()) {
                return -9;
            }
            switch (people.get(who).kind) {
                case 0:
                    return Collections.min(able, Comparator.comparingInt(other -> Math.floorMod(other - who, size)));
                case 2:
                case 4:
                    return Collections.min(able, Comparator.comparingInt(other -> Math.floorMod(who - other, size)));
                case 5:
                    return able.get(0);
                default:
                    return Collections.min(able, Comparator.comparingInt(other -> -people.get(other).off.size()));
            }
        }

        int wageWeekday(int who) {
            int payer = payer(who);
            if (payer < 0) {
                return -9;
            }
            int kind = people.get(who).kind;
            return kind == 3 || kind == 5 ? wanted(payer, who).last() : wanted(payer, who).first();
        }

        void pass(TreeSet<Integer> unpaid) {
            day++;
            paid = 0;
            for (int who = 0; who < people.size(); who++) {
                Person person = people.get(who);
                if (person.off.contains(day % 7)) {
                    person.tired = person.tired < 2 ? 0 : person.tired - 2;
                    continue;
                }
                person.tired = person.tired == 30 ? 30 : person.tired + 1;
                person.due = person.due == 9 ? 9 : person.due + 1;
                boolean ripe = person.wageAfter() > 0 && person.due >= person.wageAfter();
                if (ripe && !unpaid.contains(who) && payer(who) >= 0) {
                    int payer = payer(who);
                    int weekday = wageWeekday(who);
                    people.get(payer).off.remove(weekday);
                    person.off.add(weekday);
                    wages = Math.min(9999, wages + 1);
                    paid++;
                    person.due = 0;
                }
            }
        }

        World behind(int n) {
            World later = copy();
            for (int i = 0; i < n; i++) {
                later.pass(new TreeSet<>());
            }
            return later;
        }

        int allTired() {
            return people.stream().mapToInt(person -> person.tired).sum();
        }

        int in(int weekday) {
            int bits = 0;
            for (int who = 0; who < people.size(); who++) {
                bits += people.get(who).off.contains(weekday) ? 0 : 1 << who;
            }
            return bits;
        }

        int falls(int who) {
            for (int n = 0; n <= 60; n++) {
                if (behind(n).people.get(who).tired >= 20) {
                    return n;
                }
            }
            return -9;
        }

        boolean give(int one, int other, int weekday) {
            if (!people.get(one).off.contains(weekday) || people.get(other).off.contains(weekday)) {
                return false;
            }
            people.get(one).off.remove(weekday);
            people.get(other).off.add(weekday);
            return true;
        }

        void flip(int who, int weekday) {
            if (!people.get(who).off.remove(weekday)) {
                people.get(who).off.add(weekday);
            }
        }
    }

    private static final Pattern STATEMENT = Pattern.compile("w[whbtmf]\\d{4};|o\\d\\d;|t\\d{3};|x\\d{3};|d\\d\\d;");

    private World now = new World();
    private World kept = null;
    private final StringBuilder letters = new StringBuilder();
    private final List<Integer> row = new ArrayList<>();
    private final int[] refused = new int[7];

    private int no(int refusal) {
        refused[-refusal]++;
        return refusal;
    }

    private static boolean below(int number, int least) {
        return number < least;
    }

    int letter(int c) {
        if (below(c, 0)) {
            return no(-4);
        }
        if (c > 255 || letters.length() == 96) {
            return no(-6);
        }
        letters.append((char) c);
        return letters.length();
    }

    int works() {
        String text = letters.toString();
        letters.setLength(0);
        List<Integer> starts = new ArrayList<>();
        int place = 0;
        Matcher matcher = STATEMENT.matcher(text);
        while (place < text.length()) {
            matcher.region(place, text.length());
            if (!matcher.lookingAt()) {
                return -1000 - firstBad(text, place);
            }
            starts.add(place);
            place = matcher.end();
        }
        if (starts.isEmpty()) {
            return -1000;
        }
        World next = now.copy();
        for (int start : starts) {
            if (!obey(next, text.substring(start, text.indexOf(';', start)))) {
                return -2000 - start;
            }
        }
        now = next;
        return starts.size();
    }

    /** The longest beginning that some statement has is looked for by hitEnd. */
    private static int firstBad(String text, int start) {
        for (int end = start + 1; end <= text.length(); end++) {
            Matcher part = STATEMENT.matcher(text.substring(start, end));
            if (!part.matches() && !part.hitEnd()) {
                return end - 1;
            }
        }
        return text.length();
    }

    private static int digit(String statement, int at) {
        return statement.charAt(at) - '0';
    }

    private static boolean obey(World world, String s) {
        switch (s.charAt(0)) {
            case 'w': {
                int off = Integer.parseInt(s.substring(3));
                if (off > 127 || world.people.size() == 6) {
                    return false;
                }
                world.people.add(new Person("whbtmf".indexOf(s.charAt(1)), digit(s, 2), off));
                return true;
            }
            case 'o':
                if (!world.has(digit(s, 1)) || digit(s, 2) > 6) {
                    return false;
                }
                world.flip(digit(s, 1), digit(s, 2));
                return true;
            case 't':
                if (!world.has(digit(s, 1)) || Integer.parseInt(s.substring(2)) > 30) {
                    return false;
                }
                world.people.get(digit(s, 1)).tired = Integer.parseInt(s.substring(2));
                return true;
            case 'x':
                return world.has(digit(s, 1)) && world.has(digit(s, 2)) && digit(s, 1) != digit(s, 2)
                    && world.give(digit(s, 1), digit(s, 2), digit(s, 3));
            default: {
                int n = Integer.parseInt(s.substring(1));
                if (n < 1 || n > 60 || world.day + n > 999) {
                    return false;
                }
                for (int i = 0; i < n; i++) {
                    world.pass(new TreeSet<>());
                }
                return true;
            }
        }
    }

    int worker(int worker, int what) {
        if (!now.has(worker)) {
            return no(-1);
        }
        if (what < 0 || what > 5) {
            return no(-2);
        }
        Person p = now.people.get(worker);
        return new int[] {p.kind, p.figure, p.offBits(), p.tired, p.due, p.wageAfter()}[what];
    }

    int from(int worker, int what) {
        if (!now.has(worker)) {
            return no(-1);
        }
        if (what < 0 || what > 1) {
            return no(-2);
        }
        return what == 0 ? now.payer(worker) : now.wageWeekday(worker);
    }

    int frees(int worker, int weekday) {
        if (!now.has(worker) || weekday < 0 || weekday > 6) {
            return no(-1);
        }
        now.flip(worker, weekday);
        return now.people.get(worker).offBits();
    }

    int gives(int one, int other, int weekday) {
        if (!now.has(one) || !now.has(other) || one == other || weekday < 0 || weekday > 6) {
            return no(-1);
        }
        return now.give(one, other, weekday) ? now.people.get(other).offBits() : no(-3);
    }

    int rests(int worker, int v) {
        if (!now.has(worker)) {
            return no(-1);
        }
        if (v < 0 || v > 30) {
            return no(v < 0 ? -4 : -6);
        }
        int was = now.people.get(worker).tired;
        now.people.get(worker).tired = v;
        return was;
    }

    int turn(int worker, int kind, int figure) {
        if (!now.has(worker)) {
            return no(-1);
        }
        if (kind < 0 || kind > 5) {
            return no(-2);
        }
        if (figure < 0 || figure > 9) {
            return no(figure < 0 ? -4 : -6);
        }
        Person p = now.people.get(worker);
        int was = 10 * p.kind + p.figure;
        p.kind = kind;
        p.figure = figure;
        return was;
    }

    int days(int n) {
        if (n < 1) {
            return no(-4);
        }
        if (n > 60 || now.day + n > 999) {
            return no(-6);
        }
        now = now.behind(n);
        return now.wages;
    }

    int workerThen(int worker, int n, int what) {
        if (!now.has(worker)) {
            return no(-1);
        }
        if (n < 0 || n > 60) {
            return no(n < 0 ? -4 : -6);
        }
        if (what < 0 || what > 2) {
            return no(-2);
        }
        Person p = now.behind(n).people.get(worker);
        return new int[] {p.offBits(), p.tired, p.due}[what];
    }

    int then(int n, int what) {
        if (n < 0 || n > 60) {
            return no(n < 0 ? -4 : -6);
        }
        if (what < 0 || what > 1) {
            return no(-2);
        }
        World later = now.behind(n);
        return what == 0 ? later.wages : later.in((now.day + n) % 7);
    }

    int falls(int worker) {
        if (worker != -1 && !now.has(worker)) {
            return no(-1);
        }
        if (worker >= 0) {
            return now.falls(worker);
        }
        int first = -9;
        for (int who = 0; who < now.people.size(); who++) {
            int falls = now.falls(who);
            if (falls >= 0 && (first < 0 || falls < now.falls(first))) {
                first = who;
            }
        }
        return first;
    }

    int still() {
        for (int n = 0; n <= 60; n++) {
            World later = now.behind(n);
            int paid = 0;
            for (int i = 0; i < 14; i++) {
                later.pass(new TreeSet<>());
                paid += later.paid;
            }
            if (paid == 0) {
                return n;
            }
        }
        return -9;
    }

    int strike(int what) {
        int best = 0;
        int most = -1;
        int cover = 0;
        for (int weekday = 0; weekday < 7; weekday++) {
            int off = now.people.size() - Integer.bitCount(now.in(weekday));
            if (off > most) {
                best = weekday;
                most = off;
            }
            cover += now.in(weekday) == 0 ? 1 << weekday : 0;
        }
        int richest = -9;
        for (int who = now.people.size() - 1; who >= 0; who--) {
            if (richest < 0 || now.people.get(who).off.size() >= now.people.get(richest).off.size()) {
                richest = who;
            }
        }
        return what < 0 || what > 3 ? no(-2) : new int[] {best, most, cover, richest}[what];
    }

    private int together(int one, int other) {
        int bits = 0;
        for (int weekday = 0; weekday < 7; weekday++) {
            int in = now.in(weekday);
            bits += (in >> one & 1) + (in >> other & 1) == 2 ? 1 << weekday : 0;
        }
        return bits;
    }

    int meet(int one, int other) {
        return !now.has(one) || !now.has(other) || one == other ? no(-1) : together(one, other);
    }

    int never(int what) {
        if (what < 0 || what > 1) {
            return no(-2);
        }
        List<Integer> twos = new ArrayList<>();
        for (int one = 0; one < now.people.size(); one++) {
            for (int other = one + 1; other < now.people.size(); other++) {
                if (together(one, other) == 0) {
                    twos.add(10 * one + other);
                }
            }
        }
        return what == 0 ? twos.size() : twos.isEmpty() ? -9 : Collections.min(twos);
    }

    int rest(int worker) {
        if (!now.has(worker)) {
            return no(-1);
        }
        for (int length = 7; length > 0; length--) {
            for (int start = 0; start < 7; start++) {
                boolean all = true;
                for (int i = 0; i < length; i++) {
                    all &= now.people.get(worker).off.contains((start + i) % 7);
                }
                if (all) {
                    return length;
                }
            }
        }
        return 0;
    }

    int gift(int worker, int weekday, int n) {
        if (!now.has(worker) || weekday < 0 || weekday > 6) {
            return no(-1);
        }
        if (n < 0 || n > 30) {
            return no(n < 0 ? -4 : -6);
        }
        if (!now.people.get(worker).off.contains(weekday)) {
            return no(-3);
        }
        int best = -9;
        int least = now.behind(n).allTired();
        for (int other = 0; other < now.people.size(); other++) {
            World world = now.copy();
            if (other != worker && world.give(worker, other, weekday) && world.behind(n).allTired() < least) {
                best = other;
                least = world.behind(n).allTired();
            }
        }
        return best;
    }

    int trade(int one, int other, int n) {
        if (!now.has(one) || !now.has(other) || one == other) {
            return no(-1);
        }
        if (n < 0 || n > 30) {
            return no(n < 0 ? -4 : -6);
        }
        int best = -9;
        int least = both(now.behind(n), one, other);
        for (int pair = 0; pair < 70; pair++) {
            World world = now.copy();
            boolean can = pair % 10 < 7 && pair / 10 != pair % 10
                && !now.people.get(one).off.contains(pair % 10) && !now.people.get(other).off.contains(pair / 10)
                && world.give(one, other, pair / 10) && world.give(other, one, pair % 10);
            if (can && both(world.behind(n), one, other) < least) {
                best = pair;
                least = both(world.behind(n), one, other);
            }
        }
        return best;
    }

    private static int both(World world, int one, int other) {
        return world.people.get(one).tired + world.people.get(other).tired;
    }

    int better(int worker, int n, int what) {
        if (!now.has(worker)) {
            return no(-1);
        }
        if (n < 0 || n > 30) {
            return no(n < 0 ? -4 : -6);
        }
        if (what < 0 || what > 1) {
            return no(-2);
        }
        int[] tired = new int[6];
        for (int kind = 0; kind < 6; kind++) {
            World world = now.copy();
            world.people.get(worker).kind = kind;
            tired[kind] = world.behind(n).allTired();
        }
        return leastOf(tired, what);
    }

    private static int leastOf(int[] numbers, int what) {
        int least = Arrays.stream(numbers).min().getAsInt();
        for (int i = 0; i < numbers.length; i++) {
            if (numbers[i] == least) {
                return what == 0 ? i : least;
            }
        }
        throw new IllegalStateException("the least is none of them");
    }

    int fewest(int n) {
        if (n < 0 || n > 20) {
            return no(n < 0 ? -4 : -6);
        }
        List<Integer> choices = new ArrayList<>();
        for (int bits = 0; bits < 1 << now.people.size(); bits++) {
            choices.add(bits);
        }
        choices.sort(Comparator.comparingInt((Integer bits) -> Integer.bitCount(bits)).thenComparingInt(bits -> bits));
        for (int bits : choices) {
            World world = now.copy();
            for (int who = 0; who < world.people.size(); who++) {
                if ((bits >> who & 1) == 1) {
                    world.people.get(who).offAll();
                }
            }
            boolean fallen = false;
            for (int i = 0; i <= n; i++) {
                fallen |= world.behind(i).people.stream().anyMatch(person -> person.tired >= 20);
            }
            if (!fallen) {
                return bits;
            }
        }
        return -9;
    }

    int send(int n) {
        if (n < 0 || n > 30) {
            return no(n < 0 ? -4 : -6);
        }
        int best = -9;
        int least = now.behind(n).wages;
        for (int who = 0; who < now.people.size(); who++) {
            World world = now.copy();
            world.people.get(who).offAll();
            if (world.behind(n).wages < least) {
                best = who;
                least = world.behind(n).wages;
            }
        }
        return best;
    }

    int holiday(int n, int what) {
        if (n < 0 || n > 30) {
            return no(n < 0 ? -4 : -6);
        }
        if (what < 0 || what > 1) {
            return no(-2);
        }
        int[] tired = new int[7];
        for (int weekday = 0; weekday < 7; weekday++) {
            World world = now.copy();
            for (Person person : world.people) {
                person.off.add(weekday);
            }
            tired[weekday] = world.behind(n).allTired();
        }
        return leastOf(tired, what);
    }

    int two(int a, int b, int n) {
        if (!now.has(a) || !now.has(b) || a == b) {
            return no(-1);
        }
        if (n < 0 || n > 30) {
            return no(n < 0 ? -4 : -6);
        }
        int[][] costA = new int[2][2];
        int[][] costB = new int[2][2];
        for (int i = 0; i < 2; i++) {
            for (int j = 0; j < 2; j++) {
                TreeSet<Integer> unpaid = new TreeSet<>();
                if (i == 1) {
                    unpaid.add(a);
                }
                if (j == 1) {
                    unpaid.add(b);
                }
                World world = now.copy();
                for (int d = 0; d < n; d++) {
                    world.pass(unpaid);
                }
                costA[i][j] = world.people.get(a).tired - 2 * i;
                costB[i][j] = world.people.get(b).tired - 2 * j;
            }
        }
        for (int i = 0; i < 2; i++) {
            for (int j = 0; j < 2; j++) {
                if (costA[1 - i][j] >= costA[i][j] && costB[i][1 - j] >= costB[i][j]) {
                    return 10 * i + j;
                }
            }
        }
        return -9;
    }

    private static BigInteger chances(World world, int worker, int n, int t, int v) {
        if (n == 0) {
            return world.people.get(worker).tired >= v ? BigInteger.ONE : BigInteger.ZERO;
        }
        World fever = world.copy();
        fever.pass(new TreeSet<>(List.of(0, 1, 2, 3, 4, 5)));
        BigInteger sick = chances(fever, worker, n - 1, t, v);
        return sick.add(chances(world.behind(1), worker, n - 1, t, v).multiply(BigInteger.valueOf(t - 1)));
    }

    private static long fraction(BigInteger above, BigInteger below, int part) {
        BigInteger common = above.gcd(below);
        return (part == 0 ? above : below).divide(common).longValueExact();
    }

    private long longNo(int refusal) {
        return 4000000000000000000L - no(refusal);
    }

    long fever(int worker, int n, int t, int v, int part) {
        if (!now.has(worker)) {
            return longNo(-1);
        }
        if (n < 0 || v < 0 || t < 2) {
            return longNo(-4);
        }
        if (n > 7 || t > 20 || v > 30) {
            return longNo(-6);
        }
        if (part < 0 || part > 1) {
            return longNo(-2);
        }
        return fraction(chances(now, worker, n, t, v), BigInteger.valueOf(t).pow(n), part);
    }

    long mean(int part) {
        if (part < 0 || part > 1) {
            return longNo(-2);
        }
        int size = now.people.size();
        return size == 0 ? part : fraction(BigInteger.valueOf(now.allTired()), BigInteger.valueOf(size), part);
    }

    int whatIs(int worker, int what) {
        if (!now.has(worker)) {
            return no(-1);
        }
        if (what < 0 || what > 1) {
            return no(-2);
        }
        int bits = 0;
        for (int i = 0; i < (what == 0 ? 6 : 10); i++) {
            World world = now.copy();
            Person p = world.people.get(worker);
            p.kind = what == 0 ? i : p.kind;
            p.figure = what == 1 ? i : p.figure;
            boolean all = true;
            for (int d = 0; d < row.size(); d++) {
                all &= world.behind(d).people.get(worker).tired == row.get(d);
            }
            bits += all ? 1 << i : 0;
        }
        return bits;
    }

    int row(int v) {
        if (v < 0) {
            return no(-4);
        }
        if (v > 99 || row.size() == 16) {
            return no(-6);
        }
        row.add(v);
        return row.size();
    }

    int judge() {
        List<Integer> told = new ArrayList<>(row);
        row.clear();
        for (int i = 0; i < told.size(); i++) {
            if (i > 6 || told.get(i) != Integer.bitCount(now.in(i))) {
                return i;
            }
        }
        return -9;
    }

    int clear() {
        int had = row.size();
        row.clear();
        return had;
    }

    int lots(int n, int z, int what) {
        if (n < 1) {
            return no(-4);
        }
        if (n > 20) {
            return no(-6);
        }
        if (what < 0 || what > 1) {
            return no(-2);
        }
        BigInteger word = BigInteger.ONE.shiftLeft(32);
        BigInteger seed = BigInteger.valueOf(z).mod(word);
        int tired = 0;
        int wages = 0;
        for (int week = 0; week < n; week++) {
            World world = now.copy();
            for (int who = 0; who < world.people.size(); who++) {
                seed = seed.multiply(BigInteger.valueOf(1664525)).add(BigInteger.valueOf(1013904223)).mod(word);
                int off = seed.clearBit(31).divide(BigInteger.valueOf(256)).mod(BigInteger.valueOf(128)).intValueExact();
                Person was = world.people.get(who);
                Person fresh = new Person(was.kind, was.figure, off);
                fresh.due = was.due;
                world.people.set(who, fresh);
            }
            World later = world.behind(14);
            tired += later.allTired();
            wages += later.wages - now.wages;
        }
        return what == 0 ? tired : wages;
    }

    int image() {
        kept = now.copy();
        return now.day;
    }

    int on() {
        if (kept == null) {
            return no(-3);
        }
        now = kept.copy();
        return now.day;
    }

    int count(int what) {
        if (what > 10 && what < 17) {
            return refused[what - 10];
        }
        if (what < 0 || what > 7) {
            return -9;
        }
        int off = now.people.stream().mapToInt(person -> person.off.size()).sum();
        return new int[] {now.people.size(), now.day, now.wages, off, now.allTired(), now.in(now.day % 7), row.size(),
            letters.length()}[what];
    }
}
