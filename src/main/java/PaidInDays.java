/**
 * A works whose workers are paid in days off, each of them taken off somebody else.
 * Every question about days to come is answered on a crew held in mind, so that asking changes nothing.
 */
public final class PaidInDays {
    private static final int NOBODY = -1;
    private static final int OTHER = -2;
    private static final int STATE = -3;
    private static final int BELOW = -4;
    private static final int ROOM = -6;
    private static final int FITS = 0;
    private static final int NONE = -9;
    private static final int GREATEST_INT = 0x7fffffff;
    private static final long LONG_REFUSAL = 4000000000000000000L;

    private static final int WEEK = 7;
    private static final int WHOLE_WEEK = 127;
    private static final int MOST_WORKERS = 6;
    private static final int EVERYBODY = 63;
    private static final int KIND_COUNT = 6;
    private static final int MOST_FIGURE = 9;
    private static final int MOST_TIRED = 30;
    private static final int MOST_DUE = 9;
    private static final int MOST_WAGES = 9999;
    private static final int LAST_DAY = 999;
    private static final int FALLEN = 20;
    private static final int MOST_DAYS = 60;
    private static final int MOST_PLANNED = 30;
    private static final int MOST_GUARDED = 20;
    private static final int MOST_FEVER_DAYS = 7;
    private static final int MOST_ODDS = 20;
    private static final int MOST_WEEKS = 20;
    private static final int LOT_DAYS = 14;
    private static final int QUIET_DAYS = 14;
    private static final int MOST_TOLD = 16;
    private static final int MOST_TOLD_NUMBER = 99;
    private static final int MOST_LETTERS = 96;
    private static final int MOST_LETTER = 255;
    private static final int LETTER_FAULT = -1000;
    private static final int STATEMENT_FAULT = -2000;
    private static final String KIND_LETTERS = "whbtmf";

    private final Crew now = new Crew();
    private final Crew mind = new Crew();
    private final Crew kept = new Crew();
    private boolean hasKept = false;
    private final Telling telling = new Telling();
    private final int[] told = new int[MOST_TOLD];
    private int toldCount = 0;
    private final int[] refusals = new int[7];

    public PaidInDays() {
    }

    public int letter(int c) {
        int refusal = outside(c, 0, MOST_LETTER);
        if (refusal == FITS && telling.isFull()) {
            refusal = ROOM;
        }
        if (refusal != FITS) {
            return refuse(refusal);
        }
        telling.add((char) c);
        return telling.size;
    }

    public int works() {
        mind.become(now);
        int wrong = telling.firstWrongLetter();
        int answer = wrong == NONE ? 0 : LETTER_FAULT - wrong;
        int place = 0;
        while (answer >= 0 && place < telling.size) {
            answer = telling.isObeyed(place, mind) ? answer + 1 : STATEMENT_FAULT - place;
            place += 1 + telling.shapeAt(place).length();
        }
        if (answer > 0) {
            now.become(mind);
        }
        telling.forget();
        return answer;
    }

    public int worker(int worker, int what) {
        if (!now.has(worker)) {
            return refuse(NOBODY);
        }
        switch (what) {
            case 0:
                return now.kind[worker];
            case 1:
                return now.figure[worker];
            case 2:
                return now.off[worker];
            case 3:
                return now.tired[worker];
            case 4:
                return now.due[worker];
            case 5:
                return now.ruleOf(worker).dueAfter(now.figure[worker]);
            default:
                return refuse(OTHER);
        }
    }

    public int from(int worker, int what) {
        if (!now.has(worker)) {
            return refuse(NOBODY);
        }
        if (!isEither(what)) {
            return refuse(OTHER);
        }
        WorkerKind rule = now.ruleOf(worker);
        int payer = rule.choosePayer(now, worker);
        if (payer == NONE || what == 0) {
            return payer;
        }
        return rule.chooseWeekday(now.offered(payer, worker));
    }

    public int frees(int worker, int weekday) {
        if (!now.has(worker) || !isWeekday(weekday)) {
            return refuse(NOBODY);
        }
        now.change(worker, weekday);
        return now.off[worker];
    }

    public int gives(int one, int other, int weekday) {
        if (!areTwo(one, other) || !isWeekday(weekday)) {
            return refuse(NOBODY);
        }
        if (!now.canHand(one, other, weekday)) {
            return refuse(STATE);
        }
        now.hand(one, other, weekday);
        return now.off[other];
    }

    public int rests(int worker, int v) {
        if (!now.has(worker)) {
            return refuse(NOBODY);
        }
        int refusal = outside(v, 0, MOST_TIRED);
        if (refusal != FITS) {
            return refuse(refusal);
        }
        int before = now.tired[worker];
        now.tired[worker] = v;
        return before;
    }

    public int turn(int worker, int kind, int figure) {
        if (!now.has(worker)) {
            return refuse(NOBODY);
        }
        if (kind < 0 || kind >= KIND_COUNT) {
            return refuse(OTHER);
        }
        int refusal = outside(figure, 0, MOST_FIGURE);
        if (refusal != FITS) {
            return refuse(refusal);
        }
        int before = 10 * now.kind[worker] + now.figure[worker];
        now.kind[worker] = kind;
        now.figure[worker] = figure;
        return before;
    }

    public int days(int n) {
        int refusal = outside(n, 1, MOST_DAYS);
        if (refusal == FITS && now.day + n > LAST_DAY) {
            refusal = ROOM;
        }
        if (refusal != FITS) {
            return refuse(refusal);
        }
        now.passDays(n, 0);
        return now.wages;
    }

    public int workerThen(int worker, int n, int what) {
        if (!now.has(worker)) {
            return refuse(NOBODY);
        }
        int refusal = outside(n, 0, MOST_DAYS);
        if (refusal != FITS) {
            return refuse(refusal);
        }
        if (what < 0 || what > 2) {
            return refuse(OTHER);
        }
        mind.become(now);
        mind.passDays(n, 0);
        if (what == 0) {
            return mind.off[worker];
        }
        return what == 1 ? mind.tired[worker] : mind.due[worker];
    }

    public int then(int n, int what) {
        int refusal = outside(n, 0, MOST_DAYS);
        if (refusal != FITS) {
            return refuse(refusal);
        }
        if (!isEither(what)) {
            return refuse(OTHER);
        }
        mind.become(now);
        mind.passDays(n, 0);
        return what == 0 ? mind.wages : mind.whoIsIn(mind.weekday());
    }

    public int falls(int worker) {
        if (worker != -1 && !now.has(worker)) {
            return refuse(NOBODY);
        }
        int watched = worker == -1 ? EVERYBODY : 1 << worker;
        mind.become(now);
        int behind = daysTillFall(watched, MOST_DAYS);
        if (behind == NONE || worker != -1) {
            return behind;
        }
        return Integer.numberOfTrailingZeros(mind.whoFell());
    }

    public int still() {
        mind.become(now);
        int quiet = 0;
        for (int passed = 1; passed <= MOST_DAYS + QUIET_DAYS; passed++) {
            // Not by WAGES: at their greatest they would hide that one was paid.
            quiet = mind.passDays(1, 0) == 0 ? quiet + 1 : 0;
            if (quiet == QUIET_DAYS) {
                return passed - QUIET_DAYS;
            }
        }
        return NONE;
    }

    public int strike(int what) {
        switch (what) {
            case 0:
                return now.strikeDay();
            case 1:
                return now.offOn(now.strikeDay());
            case 2:
                return now.coveredByNobody();
            case 3:
                return now.richest();
            default:
                return refuse(OTHER);
        }
    }

    public int meet(int one, int other) {
        if (!areTwo(one, other)) {
            return refuse(NOBODY);
        }
        return now.meetings(one, other);
    }

    public int never(int what) {
        if (!isEither(what)) {
            return refuse(OTHER);
        }
        int twos = 0;
        int first = NONE;
        for (int one = 0; one < now.size; one++) {
            for (int other = one + 1; other < now.size; other++) {
                if (now.meetings(one, other) == 0) {
                    twos++;
                    first = first == NONE ? 10 * one + other : first;
                }
            }
        }
        return what == 0 ? twos : first;
    }

    public int rest(int worker) {
        if (!now.has(worker)) {
            return refuse(NOBODY);
        }
        int longest = 0;
        int run = 0;
        // Two weeks on end, so that a run over the week's end is seen whole.
        for (int day = 0; day < 2 * WEEK; day++) {
            run = now.isOff(worker, day % WEEK) ? run + 1 : 0;
            longest = Math.max(longest, run);
        }
        return Math.min(longest, WEEK);
    }

    public int gift(int worker, int weekday, int n) {
        if (!now.has(worker) || !isWeekday(weekday)) {
            return refuse(NOBODY);
        }
        int refusal = outside(n, 0, MOST_PLANNED);
        if (refusal != FITS) {
            return refuse(refusal);
        }
        if (!now.isOff(worker, weekday)) {
            return refuse(STATE);
        }
        mind.become(now);
        int least = allTiredBehind(n);
        int best = NONE;
        for (int other = 0; other < now.size; other++) {
            if (other != worker && now.canHand(worker, other, weekday)) {
                mind.become(now);
                mind.hand(worker, other, weekday);
                int tired = allTiredBehind(n);
                best = tired < least ? other : best;
                least = Math.min(least, tired);
            }
        }
        return best;
    }

    public int trade(int one, int other, int n) {
        if (!areTwo(one, other)) {
            return refuse(NOBODY);
        }
        int refusal = outside(n, 0, MOST_PLANNED);
        if (refusal != FITS) {
            return refuse(refusal);
        }
        mind.become(now);
        int least = bothTiredBehind(one, other, n);
        int best = NONE;
        for (int his = 0; his < WEEK; his++) {
            for (int that = 0; that < WEEK; that++) {
                if (now.canHand(one, other, his) && now.canHand(other, one, that)) {
                    mind.become(now);
                    mind.hand(one, other, his);
                    mind.hand(other, one, that);
                    int tired = bothTiredBehind(one, other, n);
                    best = tired < least ? 10 * his + that : best;
                    least = Math.min(least, tired);
                }
            }
        }
        return best;
    }

    public int better(int worker, int n, int what) {
        if (!now.has(worker)) {
            return refuse(NOBODY);
        }
        int refusal = outside(n, 0, MOST_PLANNED);
        if (refusal != FITS) {
            return refuse(refusal);
        }
        if (!isEither(what)) {
            return refuse(OTHER);
        }
        int least = GREATEST_INT;
        int best = 0;
        for (int kind = 0; kind < KIND_COUNT; kind++) {
            mind.become(now);
            mind.kind[worker] = kind;
            int tired = allTiredBehind(n);
            best = tired < least ? kind : best;
            least = Math.min(least, tired);
        }
        return what == 0 ? best : least;
    }

    public int fewest(int n) {
        int refusal = outside(n, 0, MOST_GUARDED);
        if (refusal != FITS) {
            return refuse(refusal);
        }
        int best = NONE;
        int least = MOST_WORKERS + 1;
        for (int sentHome = 0; sentHome < 1 << now.size; sentHome++) {
            if (Integer.bitCount(sentHome) < least && nobodyFalls(sentHome, n)) {
                best = sentHome;
                least = Integer.bitCount(sentHome);
            }
        }
        return best;
    }

    public int send(int n) {
        int refusal = outside(n, 0, MOST_PLANNED);
        if (refusal != FITS) {
            return refuse(refusal);
        }
        int least = wagesBehind(n, 0);
        int best = NONE;
        for (int worker = 0; worker < now.size; worker++) {
            int wages = wagesBehind(n, 1 << worker);
            best = wages < least ? worker : best;
            least = Math.min(least, wages);
        }
        return best;
    }

    public int holiday(int n, int what) {
        int refusal = outside(n, 0, MOST_PLANNED);
        if (refusal != FITS) {
            return refuse(refusal);
        }
        if (!isEither(what)) {
            return refuse(OTHER);
        }
        int least = GREATEST_INT;
        int best = 0;
        for (int weekday = 0; weekday < WEEK; weekday++) {
            mind.become(now);
            mind.addOff(EVERYBODY, 1 << weekday);
            int tired = allTiredBehind(n);
            best = tired < least ? weekday : best;
            least = Math.min(least, tired);
        }
        return what == 0 ? best : least;
    }

    public int two(int a, int b, int n) {
        if (!areTwo(a, b)) {
            return refuse(NOBODY);
        }
        int refusal = outside(n, 0, MOST_PLANNED);
        if (refusal != FITS) {
            return refuse(refusal);
        }
        for (int first = 0; first < 2; first++) {
            for (int other = 0; other < 2; other++) {
                int unpaid = (first << a) | (other << b);
                if (keepsTo(a, unpaid, n) && keepsTo(b, unpaid, n)) {
                    return 10 * first + other;
                }
            }
        }
        return NONE;
    }

    public long fever(int worker, int n, int t, int v, int part) {
        int refusal = feverRefusal(worker, n, t, v, part);
        if (refusal != FITS) {
            return refuseLong(refusal);
        }
        long all = 1;
        for (int day = 0; day < n; day++) {
            all *= t;
        }
        long tired = 0;
        for (int fevers = 0; fevers < 1 << n; fevers++) {
            if (tiredByFevers(worker, n, fevers) >= v) {
                tired += waysOfFevers(n, fevers, t);
            }
        }
        return partOf(tired, all, part);
    }

    public long mean(int part) {
        if (!isEither(part)) {
            return refuseLong(OTHER);
        }
        return partOf(now.allTired(), Math.max(now.size, 1), part);
    }

    public int whatIs(int worker, int what) {
        if (!now.has(worker)) {
            return refuse(NOBODY);
        }
        if (!isEither(what)) {
            return refuse(OTHER);
        }
        int fitting = 0;
        int tries = what == 0 ? KIND_COUNT : MOST_FIGURE + 1;
        for (int tried = 0; tried < tries; tried++) {
            mind.become(now);
            if (what == 0) {
                mind.kind[worker] = tried;
            } else {
                mind.figure[worker] = tried;
            }
            if (tiresAsTold(worker)) {
                fitting |= 1 << tried;
            }
        }
        return fitting;
    }

    public int row(int v) {
        int refusal = outside(v, 0, MOST_TOLD_NUMBER);
        if (refusal == FITS && toldCount >= MOST_TOLD) {
            refusal = ROOM;
        }
        if (refusal != FITS) {
            return refuse(refusal);
        }
        told[toldCount] = v;
        toldCount++;
        return toldCount;
    }

    public int judge() {
        int count = toldCount;
        toldCount = 0;
        for (int place = 0; place < count; place++) {
            if (place >= WEEK || Integer.bitCount(now.whoIsIn(place)) != told[place]) {
                return place;
            }
        }
        return NONE;
    }

    public int clear() {
        int had = toldCount;
        toldCount = 0;
        return had;
    }

    public int lots(int n, int z, int what) {
        int refusal = outside(n, 1, MOST_WEEKS);
        if (refusal != FITS) {
            return refuse(refusal);
        }
        if (!isEither(what)) {
            return refuse(OTHER);
        }
        int seed = z;
        int tired = 0;
        int wages = 0;
        for (int week = 0; week < n; week++) {
            mind.become(now);
            for (int worker = 0; worker < mind.size; worker++) {
                seed = nextSeed(seed);
                mind.off[worker] = drawn(seed, WHOLE_WEEK + 1);
                mind.tired[worker] = 0;
            }
            mind.passDays(LOT_DAYS, 0);
            tired += mind.allTired();
            wages += mind.wages - now.wages;
        }
        return what == 0 ? tired : wages;
    }

    public int image() {
        kept.become(now);
        hasKept = true;
        return now.day;
    }

    public int on() {
        if (!hasKept) {
            return refuse(STATE);
        }
        now.become(kept);
        return now.day;
    }

    public int count(int what) {
        if (what >= 11 && what <= 16) {
            return refusals[what - 10];
        }
        switch (what) {
            case 0:
                return now.size;
            case 1:
                return now.day;
            case 2:
                return now.wages;
            case 3:
                return now.allOff();
            case 4:
                return now.allTired();
            case 5:
                return now.whoIsIn(now.weekday());
            case 6:
                return toldCount;
            case 7:
                return telling.size;
            default:
                return NONE;
        }
    }

    private int refuse(int refusal) {
        int place = -refusal;
        if (place > 0 && place < refusals.length) {
            refusals[place]++;
        }
        return refusal;
    }

    private long refuseLong(int refusal) {
        return LONG_REFUSAL - refuse(refusal);
    }

    private static int outside(int number, int least, int greatest) {
        if (number < least) {
            return BELOW;
        }
        return number > greatest ? ROOM : FITS;
    }

    private static boolean isEither(int what) {
        return what == 0 || what == 1;
    }

    private static boolean isWeekday(int weekday) {
        return weekday >= 0 && weekday < WEEK;
    }

    private static boolean hasBit(int bits, int place) {
        return (bits >> place & 1) != 0;
    }

    private boolean areTwo(int one, int other) {
        return now.has(one) && now.has(other) && one != other;
    }

    /** Leaves the crew in mind as it is on the day of the fall. */
    private int daysTillFall(int watched, int most) {
        for (int passed = 0; passed <= most; passed++) {
            if (passed > 0) {
                mind.passDays(1, 0);
            }
            if ((mind.whoFell() & watched) != 0) {
                return passed;
            }
        }
        return NONE;
    }

    private boolean nobodyFalls(int sentHome, int n) {
        mind.become(now);
        mind.addOff(sentHome, WHOLE_WEEK);
        return daysTillFall(EVERYBODY, n) == NONE;
    }

    private int allTiredBehind(int n) {
        mind.passDays(n, 0);
        return mind.allTired();
    }

    private int bothTiredBehind(int one, int other, int n) {
        mind.passDays(n, 0);
        return mind.tired[one] + mind.tired[other];
    }

    private int wagesBehind(int n, int sentHome) {
        mind.become(now);
        mind.addOff(sentHome, WHOLE_WEEK);
        mind.passDays(n, 0);
        return mind.wages;
    }

    /** Whether one would not be better off by choosing otherwise, all else as it is. */
    private boolean keepsTo(int worker, int unpaid, int n) {
        return feltTired(worker, unpaid, n) <= feltTired(worker, unpaid ^ (1 << worker), n);
    }

    private int feltTired(int worker, int unpaid, int n) {
        mind.become(now);
        mind.passDays(n, unpaid);
        boolean letsBe = hasBit(unpaid, worker);
        return letsBe ? mind.tired[worker] - 2 : mind.tired[worker];
    }

    private int feverRefusal(int worker, int n, int t, int v, int part) {
        if (!now.has(worker)) {
            return NOBODY;
        }
        if (n < 0 || v < 0 || t < 2) {
            return BELOW;
        }
        if (n > MOST_FEVER_DAYS || t > MOST_ODDS || v > MOST_TIRED) {
            return ROOM;
        }
        return isEither(part) ? FITS : OTHER;
    }

    private int tiredByFevers(int worker, int n, int fevers) {
        mind.become(now);
        for (int day = 0; day < n; day++) {
            mind.passDays(1, hasBit(fevers, day) ? EVERYBODY : 0);
        }
        return mind.tired[worker];
    }

    /** Of the t to the power n equal chances, how many bring just these days of fever. */
    private static long waysOfFevers(int n, int fevers, int t) {
        long ways = 1;
        for (int day = 0; day < n; day++) {
            if (!hasBit(fevers, day)) {
                ways *= t - 1;
            }
        }
        return ways;
    }

    private static long partOf(long above, long below, int part) {
        long divisor = commonDivisor(above, below);
        if (divisor == 0) {
            return 0;
        }
        return part == 0 ? above / divisor : below / divisor;
    }

    private static long commonDivisor(long above, long below) {
        long greater = above;
        long lesser = below;
        // Euclid needs fewer than a hundred steps for any two longs.
        for (int step = 0; step < 100 && lesser != 0; step++) {
            long left = greater % lesser;
            greater = lesser;
            lesser = left;
        }
        return greater;
    }

    private boolean tiresAsTold(int worker) {
        for (int passed = 0; passed < toldCount; passed++) {
            if (passed > 0) {
                mind.passDays(1, 0);
            }
            if (mind.tired[worker] != told[passed]) {
                return false;
            }
        }
        return true;
    }

    private static int nextSeed(int seed) {
        return seed * 1664525 + 1013904223;
    }

    private static int drawn(int seed, int below) {
        if (below <= 0) {
            return 0;
        }
        return (seed & GREATEST_INT) / 256 % below;
    }

    /** The kind w, and what every other kind has as long as it tells nothing else. */
    private static class WorkerKind {
        /** Behind how many days worked a wage is due; 0 is never. */
        int dueAfter(int figure) {
            return figure / 3 + 1;
        }

        int choosePayer(Crew crew, int paid) {
            for (int step = 1; step < crew.size; step++) {
                int payer = (paid + step) % crew.size;
                if (crew.offered(payer, paid) != 0) {
                    return payer;
                }
            }
            return NONE;
        }

        int chooseWeekday(int weekdays) {
            return Integer.numberOfTrailingZeros(weekdays);
        }
    }

    private static class HardKind extends WorkerKind {
        int choosePayer(Crew crew, int paid) {
            int best = NONE;
            int most = 0;
            for (int payer = 0; payer < crew.size; payer++) {
                int had = Integer.bitCount(crew.off[payer]);
                if (had > most && crew.offered(payer, paid) != 0) {
                    best = payer;
                    most = had;
                }
            }
            return best;
        }
    }

    private static class BoyKind extends WorkerKind {
        int dueAfter(int figure) {
            return super.dueAfter(figure) + 1;
        }

        int choosePayer(Crew crew, int paid) {
            for (int step = 1; step < crew.size; step++) {
                int payer = (paid - step + crew.size) % crew.size;
                if (crew.offered(payer, paid) != 0) {
                    return payer;
                }
            }
            return NONE;
        }
    }

    private static class TraderKind extends HardKind {
        int chooseWeekday(int weekdays) {
            return 31 - Integer.numberOfLeadingZeros(weekdays);
        }
    }

    private static final class MildKind extends BoyKind {
        int dueAfter(int figure) {
            return 0;
        }
    }

    private static final class ForemanKind extends TraderKind {
        int dueAfter(int figure) {
            return 1;
        }

        int choosePayer(Crew crew, int paid) {
            for (int payer = 0; payer < crew.size; payer++) {
                if (crew.offered(payer, paid) != 0) {
                    return payer;
                }
            }
            return NONE;
        }
    }

    /** The workers, the day and the wages, as they are or as they would be. */
    private static final class Crew {
        private final WorkerKind[] kinds = {
            new WorkerKind(), new HardKind(), new BoyKind(), new TraderKind(), new MildKind(), new ForemanKind()
        };
        private final int[] kind = new int[MOST_WORKERS];
        private final int[] figure = new int[MOST_WORKERS];
        private final int[] off = new int[MOST_WORKERS];
        private final int[] tired = new int[MOST_WORKERS];
        private final int[] due = new int[MOST_WORKERS];
        private int size = 0;
        private int wages = 0;
        private int day = 0;

        private void become(Crew other) {
            System.arraycopy(other.kind, 0, kind, 0, MOST_WORKERS);
            System.arraycopy(other.figure, 0, figure, 0, MOST_WORKERS);
            System.arraycopy(other.off, 0, off, 0, MOST_WORKERS);
            System.arraycopy(other.tired, 0, tired, 0, MOST_WORKERS);
            System.arraycopy(other.due, 0, due, 0, MOST_WORKERS);
            size = other.size;
            wages = other.wages;
            day = other.day;
        }

        private boolean hasRoom() {
            return size < MOST_WORKERS;
        }

        private void hire(int newKind, int newFigure, int newOff) {
            if (hasRoom()) {
                kind[size] = newKind;
                figure[size] = newFigure;
                off[size] = newOff;
                tired[size] = 0;
                due[size] = 0;
                size++;
            }
        }

        private boolean has(int worker) {
            return worker >= 0 && worker < size;
        }

        private int weekday() {
            return day % WEEK;
        }

        private boolean isOff(int worker, int weekday) {
            return hasBit(off[worker], weekday);
        }

        private void change(int worker, int weekday) {
            off[worker] ^= 1 << weekday;
        }

        private boolean canHand(int giver, int taker, int weekday) {
            return isOff(giver, weekday) && !isOff(taker, weekday);
        }

        private void hand(int giver, int taker, int weekday) {
            change(giver, weekday);
            change(taker, weekday);
        }

        private void addOff(int workers, int weekdays) {
            for (int worker = 0; worker < size; worker++) {
                if (hasBit(workers, worker)) {
                    off[worker] |= weekdays;
                }
            }
        }

        /** The workers of the bits unpaid get no wage on these days; answers how many wages were paid. */
        private int passDays(int n, int unpaid) {
            int paid = 0;
            for (int passed = 0; passed < n; passed++) {
                day++;
                for (int worker = 0; worker < size; worker++) {
                    if (isOff(worker, day % WEEK)) {
                        tired[worker] = Math.max(tired[worker] - 2, 0);
                    } else if (isPaidAtWork(worker, !hasBit(unpaid, worker))) {
                        paid++;
                    }
                }
            }
            return paid;
        }

        private boolean isPaidAtWork(int worker, boolean payable) {
            tired[worker] = Math.min(tired[worker] + 1, MOST_TIRED);
            due[worker] = Math.min(due[worker] + 1, MOST_DUE);
            WorkerKind rule = ruleOf(worker);
            int after = rule.dueAfter(figure[worker]);
            if (!payable || after == 0 || due[worker] < after) {
                return false;
            }
            int payer = rule.choosePayer(this, worker);
            if (payer == NONE) {
                return false;
            }
            hand(payer, worker, rule.chooseWeekday(offered(payer, worker)));
            wages = Math.min(wages + 1, MOST_WAGES);
            due[worker] = 0;
            return true;
        }

        private WorkerKind ruleOf(int worker) {
            return kinds[kind[worker]];
        }

        /** The weekdays that one could take off another; none off himself. */
        private int offered(int payer, int paid) {
            return off[payer] & ~off[paid];
        }

        private int whoIsIn(int weekday) {
            int bits = 0;
            for (int worker = 0; worker < size; worker++) {
                if (!isOff(worker, weekday)) {
                    bits |= 1 << worker;
                }
            }
            return bits;
        }

        private int whoFell() {
            int bits = 0;
            for (int worker = 0; worker < size; worker++) {
                if (tired[worker] >= FALLEN) {
                    bits |= 1 << worker;
                }
            }
            return bits;
        }

        private int offOn(int weekday) {
            return size - Integer.bitCount(whoIsIn(weekday));
        }

        private int strikeDay() {
            int best = 0;
            for (int weekday = 1; weekday < WEEK; weekday++) {
                if (offOn(weekday) > offOn(best)) {
                    best = weekday;
                }
            }
            return best;
        }

        private int coveredByNobody() {
            int bits = WHOLE_WEEK;
            for (int worker = 0; worker < size; worker++) {
                bits &= off[worker];
            }
            return bits;
        }

        private int richest() {
            int best = NONE;
            int most = -1;
            for (int worker = 0; worker < size; worker++) {
                int had = Integer.bitCount(off[worker]);
                best = had > most ? worker : best;
                most = Math.max(most, had);
            }
            return best;
        }

        private int meetings(int one, int other) {
            return ~(off[one] | off[other]) & WHOLE_WEEK;
        }

        private int allOff() {
            int all = 0;
            for (int worker = 0; worker < size; worker++) {
                all += Integer.bitCount(off[worker]);
            }
            return all;
        }

        private int allTired() {
            int all = 0;
            for (int worker = 0; worker < size; worker++) {
                all += tired[worker];
            }
            return all;
        }
    }

    /** The letters that have come, and how they are read. */
    private static final class Telling {
        private final char[] letters = new char[MOST_LETTERS];
        private int size = 0;

        private boolean isFull() {
            return size >= MOST_LETTERS;
        }

        private void add(char letter) {
            if (!isFull()) {
                letters[size] = letter;
                size++;
            }
        }

        private void forget() {
            size = 0;
        }

        private int firstWrongLetter() {
            int place = 0;
            do {
                String shape = shapeAt(place);
                if (shape.isEmpty()) {
                    return place;
                }
                for (int i = 0; i < shape.length(); i++) {
                    place++;
                    if (place >= size || !isAs(shape.charAt(i), letters[place])) {
                        return place;
                    }
                }
                place++;
            } while (place < size);
            return NONE;
        }

        /** What must follow a statement's first letter: k a kind's letter, 0 a digit; nothing if none begins here. */
        private String shapeAt(int place) {
            switch (place < size ? letters[place] : 0) {
                case 'w':
                    return "k0000;";
                case 'o':
                case 'd':
                    return "00;";
                case 't':
                case 'x':
                    return "000;";
                default:
                    return "";
            }
        }

        private static boolean isAs(char shape, char letter) {
            if (shape == 'k') {
                return KIND_LETTERS.indexOf(letter) >= 0;
            }
            if (shape == '0') {
                return letter >= '0' && letter <= '9';
            }
            return letter == shape;
        }

        /** The number told in so many digits, the first of them at this place. */
        private int number(int place, int digits) {
            int value = 0;
            for (int i = place; i < place + digits && i < size; i++) {
                value = 10 * value + letters[i] - '0';
            }
            return value;
        }

        /** Whether the statement at this place was as it must be; then the crew is as it says. */
        private boolean isObeyed(int place, Crew crew) {
            switch (place < size ? letters[place] : 0) {
                case 'w':
                    return hires(place, crew);
                case 'o':
                    return changesOff(place, crew);
                case 't':
                    return setsTired(place, crew);
                case 'x':
                    return handsOver(place, crew);
                case 'd':
                    return letsPass(place, crew);
                default:
                    return false;
            }
        }

        private boolean hires(int place, Crew crew) {
            int newKind = place + 1 < size ? KIND_LETTERS.indexOf(letters[place + 1]) : NONE;
            int newFigure = number(place + 2, 1);
            int newOff = number(place + 3, 3);
            if (newKind < 0 || newOff > WHOLE_WEEK || !crew.hasRoom()) {
                return false;
            }
            crew.hire(newKind, newFigure, newOff);
            return true;
        }

        private boolean changesOff(int place, Crew crew) {
            int worker = number(place + 1, 1);
            int weekday = number(place + 2, 1);
            if (!crew.has(worker) || !isWeekday(weekday)) {
                return false;
            }
            crew.change(worker, weekday);
            return true;
        }

        private boolean setsTired(int place, Crew crew) {
            int worker = number(place + 1, 1);
            int tired = number(place + 2, 2);
            if (!crew.has(worker) || tired > MOST_TIRED) {
                return false;
            }
            crew.tired[worker] = tired;
            return true;
        }

        private boolean handsOver(int place, Crew crew) {
            int giver = number(place + 1, 1);
            int taker = number(place + 2, 1);
            int weekday = number(place + 3, 1);
            if (!crew.has(giver) || !crew.has(taker) || giver == taker || !isWeekday(weekday)) {
                return false;
            }
            if (!crew.canHand(giver, taker, weekday)) {
                return false;
            }
            crew.hand(giver, taker, weekday);
            return true;
        }

        private boolean letsPass(int place, Crew crew) {
            int days = number(place + 1, 2);
            if (days < 1 || days > MOST_DAYS || crew.day + days > LAST_DAY) {
                return false;
            }
            crew.passDays(days, 0);
            return true;
        }
    }
}
