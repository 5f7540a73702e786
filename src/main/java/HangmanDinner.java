/**
 * Each in turn must have the hangman to dinner: houses on a street, the THURSDAYS on which he comes, and
 * what may be asked of them. The words in capitals are those of ../shared/DOC.md.
 */
public final class HangmanDinner {
    public static final int NONE = -1, BAD = -2, STATE = -3, FULL = -4;
    public static final long NO = Long.MIN_VALUE;

    /** Nobody, no such set, no such pair, not by then: what is asked for is not there. */
    private static final int NOT_THERE = -5;
    /** NONE, where an answer may be below 0. */
    private static final int LOW_NONE = -10001;
    private static final int NOTHING = -11, CAST = -12, PLACE = -13, SIZE = -14;

    private static final int RICH = 1, PASTOR = 2, WIDOW = 3, SHY = 4, CHILDREN = 5, TOLD = 6;
    private static final int MOST_HOUSES = 6, MOST_TOWNS = 6, MOST_TAPES = 6;
    private static final int MOST_SEEN = 5, MOST_PLANNED = 10, MOST_BOOKED = 8;
    private static final int LAST_WEEK = 9999, FARTHEST = 60;
    private static final int ILL_WITHOUT = 60;

    private final Scene now, trial, imaged;
    private final Rows seen = new Rows(MOST_SEEN), seenImaged = new Rows(MOST_SEEN);
    private final Rows planned = new Rows(MOST_PLANNED), plannedImaged = new Rows(MOST_PLANNED);
    private final Rows booked = new Rows(MOST_BOOKED), bookedImaged = new Rows(MOST_BOOKED);
    private boolean hasImage;
    private final Reader text = new Reader();
    private int towns;
    private final Talk talk = new Talk();
    private final Tape[] tapes = new Tape[MOST_TAPES];
    /** DINED of each HOUSE by each set of those who feign. */
    private final int[] dinedBySet = new int[MOST_HOUSES << MOST_HOUSES];

    public HangmanDinner() {
        Town bare = new Town(new int[0], 0, ILL_WITHOUT);
        now = new Scene(bare);
        trial = new Scene(bare);
        imaged = new Scene(bare);
        for (int i = 0; i < MOST_TAPES; i++) tapes[i] = new Tape();
    }

    // ---- houses, towns

    public int house(int kind, int v, int base) {
        if (!within(kind, TOLD)) return NONE;
        if (!within(v, 9) || !within(base, 99)) return BAD;
        return now.add(kind, v, base);
    }

    public int of(int house, int what) {
        House h = now.at(house);
        if (h == null) return LOW_NONE;
        switch (what) {
            case 0: return h.kind;
            case 1: return h.v;
            case 2: return h.base;
            case 3: return h.owes;
            case 4: return h.dined;
            case 5: return h.trials;
            case 6: return h.shut ? 1 : 0;
            case 7: return now.dread(house);
            case 8: return now.isIll(house) ? 1 : 0;
            case 9: return comes(house);
            case 10: return now.placeOf(house);
            default: return LOW_NONE;
        }
    }

    public int set(int house, int what, int n) {
        House h = now.at(house);
        if (h == null || !within(what, 2)) return NONE;
        if (!within(n, what == 0 ? 99 : what == 1 ? 9 : 255)) return BAD;
        int was;
        if (what == 0) {
            was = h.base;
            h.base = n;
        } else if (what == 1) {
            was = h.owes;
            h.owes = n;
        } else {
            was = h.trials;
            h.trials = n;
        }
        return was;
    }

    public int shut(int house, boolean is) {
        House h = now.at(house);
        if (h == null) return NONE;
        int was = h.shut ? 1 : 0;
        h.shut = is;
        return was;
    }

    public int swap(int one, int other) {
        if (!now.has(one) || !now.has(other)) return NONE;
        if (one == other) return BAD;
        now.change(one, other);
        return now.placeOf(one);
    }

    public int row(int house, int part, int n) {
        House h = now.at(house);
        if (h == null || !within(part, 3)) return NONE;
        if (!within(n, 9)) return BAD;
        if (h.kind != TOLD) return STATE;
        int was = h.row[part];
        h.row[part] = n;
        return was;
    }

    public int feed(int sign) {
        if (!within(sign, 127)) return BAD;
        return text.add(sign);
    }

    public int town() {
        if (towns == MOST_TOWNS) return FULL;
        Town made = text.understand();
        if (made == null) return -10 - text.place();
        now.town = made;
        towns++;
        return towns - 1;
    }

    public int told(int what) {
        switch (what) {
            case 0: return now.week;
            case 1: return now.town.ill;
            case 2: return now.point;
            case 3: return now.hungry;
            case 4: return now.clashes;
            case 5: return orNotThere(now.host());
            case 6: return illOnes();
            default: return now.has(what - 10) ? now.street[what - 10] : NONE;
        }
    }

    private int illOnes() {
        int bits = 0;
        for (int house = 0; house < now.size; house++) {
            if (now.isIll(house)) bits |= 1 << house;
        }
        return bits;
    }

    // ---- Thursdays

    public int pass(int n) {
        if (!within(n, FARTHEST)) return BAD;
        if (now.week + n > LAST_WEEK) return STATE;
        now.thursdays(n);
        return now.week;
    }

    public int on(int n, int what) {
        boolean dined = now.has(what - 10), owes = now.has(what - 20);
        if (!within(what, 2) && !dined && !owes) return NONE;
        if (!within(n, FARTHEST)) return BAD;
        trial.become(now);
        trial.thursdays(n);
        if (dined) return trial.houses[what - 10].dined;
        if (owes) return trial.houses[what - 20].owes;
        if (what == 0) return orNotThere(trial.host());
        return what == 1 ? trial.clashes : trial.hungry;
    }

    private int comes(int house) {
        trial.become(now);
        for (int n = 0; n <= FARTHEST; n++) {
            if (trial.thursday() == house) return n;
        }
        return NOT_THERE;
    }

    // ---- doors, feigning

    public int doors(int n) {
        if (n < 1 || n > 20) return BAD;
        trial.become(now);
        trial.thursdays(n);
        int least = trial.clashes;
        int best = NOT_THERE;
        for (int one = 0; one < now.size; one++) {
            for (int other = one + 1; other < now.size; other++) {
                trial.become(now);
                trial.change(one, other);
                trial.thursdays(n);
                if (trial.clashes < least) {
                    least = trial.clashes;
                    best = 10 * one + other;
                }
            }
        }
        return best;
    }

    public int feign(int n, int what) {
        if (!within(what, 1)) return NONE;
        if (n < 1 || n > 6) return BAD;
        int open = openOnes();
        for (int set = 0; set <= open; set++) {
            if ((set & ~open) == 0) dineBySet(set, n);
        }
        int many = 0;
        int least = NOT_THERE;
        for (int set = 0; set <= open; set++) {
            if ((set & ~open) != 0 || !rests(set, open)) continue;
            if (many == 0) least = set;
            many++;
        }
        return what == 0 ? many : least;
    }

    private int openOnes() {
        int bits = 0;
        for (int house = 0; house < now.size; house++) {
            if (!now.houses[house].shut) bits |= 1 << house;
        }
        return bits;
    }

    private void dineBySet(int set, int n) {
        trial.become(now);
        for (int house = 0; house < trial.size; house++) {
            if ((set >> house & 1) != 0) trial.houses[house].shut = true;
        }
        trial.thursday();
        for (int house = 0; house < trial.size; house++) {
            trial.houses[house].shut = now.houses[house].shut;
        }
        for (int i = 1; i < n; i++) trial.thursday();
        for (int house = 0; house < trial.size; house++) {
            dinedBySet[MOST_HOUSES * set + house] = trial.houses[house].dined;
        }
    }

    private boolean rests(int set, int open) {
        for (int house = 0; house < now.size; house++) {
            if ((open >> house & 1) == 0) continue;
            int otherwise = set ^ 1 << house;
            if (dinedBySet[MOST_HOUSES * otherwise + house] < dinedBySet[MOST_HOUSES * set + house]) return false;
        }
        return true;
    }

    // ---- seen, odds

    public int see(int n, int house) {
        if (n == -1) return seen.empty();
        if (house != -1 && !now.has(house)) return NONE;
        if (!within(n, 12)) return BAD;
        return seen.add(n, house);
    }

    public int can(int house, int which, int what) {
        if (!now.has(house) || !within(which, 1) || !within(what, 1)) return NONE;
        int many = 0;
        int least = NOT_THERE;
        int most = which == 0 ? 99 : 9;
        for (int number = 0; number <= most; number++) {
            trial.become(now);
            if (which == 0) trial.houses[house].base = number;
            else trial.houses[house].v = number;
            if (!allSeenGoesSo()) continue;
            if (many == 0) least = number;
            many++;
        }
        return what == 0 ? many : least;
    }

    /** Lets the THURSDAYS of the trial go, as far as SEEN tells of them. */
    private boolean allSeenGoesSo() {
        int last = -1;
        for (int i = 0; i < seen.size; i++) last = Math.max(last, seen.first[i]);
        for (int n = 0; n <= last; n++) {
            int host = trial.thursday();
            for (int i = 0; i < seen.size; i++) {
                if (seen.first[i] == n && seen.second[i] != host) return false;
            }
        }
        return true;
    }

    public long odds(int house, int part) {
        if (!now.has(house) || !within(part, 1)) return NO;
        int times = 0;
        for (int other = 0; other < now.size; other++) {
            trial.become(now);
            trial.houses[other].shut = true;
            if (trial.host() == house) times++;
        }
        return lowest(times, now.size, part);
    }

    public long mean(int n, int part) {
        if (!within(n, FARTHEST) || !within(part, 1) || now.size == 0) return NO;
        trial.become(now);
        trial.thursdays(n);
        int together = 0;
        for (int house = 0; house < trial.size; house++) together += trial.houses[house].dined;
        return lowest(together, trial.size, part);
    }

    private static long lowest(int above, int below, int part) {
        int divisor = divisor(above, below);
        if (divisor == 0) return NO;
        return (part == 0 ? above : below) / divisor;
    }

    private static int divisor(int one, int other) {
        int a = one;
        int b = other;
        // Two steps of Euclid halve what is left, so that 64 are enough for any two ints.
        for (int i = 0; i < 64 && b != 0; i++) {
            int left = a % b;
            a = b;
            b = left;
        }
        return a;
    }

    // ---- plans, books

    public int plan(int what, int house) {
        if (what == -1) return planned.empty();
        if (!within(what, 3) || (what != 0 && !now.has(house))) return NONE;
        return planned.add(what, house);
    }

    public int ends(int what) {
        if (!within(what, 1)) return NONE;
        trial.become(now);
        for (int i = 0; i < planned.size; i++) goAsPlanned(planned.first[i], planned.second[i]);
        return what == 0 ? trial.clashes : trial.hungry;
    }

    private void goAsPlanned(int what, int house) {
        if (what == 0) {
            trial.thursday();
            return;
        }
        House h = trial.at(house);
        if (h == null) return;
        if (what == 3) h.owes = 0;
        else h.shut = what == 1;
    }

    public int book(int house, int dined) {
        if (house == -1) return booked.empty();
        if (!now.has(house)) return NONE;
        if (!within(dined, LAST_WEEK)) return BAD;
        return booked.add(house, dined);
    }

    public int looked() {
        for (int i = 0; i < booked.size; i++) {
            House h = now.at(booked.first[i]);
            if (h != null && h.dined != booked.second[i]) return i;
        }
        return NOT_THERE;
    }

    // ---- judging, the image, acts, tapes

    public int judge(int tape, int i) {
        Tape t = tapeAt(tape);
        if (t == null) return NONE;
        if (t.sort != Tape.BYTES && t.sort != Tape.NO_SORT) return CAST;
        for (int k = 0; k < now.size; k++) {
            if (!t.has(i + k)) return 100 + k;
            if (t.items[i + k] != now.street[k]) return k;
        }
        return NOT_THERE;
    }

    public int image() {
        imaged.become(now);
        seenImaged.become(seen);
        plannedImaged.become(planned);
        bookedImaged.become(booked);
        hasImage = true;
        return now.size;
    }

    public int undo() {
        if (!hasImage) return STATE;
        now.become(imaged);
        seen.become(seenImaged);
        planned.become(plannedImaged);
        booked.become(bookedImaged);
        return now.size;
    }

    public int act(int house, int act, int x) {
        talk.forget();
        House h = now.at(house);
        if (h == null || !within(act, 2)) return 0;
        return talk.start(house, h, act, x);
    }

    public int trace(int i) {
        return i >= 0 && i < talk.kept() ? talk.trace[i] : NONE;
    }

    public int taken(int house, int k) {
        if (!within(k, TOLD)) return BAD;
        House h = now.at(house);
        if (h == null) return NOTHING;
        return Talk.isUnder(h.kind, k) ? h.kind : CAST;
    }

    public int count(int what) {
        switch (what) {
            case 0: return now.size;
            case 1: return towns;
            case 2: return seen.size;
            case 3: return planned.size;
            case 4: return booked.size;
            case 5: return text.size;
            case 6: return talk.ran;
            default: return BAD;
        }
    }

    public int tape(int tape, int sort, int n) {
        Tape t = tapeAt(tape);
        if (t == null) return NONE;
        if (sort != Tape.NO_SORT) {
            if (!within(sort, Tape.BOOLEANS) || n > Tape.LONGEST) return BAD;
            if (n < 0) return SIZE;
        }
        t.hold(sort, sort == Tape.NO_SORT ? 0 : n);
        return 1;
    }

    public int item(int tape, int i, long v) {
        Tape t = tapeAt(tape);
        if (t == null) return NONE;
        if (t.sort == Tape.NO_SORT) return NOTHING;
        if (!t.has(i)) return PLACE;
        t.items[i] = t.cut(v);
        return 1;
    }

    public long read(int tape, int i) {
        Tape t = tapeAt(tape);
        return t != null && t.has(i) ? t.items[i] : NO;
    }

    public int shift(int tape, int i, int other, int j, int n) {
        Tape from = tapeAt(tape);
        Tape to = tapeAt(other);
        if (from == null || to == null) return NONE;
        if (from.sort == Tape.NO_SORT || to.sort == Tape.NO_SORT) return NOTHING;
        if (from.sort != to.sort) return CAST;
        if (!from.hasAll(i, n) || !to.hasAll(j, n)) return PLACE;
        System.arraycopy(from.items, i, to.items, j, n);
        return n;
    }

    private Tape tapeAt(int tape) {
        return tape >= 0 && tape < tapes.length ? tapes[tape] : null;
    }

    private static boolean within(int n, int most) {
        return n >= 0 && n <= most;
    }

    private static int orNotThere(int house) {
        return house < 0 ? NOT_THERE : house;
    }

    /** What is one HOUSE's own. */
    private static final class House {
        int kind, v, base, owes, dined, trials;
        boolean shut;
        final int[] row = new int[4];

        void begin(int newKind, int newV, int newBase) {
            kind = newKind;
            v = newV;
            base = newBase;
            owes = 0;
            dined = 0;
            trials = 0;
            shut = false;
            for (int i = 0; i < row.length; i++) row[i] = 0;
        }

        void become(House other) {
            kind = other.kind;
            v = other.v;
            base = other.base;
            owes = other.owes;
            dined = other.dined;
            trials = other.trials;
            shut = other.shut;
            System.arraycopy(other.row, 0, row, 0, row.length);
        }
    }

    /**
     * How all is that a THURSDAY reads and changes. There are three, made once: what is so now, what THE IMAGE
     * holds, and one on which what is asked may go on without changing anything.
     */
    private static final class Scene {
        final House[] houses = new House[MOST_HOUSES];
        final int[] street = new int[MOST_HOUSES];
        int size, point, hungry, clashes, week;
        Town town;
        /** What a TEST may look at of one HOUSE; eight, so that no three bits point beyond it. */
        private final int[] facts = new int[8];

        Scene(Town holding) {
            town = holding;
            for (int i = 0; i < MOST_HOUSES; i++) houses[i] = new House();
        }

        void become(Scene other) {
            size = other.size;
            point = other.point;
            hungry = other.hungry;
            clashes = other.clashes;
            week = other.week;
            town = other.town;
            for (int i = 0; i < size; i++) {
                houses[i].become(other.houses[i]);
                street[i] = other.street[i];
            }
        }

        boolean has(int house) {
            return house >= 0 && house < size;
        }

        House at(int house) {
            return has(house) ? houses[house] : null;
        }

        int add(int kind, int v, int base) {
            if (size == MOST_HOUSES) return FULL;
            houses[size].begin(kind, v, base);
            street[size] = size;
            size++;
            return size - 1;
        }

        int placeOf(int house) {
            for (int place = 0; place < size; place++) {
                if (street[place] == house) return place;
            }
            return NONE;
        }

        void change(int one, int other) {
            int first = placeOf(one);
            int second = placeOf(other);
            if (first < 0 || second < 0) return;
            street[first] = other;
            street[second] = one;
        }

        int dread(int house) {
            House h = houses[house];
            facts[0] = house;
            facts[1] = h.kind;
            facts[2] = h.v;
            facts[3] = h.owes;
            facts[4] = h.dined % 10;
            facts[5] = week % 10;
            int sum = h.base + town.fearOf(facts);
            int riches = week % 4 == 2 ? h.v : 0;
            int used = Math.min(30, 3 * h.dined);
            switch (h.kind) {
                case RICH: return sum + riches;
                case PASTOR: return sum / 2;
                case WIDOW: return sum - used;
                case SHY: return (sum + riches) * (h.dined == 0 ? 2 : 1);
                case CHILDREN: return sum / 2 + h.owes;
                case TOLD: return sum - used + h.row[week & 3];
                default: return sum;
            }
        }

        boolean isIll(int house) {
            return houses[house].shut || dread(house) >= town.ill;
        }

        /** Who is HOST on this THURSDAY, or -1. */
        int host() {
            int place = hostPlace();
            return place < 0 ? -1 : street[place];
        }

        private int hostPlace() {
            for (int i = 0; i < size; i++) {
                int place = behindPoint(i);
                if (!isIll(street[place])) return place;
            }
            return -1;
        }

        /** The place i behind POINT, the first coming behind the last. */
        private int behindPoint(int i) {
            int place = point + i;
            return place < size ? place : place - size;
        }

        void thursdays(int n) {
            for (int i = 0; i < n; i++) thursday();
        }

        /**
         * One THURSDAY goes: who was HOST, or -1. DINED, HUNGRY and CLASHES are never more than the WEEKS that
         * went, so that they stay within 9999 as long as WEEK does.
         */
        int thursday() {
            int place = hostPlace();
            int host = place < 0 ? -1 : street[place];
            if (place < 0) hungry++;
            else dineAt(place);
            week++;
            return host;
        }

        private void dineAt(int place) {
            for (int i = 0; i < size && behindPoint(i) != place; i++) {
                House ill = houses[street[behindPoint(i)]];
                ill.owes = Math.min(9, ill.owes + 1);
            }
            House host = houses[street[place]];
            host.dined++;
            if ((host.trials >> (week & 7) & 1) != 0) clashes++;
            if (host.owes > 0) {
                host.owes--;
                point = place;
            } else {
                point = place + 1 < size ? place + 1 : 0;
            }
        }
    }

    /** Rows of two numbers told by hand: SEEN, the PLAN, the BOOK. */
    private static final class Rows {
        final int[] first, second;
        int size;

        Rows(int most) {
            first = new int[most];
            second = new int[most];
        }

        int add(int one, int other) {
            if (size == first.length) return FULL;
            first[size] = one;
            second[size] = other;
            size++;
            return size;
        }

        int empty() {
            size = 0;
            return 0;
        }

        void become(Rows other) {
            size = other.size;
            System.arraycopy(other.first, 0, first, 0, size);
            System.arraycopy(other.second, 0, second, 0, size);
        }
    }

    /**
     * The CLAUSES of a TOWN, as steps for a stack of bits: a TEST puts one there, the others take theirs from it.
     * A step is 64 times its number, 8 times its letter (0 .. 5), and what it does (0 .. 7).
     */
    private static final class Town {
        static final int LESS = 0, SAME = 1, MORE = 2, NOT = 3, AND = 4, OR = 5, FEAR = 6, EASE = 7;

        private final int[] steps;
        final int ill;

        Town(int[] written, int size, int illNumber) {
            steps = new int[size];
            System.arraycopy(written, 0, steps, 0, size);
            ill = illNumber;
        }

        /** The n of all fear whose E holds, less those of all ease. */
        int fearOf(int[] facts) {
            int sum = 0;
            int bits = 0;
            for (int step : steps) {
                int number = step >> 6;
                int fact = facts[step >> 3 & 7];
                switch (step & 7) {
                    case LESS:
                        bits = bits << 1 | (fact < number ? 1 : 0);
                        break;
                    case SAME:
                        bits = bits << 1 | (fact == number ? 1 : 0);
                        break;
                    case MORE:
                        bits = bits << 1 | (fact > number ? 1 : 0);
                        break;
                    case NOT:
                        bits ^= 1;
                        break;
                    case AND:
                        bits = bits >> 1 & (bits | ~1);
                        break;
                    case OR:
                        bits = bits >> 1 | bits & 1;
                        break;
                    case FEAR:
                        sum += bits * number;
                        bits = 0;
                        break;
                    default:
                        sum -= bits * number;
                        bits = 0;
                        break;
                }
            }
            return sum;
        }
    }

    /**
     * THE TEXT, and who reads it. What reads a part answers whether it is there; if not, the place stays at the
     * byte with which it can't go on, which is the FAULT.
     */
    private static final class Reader {
        private static final int LONGEST = 100, MOST_CLAUSES = 10, DEEPEST = 4;

        private final byte[] text = new byte[LONGEST];
        int size;
        private int at;
        /** A step is written for at least one byte each, so that there are no more of them than bytes. */
        private final int[] steps = new int[LONGEST];
        private int written, number, ill;

        int add(int sign) {
            if (size == LONGEST) return FULL;
            text[size] = (byte) sign;
            size++;
            return size;
        }

        int place() {
            return at;
        }

        /** THE TEXT, which is empty then, as a TOWN; null by a FAULT. */
        Town understand() {
            at = 0;
            written = 0;
            ill = ILL_WITHOUT;
            boolean fine = clause();
            for (int i = 1; i < MOST_CLAUSES && fine && sign(';'); i++) fine = clause();
            fine = fine && at == size;
            size = 0;
            return fine ? new Town(steps, written, ill) : null;
        }

        private boolean clause() {
            char first = at < size ? (char) text[at] : 0;
            if (first == 'i') {
                if (!word("ill ") || !number()) return false;
                ill = number;
                return true;
            }
            boolean fear = first == 'f';
            if (!word(fear ? "fear " : "ease ") || !number()) return false;
            int n = number;
            if (!sign(' ') || !either(0)) return false;
            write(n, 0, fear ? Town.FEAR : Town.EASE);
            return true;
        }

        /** E, within as many ( and ! as depth says. */
        private boolean either(int depth) {
            boolean fine = both(depth);
            for (int i = 0; i < LONGEST && fine && sign('|'); i++) {
                fine = both(depth);
                write(0, 0, Town.OR);
            }
            return fine;
        }

        /** T. */
        private boolean both(int depth) {
            boolean fine = factor(depth);
            for (int i = 0; i < LONGEST && fine && sign('&'); i++) {
                fine = factor(depth);
                write(0, 0, Town.AND);
            }
            return fine;
        }

        /** F. */
        private boolean factor(int depth) {
            int inside = depth;
            while (inside < DEEPEST && sign('!')) inside++;
            boolean fine = inside < DEEPEST && sign('(') ? either(inside + 1) && sign(')') : test();
            if ((inside - depth) % 2 == 1) write(0, 0, Town.NOT);
            return fine;
        }

        private boolean test() {
            int letter = at < size ? "pkvodw".indexOf((char) text[at]) : -1;
            if (letter < 0) return false;
            at++;
            int compared = at < size ? "<=>".indexOf((char) text[at]) : -1;
            if (compared < 0) return false;
            at++;
            if (!number()) return false;
            // LESS, SAME and MORE are 0, 1 and 2, as their signs stand.
            write(number, letter, compared);
            return true;
        }

        private boolean number() {
            int began = at;
            number = 0;
            for (int i = 0; i < 2 && at < size && text[at] >= '0' && text[at] <= '9'; i++) {
                number = 10 * number + text[at] - '0';
                at++;
            }
            return at > began;
        }

        private boolean word(String word) {
            for (int i = 0; i < word.length(); i++) {
                if (!sign(word.charAt(i))) return false;
            }
            return true;
        }

        private boolean sign(char sign) {
            if (at >= size || text[at] != sign) return false;
            at++;
            return true;
        }

        private void write(int n, int letter, int does) {
            if (written == LONGEST) return;
            steps[written] = 64 * n + 8 * letter + does;
            written++;
        }
    }

    /** One ACT, and THE TRACE of the latest. */
    private static final class Talk {
        private static final int ASKS = 0, TALKS = 1, TELLS = 2;
        private static final int MOST_KEPT = 20, DEEPEST = 40, MOST_ABOVE = 3;
        /** The KIND above each KIND; -1: none. */
        private static final int[] ABOVE = {-1, 0, 0, 0, 1, 2, 3};
        /** The body of each KIND for asks, talks, tells; 0: none. The tens are 1 more than its KIND. */
        private static final int[] BODIES = {
            10, 11, 12,
            0, 20, 0,
            30, 0, 0,
            0, 0, 40,
            50, 51, 0,
            0, 0, 60,
            71, 70, 0};

        final int[] trace = new int[MOST_KEPT];
        int ran;
        private int house, kind, v;

        static boolean isUnder(int kind, int other) {
            int k = kind;
            for (int i = 0; i < MOST_ABOVE && k >= 0; i++) {
                if (k == other) return true;
                k = ABOVE[k];
            }
            return false;
        }

        void forget() {
            ran = 0;
        }

        int kept() {
            return Math.min(ran, MOST_KEPT);
        }

        int start(int number, House h, int act, int x) {
            house = number;
            kind = h.kind;
            v = h.v;
            return find(act, kind, x, 0);
        }

        /** Runs the body of the KIND from, or of the next one above that has one. */
        private int find(int act, int from, int x, int depth) {
            int k = from;
            for (int i = 0; i < MOST_ABOVE && k >= 0; i++) {
                int body = BODIES[3 * k + act];
                if (body != 0) return run(body, k, x, depth);
                k = ABOVE[k];
            }
            return 0;
        }

        private int run(int body, int its, int x, int depth) {
            if (depth == DEEPEST) return 0;
            if (ran < MOST_KEPT) trace[ran] = body;
            ran++;
            int above = ABOVE[its];
            int deeper = depth + 1;
            switch (body) {
                case 10: return x + house;
                case 11: return find(ASKS, kind, x, deeper) - v;
                case 12: return find(TALKS, kind, x, deeper) * 2;
                case 20: return find(TALKS, above, x, deeper) ^ 6;
                case 30: return find(ASKS, above, x * 3, deeper);
                case 40: return find(TELLS, above, x, deeper) + find(TALKS, kind, 1, deeper);
                case 50: return -find(ASKS, above, x, deeper);
                case 51: return find(TALKS, above, x + 1, deeper);
                case 60: return find(TELLS, above, x - house, deeper);
                case 70: return find(TALKS, above, x, deeper) + find(ASKS, above, 2, deeper);
                case 71: return find(ASKS, above, x, deeper) ^ v;
                default: return 0;
            }
        }
    }

    /** One TAPE; its items are kept as longs that an item of its sort can be. */
    private static final class Tape {
        static final int NO_SORT = -1, BYTES = 0, SHORTS = 1, INTS = 2, LONGS = 3, BOOLEANS = 4;
        static final int LONGEST = 60;

        int sort = NO_SORT;
        private int size;
        final long[] items = new long[LONGEST];

        void hold(int newSort, int newSize) {
            sort = newSort;
            size = newSize;
            for (int i = 0; i < LONGEST; i++) items[i] = 0;
        }

        boolean has(int i) {
            return i >= 0 && i < size;
        }

        boolean hasAll(int i, int n) {
            return n >= 0 && n <= size && i >= 0 && i <= size - n;
        }

        long cut(long v) {
            switch (sort) {
                case BYTES: return (byte) v;
                case SHORTS: return (short) v;
                case INTS: return (int) v;
                case BOOLEANS: return v != 0 ? 1 : 0;
                default: return v;
            }
        }
    }
}
