import java.util.ArrayList;
import java.util.HashMap;
import java.util.HashSet;
import java.util.List;
import java.util.Map;
import java.util.Set;

/**
 * The document once more, slowly and by other means: each THURSDAY makes a new Situation, the KINDS are classes, and
 * a TOWN's E is read by splitting texts. It is compared with the program over many calls.
 */
final class HelperOracle {
    static final long NO = Long.MIN_VALUE;

    // ---- the KINDS

    static class House implements Cloneable {
        int number, kind, v, base, owes, dined, trials;
        boolean shut;
        int[] row = new int[4];

        House copy() {
            try {
                House h = (House) clone();
                h.row = row.clone();
                return h;
            } catch (CloneNotSupportedException e) {
                throw new IllegalStateException(e);
            }
        }

        int dread(Situation s) {
            return s.sum(this);
        }

        int asks(int x, List<Integer> trace) {
            trace.add(10);
            return x + number;
        }

        int talks(int x, List<Integer> trace) {
            trace.add(11);
            return asks(x, trace) - v;
        }

        int tells(int x, List<Integer> trace) {
            trace.add(12);
            return talks(x, trace) * 2;
        }
    }

    static class Rich extends House {
        int dread(Situation s) {
            return s.week % 4 == 2 ? s.sum(this) + v : s.sum(this);
        }

        int talks(int x, List<Integer> trace) {
            trace.add(20);
            return super.talks(x, trace) ^ 6;
        }
    }

    static class Pastor extends House {
        int dread(Situation s) {
            int sum = s.sum(this);
            return sum < 0 ? -(-sum / 2) : sum / 2;
        }

        int asks(int x, List<Integer> trace) {
            trace.add(30);
            return super.asks(x * 3, trace);
        }
    }

    static class Widow extends House {
        int dread(Situation s) {
            int less = 3 * dined;
            if (less > 30) less = 30;
            return s.sum(this) - less;
        }

        int tells(int x, List<Integer> trace) {
            trace.add(40);
            return super.tells(x, trace) + talks(1, trace);
        }
    }

    static class Shy extends Rich {
        int dread(Situation s) {
            return dined == 0 ? super.dread(s) * 2 : super.dread(s);
        }

        int asks(int x, List<Integer> trace) {
            trace.add(50);
            return -super.asks(x, trace);
        }

        int talks(int x, List<Integer> trace) {
            trace.add(51);
            return super.talks(x + 1, trace);
        }
    }

    static class Children extends Pastor {
        int dread(Situation s) {
            return super.dread(s) + owes;
        }

        int tells(int x, List<Integer> trace) {
            trace.add(60);
            return super.tells(x - number, trace);
        }
    }

    static class Told extends Widow {
        int dread(Situation s) {
            return super.dread(s) + row[s.week % 4];
        }

        int talks(int x, List<Integer> trace) {
            trace.add(70);
            return super.talks(x, trace) + super.asks(2, trace);
        }

        int asks(int x, List<Integer> trace) {
            trace.add(71);
            return super.asks(x, trace) ^ v;
        }
    }

    static House make(int kind) {
        switch (kind) {
            case 0: return new House();
            case 1: return new Rich();
            case 2: return new Pastor();
            case 3: return new Widow();
            case 4: return new Shy();
            case 5: return new Children();
            default: return new Told();
        }
    }

    // ---- how all is

    static final class Situation {
        List<House> houses = new ArrayList<>();
        List<Integer> street = new ArrayList<>();
        int point, hungry, clashes, week;
        int town = -1;
        List<String> towns;

        Situation(List<String> towns) {
            this.towns = towns;
        }

        Situation copy() {
            Situation s = new Situation(towns);
            for (House h : houses) s.houses.add(h.copy());
            s.street.addAll(street);
            s.point = point;
            s.hungry = hungry;
            s.clashes = clashes;
            s.week = week;
            s.town = town;
            return s;
        }

        List<String[]> clauses() {
            return town < 0 ? List.of() : HelperText.clauses(towns.get(town));
        }

        int illNumber() {
            int ill = 60;
            for (String[] clause : clauses()) {
                if (clause.length == 2) ill = Integer.parseInt(clause[1]);
            }
            return ill;
        }

        int sum(House h) {
            int sum = h.base;
            for (String[] clause : clauses()) {
                if (clause.length == 2 || !HelperText.holds(clause[2], letter -> fact(h, letter))) continue;
                int n = Integer.parseInt(clause[1]);
                sum += clause[0].equals("fear") ? n : -n;
            }
            return sum;
        }

        int fact(House h, char letter) {
            switch (letter) {
                case 'p': return h.number;
                case 'k': return h.kind;
                case 'v': return h.v;
                case 'o': return h.owes;
                case 'd': return h.dined % 10;
                default: return week % 10;
            }
        }

        boolean ill(House h) {
            return h.shut || h.dread(this) >= illNumber();
        }

        /** The houses from POINT on, one behind the other. */
        List<House> inTurn() {
            List<House> turn = new ArrayList<>();
            for (int i = point; i < street.size(); i++) turn.add(houses.get(street.get(i)));
            for (int i = 0; i < point && i < street.size(); i++) turn.add(houses.get(street.get(i)));
            return turn;
        }

        int host() {
            for (House h : inTurn()) {
                if (!ill(h)) return h.number;
            }
            return -1;
        }

        Situation then() {
            Situation s = copy();
            s.week = week + 1;
            int host = host();
            if (host < 0) {
                s.hungry = hungry + 1;
                return s;
            }
            for (House h : inTurn()) {
                if (h.number == host) break;
                s.houses.get(h.number).owes = h.owes == 9 ? 9 : h.owes + 1;
            }
            House h = s.houses.get(host);
            h.dined++;
            if ((h.trials & 1 << week % 8) != 0) s.clashes++;
            int place = street.indexOf(host);
            if (h.owes > 0) {
                h.owes--;
                s.point = place;
            } else {
                s.point = (place + 1) % street.size();
            }
            return s;
        }

        Situation then(int n) {
            Situation s = this;
            for (int i = 0; i < n; i++) s = s.then();
            return s;
        }

        void change(int one, int other) {
            int a = street.indexOf(one);
            int b = street.indexOf(other);
            street.set(a, other);
            street.set(b, one);
        }
    }

    // ---- all of an object

    List<String> towns = new ArrayList<>();
    Situation now = new Situation(towns);
    Situation image;
    List<int[]> seen = new ArrayList<>(), plan = new ArrayList<>(), book = new ArrayList<>();
    List<int[]> seenThen, planThen, bookThen;
    StringBuilder text = new StringBuilder();
    List<Integer> trace = new ArrayList<>();
    int[] sorts = {-1, -1, -1, -1, -1, -1};
    long[][] tapes = new long[6][0];

    private boolean is(int house) {
        return house >= 0 && house < now.houses.size();
    }

    private static boolean out(int n, int least, int most) {
        return n < least || n > most;
    }

    int house(int kind, int v, int base) {
        if (out(kind, 0, 6)) return -1;
        if (out(v, 0, 9)) return -2;
        if (out(base, 0, 99)) return -2;
        if (now.houses.size() >= 6) return -4;
        House h = make(kind);
        h.number = now.houses.size();
        h.kind = kind;
        h.v = v;
        h.base = base;
        now.houses.add(h);
        now.street.add(h.number);
        return h.number;
    }

    int of(int house, int what) {
        if (!is(house) || out(what, 0, 10)) return -10001;
        House h = now.houses.get(house);
        int comes = -5;
        if (what == 9) {
            Situation s = now;
            for (int n = 0; n <= 60; n++) {
                if (s.host() == house && comes < 0) comes = n;
                s = s.then();
            }
        }
        int[] all = {h.kind, h.v, h.base, h.owes, h.dined, h.trials, h.shut ? 1 : 0, h.dread(now),
            now.ill(h) ? 1 : 0, comes, now.street.indexOf(house)};
        return all[what];
    }

    int set(int house, int what, int n) {
        if (!is(house) || out(what, 0, 2)) return -1;
        if (out(n, 0, new int[] {99, 9, 255}[what])) return -2;
        int was = of(house, new int[] {2, 3, 5}[what]);
        House h = now.houses.get(house);
        if (what == 0) h.base = n;
        if (what == 1) h.owes = n;
        if (what == 2) h.trials = n;
        return was;
    }

    int shut(int house, boolean is) {
        if (!is(house)) return -1;
        int was = of(house, 6);
        now.houses.get(house).shut = is;
        return was;
    }

    int swap(int one, int other) {
        if (!is(one) || !is(other)) return -1;
        if (one == other) return -2;
        now.change(one, other);
        return of(one, 10);
    }

    int row(int house, int part, int n) {
        if (!is(house) || out(part, 0, 3)) return -1;
        if (out(n, 0, 9)) return -2;
        House h = now.houses.get(house);
        if (!(h instanceof Told)) return -3;
        int was = h.row[part];
        h.row[part] = n;
        return was;
    }

    int feed(int sign) {
        if (out(sign, 0, 127)) return -2;
        if (text.length() >= 100) return -4;
        text.append((char) sign);
        return text.length();
    }

    int town() {
        if (towns.size() == 6) return -4;
        String t = text.toString();
        text.setLength(0);
        int fault = HelperText.fault(t);
        if (fault >= 0) return -10 - fault;
        towns.add(t);
        now.town = towns.size() - 1;
        return now.town;
    }

    int told(int what) {
        if (what == 0) return now.week;
        if (what == 1) return now.illNumber();
        if (what == 2) return now.point;
        if (what == 3) return now.hungry;
        if (what == 4) return now.clashes;
        if (what == 5) return now.host() < 0 ? -5 : now.host();
        if (what == 6) {
            int bits = 0;
            for (House h : now.houses) bits += now.ill(h) ? 1 << h.number : 0;
            return bits;
        }
        if (out(what, 10, 9 + now.street.size())) return -1;
        return now.street.get(what - 10);
    }

    int pass(int n) {
        if (out(n, 0, 60)) return -2;
        if (now.week + n > 9999) return -3;
        now = now.then(n);
        return now.week;
    }

    int on(int n, int what) {
        int size = now.houses.size();
        boolean dined = !out(what, 10, 9 + size);
        boolean owes = !out(what, 20, 19 + size);
        if (out(what, 0, 2) && !dined && !owes) return -1;
        if (out(n, 0, 60)) return -2;
        Situation s = now.then(n);
        if (dined) return s.houses.get(what % 10).dined;
        if (owes) return s.houses.get(what % 10).owes;
        if (what == 1) return s.clashes;
        if (what == 2) return s.hungry;
        return s.host() < 0 ? -5 : s.host();
    }

    int doors(int n) {
        if (out(n, 1, 20)) return -2;
        int least = Integer.MAX_VALUE;
        int pair = -5;
        for (int both = 59; both >= 0; both--) {
            int one = both / 10;
            int other = both % 10;
            if (!is(one) || !is(other) || one >= other) continue;
            Situation s = now.copy();
            s.change(one, other);
            int clashes = s.then(n).clashes;
            if (clashes <= least) {
                least = clashes;
                pair = both;
            }
        }
        return least < now.then(n).clashes ? pair : -5;
    }

    private int dinedFeigning(Set<Integer> set, int n, int house, Map<Set<Integer>, Situation> known) {
        return known.computeIfAbsent(set, key -> feigning(key, n)).houses.get(house).dined;
    }

    private Situation feigning(Set<Integer> set, int n) {
        Situation s = now.copy();
        for (int h : set) s.houses.get(h).shut = true;
        s = s.then();
        for (House h : s.houses) h.shut = now.houses.get(h.number).shut;
        return s.then(n - 1);
    }

    int feign(int n, int what) {
        if (out(what, 0, 1)) return -1;
        if (out(n, 1, 6)) return -2;
        Map<Set<Integer>, Situation> known = new HashMap<>();
        int many = 0;
        int least = -5;
        for (int bits = (1 << now.houses.size()) - 1; bits >= 0; bits--) {
            Set<Integer> set = new HashSet<>();
            boolean open = true;
            for (House h : now.houses) {
                if ((bits & 1 << h.number) == 0) continue;
                set.add(h.number);
                open &= !h.shut;
            }
            if (!open) continue;
            boolean rests = true;
            for (House h : now.houses) {
                if (h.shut || !rests) continue;
                Set<Integer> otherwise = new HashSet<>(set);
                if (!otherwise.remove(h.number)) otherwise.add(h.number);
                rests = dinedFeigning(otherwise, n, h.number, known) >= dinedFeigning(set, n, h.number, known);
            }
            if (!rests) continue;
            many++;
            least = bits;
        }
        return what == 0 ? many : least;
    }

    int see(int n, int house) {
        if (n == -1) {
            seen.clear();
            return 0;
        }
        if (house != -1 && !is(house)) return -1;
        if (out(n, 0, 12)) return -2;
        if (seen.size() == 5) return -4;
        seen.add(new int[] {n, house});
        return seen.size();
    }

    int can(int house, int which, int what) {
        if (!is(house) || out(which, 0, 1) || out(what, 0, 1)) return -1;
        int many = 0;
        int least = -5;
        for (int number = which == 0 ? 99 : 9; number >= 0; number--) {
            Situation s = now.copy();
            if (which == 0) s.houses.get(house).base = number;
            else s.houses.get(house).v = number;
            boolean so = true;
            for (int[] row : seen) so = so && s.then(row[0]).host() == row[1];
            if (!so) continue;
            many++;
            least = number;
        }
        return what == 0 ? many : least;
    }

    private static long lowest(int above, int below, int part) {
        for (int d = below; d > 1; d--) {
            if (above % d == 0 && below % d == 0) return part == 0 ? above / d : below / d;
        }
        return part == 0 ? above : below;
    }

    long odds(int house, int part) {
        if (!is(house) || out(part, 0, 1)) return NO;
        int times = 0;
        for (House h : now.houses) {
            Situation s = now.copy();
            s.houses.get(h.number).shut = true;
            if (s.host() == house) times++;
        }
        return lowest(times, now.houses.size(), part);
    }

    long mean(int n, int part) {
        if (out(n, 0, 60) || out(part, 0, 1) || now.houses.isEmpty()) return NO;
        int together = 0;
        for (House h : now.then(n).houses) together += h.dined;
        return lowest(together, now.houses.size(), part);
    }

    int plan(int what, int house) {
        if (what == -1) {
            plan.clear();
            return 0;
        }
        if (out(what, 0, 3)) return -1;
        if (what > 0 && !is(house)) return -1;
        if (plan.size() == 10) return -4;
        plan.add(new int[] {what, house});
        return plan.size();
    }

    int ends(int what) {
        if (out(what, 0, 1)) return -1;
        Situation s = now.copy();
        for (int[] row : plan) {
            if (row[0] == 0) s = s.then();
            if (row[0] == 1) s.houses.get(row[1]).shut = true;
            if (row[0] == 2) s.houses.get(row[1]).shut = false;
            if (row[0] == 3) s.houses.get(row[1]).owes = 0;
        }
        return what == 0 ? s.clashes : s.hungry;
    }

    int book(int house, int dined) {
        if (house == -1) {
            book.clear();
            return 0;
        }
        if (!is(house)) return -1;
        if (out(dined, 0, 9999)) return -2;
        if (book.size() == 8) return -4;
        book.add(new int[] {house, dined});
        return book.size();
    }

    int looked() {
        for (int[] row : book) {
            if (now.houses.get(row[0]).dined != row[1]) return book.indexOf(row);
        }
        return -5;
    }

    int judge(int tape, int i) {
        if (out(tape, 0, 5)) return -1;
        if (sorts[tape] > 0) return -12;
        if (now.street.isEmpty()) return -5;
        int looked = 0;
        for (int house : now.street) {
            long at = (long) i + looked;
            if (i < 0 || at >= tapes[tape].length) return 100 + looked;
            if (tapes[tape][(int) at] != house) return looked;
            looked++;
        }
        return -5;
    }

    int image() {
        image = now.copy();
        seenThen = new ArrayList<>(seen);
        planThen = new ArrayList<>(plan);
        bookThen = new ArrayList<>(book);
        return now.houses.size();
    }

    int undo() {
        if (image == null) return -3;
        now = image.copy();
        seen = new ArrayList<>(seenThen);
        plan = new ArrayList<>(planThen);
        book = new ArrayList<>(bookThen);
        return now.houses.size();
    }

    int act(int house, int act, int x) {
        trace = new ArrayList<>();
        if (!is(house) || out(act, 0, 2)) return 0;
        House h = now.houses.get(house);
        if (act == 0) return h.asks(x, trace);
        if (act == 1) return h.talks(x, trace);
        return h.tells(x, trace);
    }

    int trace(int i) {
        return i >= 0 && i < trace.size() && i < 20 ? trace.get(i) : -1;
    }

    int taken(int house, int k) {
        if (out(k, 0, 6)) return -2;
        if (!is(house)) return -11;
        House h = now.houses.get(house);
        return make(k).getClass().isInstance(h) ? h.kind : -12;
    }

    int count(int what) {
        if (out(what, 0, 6)) return -2;
        return new int[] {now.houses.size(), towns.size(), seen.size(), plan.size(), book.size(), text.length(), trace.size()}[what];
    }

    int tape(int tape, int sort, int n) {
        if (out(tape, 0, 5)) return -1;
        if (sort == -1) {
            sorts[tape] = -1;
            tapes[tape] = new long[0];
            return 1;
        }
        if (out(sort, 0, 4) || n > 60) return -2;
        if (n < 0) return -14;
        sorts[tape] = sort;
        tapes[tape] = new long[n];
        return 1;
    }

    int item(int tape, int i, long v) {
        if (out(tape, 0, 5)) return -1;
        if (sorts[tape] < 0) return -11;
        if (i < 0 || i >= tapes[tape].length) return -13;
        long[] as = {(byte) v, (short) v, (int) v, v, v == 0 ? 0 : 1};
        tapes[tape][i] = as[sorts[tape]];
        return 1;
    }

    long read(int tape, int i) {
        if (out(tape, 0, 5) || i < 0 || i >= tapes[tape].length) return NO;
        return tapes[tape][i];
    }

    int shift(int tape, int i, int other, int j, int n) {
        if (out(tape, 0, 5) || out(other, 0, 5)) return -1;
        if (sorts[tape] < 0 || sorts[other] < 0) return -11;
        if (sorts[tape] != sorts[other]) return -12;
        if (n < 0 || i < 0 || j < 0) return -13;
        if ((long) i + n > tapes[tape].length || (long) j + n > tapes[other].length) return -13;
        long[] before = tapes[tape].clone();
        for (int k = 0; k < n; k++) tapes[other][j + k] = before[i + k];
        return n;
    }
}
