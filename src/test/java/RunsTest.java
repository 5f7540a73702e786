import java.util.Random;

/** Runs of calls, by fixed seeds, on the program and on the oracle: each call's answers must be alike. */
public final class RunsTest {
    /** An object is used for at most 512 calls; the longest step makes 8 of them, but for a town, which looks ahead itself. */
    private static final int CALLS = 512 - 8;
    private static final int[] EDGES = {Integer.MIN_VALUE, Integer.MIN_VALUE + 9, -14, -2, -1, 0, 1, 6, 7, 9, 10, 60, 61, 99, 100,
        255, 256, 9999, 10000, Integer.MAX_VALUE - 5, Integer.MAX_VALUE};

    private final Random random;
    private final HangmanDinner x = new HangmanDinner();
    private final HelperOracle o = new HelperOracle();
    private final int run;
    /** How often a number is one that fits nowhere, out of a hundred. */
    private final int wild;
    private int calls = 0;

    private RunsTest(int run) {
        this.run = run;
        random = new Random(run);
        wild = run % 4 == 0 ? 15 : 3;
    }

    public static void main(String[] args) {
        int runs = args.length > 0 ? Integer.parseInt(args[0]) : 150;
        for (int run = 0; run < runs; run++) new RunsTest(run).go();
        texts(4000);
        HelperDue.end();
    }

    private void due(String call, long got, long want) {
        calls++;
        HelperDue.due("run " + run + ", call " + calls + ": " + call, got, want);
    }

    private int in(int least, int most) {
        if (random.nextInt(100) < wild) return EDGES[random.nextInt(EDGES.length)];
        if (random.nextInt(100) < 2) return random.nextBoolean() ? least - 1 : most + 1;
        return least + random.nextInt(most - least + 1);
    }

    private int house() {
        return in(0, Math.max(0, o.now.houses.size() - 1));
    }

    private void go() {
        int houses = random.nextInt(7);
        for (int i = 0; i < houses; i++) newHouse();
        while (calls <= CALLS) {
            int which = random.nextInt(33);
            if (which < 4) build(which);
            else if (which < 9) change(which);
            else if (which < 19) ask(which);
            else if (which < 25) tell(which);
            else rest(which);
        }
    }

    private void newHouse() {
        int kind = in(0, 6);
        int v = in(0, 9);
        int base = in(0, 99);
        due("house(" + kind + ", " + v + ", " + base + ")", x.house(kind, v, base), o.house(kind, v, base));
        if (random.nextInt(3) == 0) return;
        int house = house();
        int trials = in(0, 255);
        due("set(" + house + ", 2, " + trials + ")", x.set(house, 2, trials), o.set(house, 2, trials));
    }

    private void build(int which) {
        if (which == 0 && random.nextInt(6) == 0) newHouse();
        if (which == 1 && calls < CALLS - 110) feedTown();
        if (which == 2) {
            int sign = in(0, 127);
            if (random.nextInt(8) == 0) due("feed(" + sign + ")", x.feed(sign), o.feed(sign));
        }
        if (which == 3 && random.nextInt(4) == 0) due("town()", x.town(), o.town());
    }

    private void feedTown() {
        String town = new HelperWriter(random).town(60);
        for (int i = 0; i < town.length(); i++) due("feed(" + town.charAt(i) + ")", x.feed(town.charAt(i)), o.feed(town.charAt(i)));
        due("town() of " + o.text, x.town(), o.town());
        due("told(1)", x.told(1), o.told(1));
    }

    private void change(int which) {
        int house = house();
        if (which == 4) {
            int what = in(0, 2);
            int n = in(0, what == 0 ? 99 : what == 1 ? 9 : 255);
            due("set(" + house + ", " + what + ", " + n + ")", x.set(house, what, n), o.set(house, what, n));
        } else if (which == 5) {
            boolean is = random.nextInt(3) == 0;
            due("shut(" + house + ", " + is + ")", x.shut(house, is), o.shut(house, is));
        } else if (which == 6) {
            int other = house();
            due("swap(" + house + ", " + other + ")", x.swap(house, other), o.swap(house, other));
        } else if (which == 7) {
            int part = in(0, 3);
            int n = in(0, 9);
            due("row(" + house + ", " + part + ", " + n + ")", x.row(house, part, n), o.row(house, part, n));
        } else {
            int n = random.nextInt(6) == 0 ? in(0, 60) : in(0, 5);
            due("pass(" + n + ")", x.pass(n), o.pass(n));
        }
    }

    private void ask(int which) {
        int house = house();
        int part = in(0, 1);
        if (which == 9 || which == 10) {
            int what = in(0, 10);
            due("of(" + house + ", " + what + ")", x.of(house, what), o.of(house, what));
        } else if (which == 11 || which == 12) {
            int what = in(0, 16);
            due("told(" + what + ")", x.told(what), o.told(what));
        } else if (which == 13) {
            int n = in(0, 60);
            int what = in(0, 26);
            due("on(" + n + ", " + what + ")", x.on(n, what), o.on(n, what));
        } else if (which == 14) {
            int n = in(1, 20);
            due("doors(" + n + ")", x.doors(n), o.doors(n));
        } else if (which == 15) {
            int n = in(1, 6);
            due("feign(" + n + ", " + part + ")", x.feign(n, part), o.feign(n, part));
        } else if (which == 16) {
            int what = in(0, 1);
            due("can(" + house + ", " + part + ", " + what + ")", x.can(house, part, what), o.can(house, part, what));
        } else if (which == 17) {
            due("odds(" + house + ", " + part + ")", x.odds(house, part), o.odds(house, part));
        } else {
            int n = in(0, 60);
            due("mean(" + n + ", " + part + ")", x.mean(n, part), o.mean(n, part));
        }
    }

    private void tell(int which) {
        int house = random.nextInt(10) == 0 ? -1 : house();
        if (which == 19) {
            int n = random.nextInt(8) == 0 ? -1 : in(0, 12);
            // Mostly what is so, that BASES and CAN are not all empty.
            int host = o.now.then(Math.max(0, Math.min(n, 12))).host();
            int who = random.nextInt(4) == 0 ? house : host;
            due("see(" + n + ", " + who + ")", x.see(n, who), o.see(n, who));
        } else if (which == 20) {
            int what = random.nextInt(20) == 0 ? -1 : in(0, 3);
            due("plan(" + what + ", " + house + ")", x.plan(what, house), o.plan(what, house));
        } else if (which == 21) {
            int what = in(0, 1);
            due("ends(" + what + ")", x.ends(what), o.ends(what));
        } else if (which == 22) {
            boolean so = house >= 0 && house < o.now.houses.size() && random.nextInt(4) > 0;
            int dined = so ? o.now.houses.get(house).dined : in(0, 9999);
            due("book(" + house + ", " + dined + ")", x.book(house, dined), o.book(house, dined));
        } else if (which == 23) {
            due("looked()", x.looked(), o.looked());
        } else if (random.nextBoolean()) {
            if (random.nextInt(4) == 0) due("image()", x.image(), o.image());
        } else if (random.nextInt(4) == 0) {
            due("undo()", x.undo(), o.undo());
        }
    }

    private void rest(int which) {
        int house = house();
        int tape = in(0, 5);
        int i = in(0, 8);
        if (which == 25) {
            int act = in(0, 2);
            int n = random.nextInt(4) == 0 ? random.nextInt() : in(-9, 9);
            due("act(" + house + ", " + act + ", " + n + ")", x.act(house, act, n), o.act(house, act, n));
        } else if (which == 26) {
            due("trace(" + i + ")", x.trace(i), o.trace(i));
        } else if (which == 27) {
            due("taken(" + house + ", " + i + ")", x.taken(house, i), o.taken(house, i));
        } else if (which == 28) {
            due("count(" + i + ")", x.count(i), o.count(i));
        } else if (which == 29) {
            int sort = in(-1, 4);
            int n = random.nextInt(4) == 0 ? in(0, 60) : in(2, 9);
            due("tape(" + tape + ", " + sort + ", " + n + ")", x.tape(tape, sort, n), o.tape(tape, sort, n));
        } else if (which == 30) {
            long v = random.nextBoolean() ? random.nextLong() : random.nextInt(6);
            due("item(" + tape + ", " + i + ", " + v + ")", x.item(tape, i, v), o.item(tape, i, v));
            due("read(" + tape + ", " + i + ")", x.read(tape, i), o.read(tape, i));
        } else if (which == 31) {
            int other = in(0, 5);
            int j = in(0, 5);
            int n = in(0, 5);
            due("shift(" + tape + ", " + i + ", " + other + ", " + j + ", " + n + ")", x.shift(tape, i, other, j, n), o.shift(tape, i, other, j, n));
        } else if (random.nextBoolean()) {
            streetOnTape(tape);
        } else {
            due("judge(" + tape + ", " + i + ")", x.judge(tape, i), o.judge(tape, i));
        }
    }

    private void streetOnTape(int tape) {
        int at = random.nextInt(3);
        int size = Math.max(0, at + o.now.street.size() - random.nextInt(3) + random.nextInt(3));
        due("tape(" + tape + ", 0, " + size + ")", x.tape(tape, 0, size), o.tape(tape, 0, size));
        for (int k = 0; k < o.now.street.size(); k++) {
            int house = random.nextInt(12) == 0 ? 0 : o.now.street.get(k);
            due("item(" + tape + ", " + (at + k) + ", " + house + ")", x.item(tape, at + k, house), o.item(tape, at + k, house));
        }
        due("judge(" + tape + ", " + at + ")", x.judge(tape, at), o.judge(tape, at));
    }

    /** Texts alone, long ones too. */
    private static void texts(int many) {
        Random random = new Random(77);
        for (int i = 0; i < many; i++) {
            String text = new HelperWriter(random).town(100);
            int fault = HelperText.fault(text);
            HelperDue.due("town() of " + text, HelperDue.town(new HangmanDinner(), text), fault < 0 ? 0 : -10 - fault);
        }
    }
}
