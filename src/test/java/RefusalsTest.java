import java.util.ArrayList;
import java.util.List;

/**
 * "Answers: NONE .. BAD .. STATE .. FULL; the first that a call's words name .. What is answered so changes nothing; what
 * is asked changes nothing." Each promise: what it refuses, by each number that is one off and far off, with what in which
 * order, and that an object that refused it all answers as one that was never asked.
 */
public final class RefusalsTest {
    private static final int MIN = Integer.MIN_VALUE, MAX = Integer.MAX_VALUE;
    private static final long NO = Long.MIN_VALUE;
    private static final int NONE = -1, BAD = -2, STATE = -3, FULL = -4, LOW = -10001;
    private static final int NOTHING = -11, CAST = -12, PLACE = -13, SIZE = -14;

    /** Of the busy object, which has houses 0 to 3. */
    private static final int[] NO_HOUSES = {4, -1, 5, 6, MIN, MAX};
    private static final int[] NO_TAPES = {6, -1, MIN, MAX};

    private interface Call {
        long of(HangmanDinner x);
    }

    private static final List<Call> calls = new ArrayList<>();

    private static void refused(String call, long want, Call c) {
        HelperDue.due(call, c.of(HelperState.busy()), want);
        calls.add(c);
    }

    private static void whenFull(String call, long want, Call c) {
        HelperDue.due("full: " + call, c.of(HelperState.full()), want);
        calls.add(c);
    }

    /** Lets one object refuse all that was refused since, as many as it has calls for, and compares it with another one. */
    private static void changedNothing(String promise, HangmanDinner x, HangmanDinner other, int most) {
        HelperDue.due(promise + ": not too many calls for one object", calls.size() <= most);
        for (Call c : calls) c.of(x);
        calls.clear();
        HelperDue.due(promise + " changes nothing", HelperState.tell(x).equals(HelperState.tell(other)));
    }

    private static void busyStays(String promise) {
        changedNothing(promise, HelperState.busy(), HelperState.busy(), 150);
    }

    private static void fullStays(String promise) {
        changedNothing(promise, HelperState.full(), HelperState.full(), 60);
    }

    public static void main(String[] args) {
        busyIsNotAsOthers();
        house();
        of();
        set();
        shut();
        swap();
        row();
        feedAndTown();
        told();
        pass();
        on();
        doorsAndFeign();
        see();
        can();
        oddsAndMean();
        planAndEnds();
        book();
        judge();
        undo();
        act();
        trace();
        taken();
        count();
        tape();
        item();
        read();
        shift();
        askingChangesNothing();
        HelperDue.end();
    }

    /** The comparison itself sees each change. */
    private static void busyIsNotAsOthers() {
        Call[] changes = {x -> x.house(0, 0, 0), x -> x.set(0, 0, 11), x -> x.set(1, 1, 9), x -> x.set(2, 2, 1), x -> x.shut(1, true),
            x -> x.swap(0, 1), x -> x.row(2, 0, 9), x -> x.feed(' '), x -> x.town(), x -> x.pass(1), x -> x.see(3, 0),
            x -> x.see(-1, 0), x -> x.plan(0, 0), x -> x.plan(-1, 0), x -> x.book(0, 0), x -> x.book(-1, 0), x -> x.image(),
            x -> x.undo(), x -> x.act(0, 0, 0), x -> x.act(9, 0, 0), x -> x.tape(0, -1, 0), x -> x.tape(5, 0, 0),
            x -> x.item(0, 0, 1), x -> x.shift(0, 1, 0, 0, 2)};
        List<Long> all = HelperState.tell(HelperState.busy());
        HelperDue.due("busy is as busy", all.equals(HelperState.tell(HelperState.busy())));
        for (int i = 0; i < changes.length; i++) {
            HangmanDinner x = HelperState.busy();
            HelperDue.due("change " + i + " is done", changes[i].of(x) > -10 || i == 8);
            HelperDue.due("change " + i + " is seen", !all.equals(HelperState.tell(x)));
        }
    }

    private static void house() {
        int[] kinds = {7, -1, MIN, MAX};
        int[] vs = {10, -1, MIN, MAX};
        int[] bases = {100, -1, MIN, MAX};
        for (int kind : kinds) {
            for (int v : vs) refused("house(" + kind + ", " + v + ", 100)", NONE, x -> x.house(kind, v, 100));
            refused("house(" + kind + ", 0, 0)", NONE, x -> x.house(kind, 0, 0));
        }
        for (int v : vs) {
            for (int base : bases) refused("house(0, " + v + ", " + base + ")", BAD, x -> x.house(0, v, base));
            refused("house(6, " + v + ", 0)", BAD, x -> x.house(6, v, 0));
        }
        for (int base : bases) refused("house(0, 0, " + base + ")", BAD, x -> x.house(0, 0, base));
        busyStays("house");
        whenFull("house(0, 0, 0)", FULL, x -> x.house(0, 0, 0));
        whenFull("house(6, 9, 99)", FULL, x -> x.house(6, 9, 99));
        whenFull("house(7, 0, 0)", NONE, x -> x.house(7, 0, 0));
        whenFull("house(0, 10, 0)", BAD, x -> x.house(0, 10, 0));
        whenFull("house(0, 0, -1)", BAD, x -> x.house(0, 0, -1));
        fullStays("house");
    }

    private static void of() {
        int[] whats = {11, -1, 20, MIN, MAX};
        for (int house : NO_HOUSES) {
            for (int what = 0; what <= 10; what++) {
                int w = what;
                refused("of(" + house + ", " + what + ")", LOW, x -> x.of(house, w));
            }
            refused("of(" + house + ", 11)", LOW, x -> x.of(house, 11));
        }
        for (int what : whats) refused("of(0, " + what + ")", LOW, x -> x.of(0, what));
        busyStays("of");
    }

    private static void set() {
        int[] whats = {3, -1, 10, MIN, MAX};
        int[] ns = {0, 300, -1};
        for (int n : ns) {
            for (int house : NO_HOUSES) {
                for (int what = -1; what <= 3; what++) {
                    int w = what;
                    refused("set(" + house + ", " + what + ", " + n + ")", NONE, x -> x.set(house, w, n));
                }
            }
            for (int what : whats) refused("set(3, " + what + ", " + n + ")", NONE, x -> x.set(3, what, n));
        }
        int[][] bads = {{100, -1, MIN, MAX}, {10, -1, MIN, MAX}, {256, -1, MIN, MAX}};
        for (int what = 0; what < 3; what++) {
            for (int n : bads[what]) {
                int w = what;
                refused("set(0, " + what + ", " + n + ")", BAD, x -> x.set(0, w, n));
            }
        }
        busyStays("set");
    }

    private static void shut() {
        for (int house : NO_HOUSES) {
            refused("shut(" + house + ", true)", NONE, x -> x.shut(house, true));
            refused("shut(" + house + ", false)", NONE, x -> x.shut(house, false));
        }
        busyStays("shut");
    }

    private static void swap() {
        for (int house : NO_HOUSES) {
            refused("swap(0, " + house + ")", NONE, x -> x.swap(0, house));
            refused("swap(" + house + ", 3)", NONE, x -> x.swap(house, 3));
            refused("swap(" + house + ", " + house + ")", NONE, x -> x.swap(house, house));
        }
        for (int house = 0; house < 4; house++) {
            int h = house;
            refused("swap(" + house + ", " + house + ")", BAD, x -> x.swap(h, h));
        }
        busyStays("swap");
    }

    private static void row() {
        int[] parts = {4, -1, MIN, MAX};
        int[] bads = {10, -1, MIN, MAX};
        for (int house : NO_HOUSES) {
            refused("row(" + house + ", 0, 0)", NONE, x -> x.row(house, 0, 0));
            refused("row(" + house + ", 4, 10)", NONE, x -> x.row(house, 4, 10));
            refused("row(" + house + ", 0, -1)", NONE, x -> x.row(house, 0, -1));
        }
        for (int part : parts) {
            refused("row(2, " + part + ", 0)", NONE, x -> x.row(2, part, 0));
            refused("row(2, " + part + ", 10)", NONE, x -> x.row(2, part, 10));
            refused("row(0, " + part + ", 0) of another kind", NONE, x -> x.row(0, part, 0));
            refused("row(0, " + part + ", 10) of another kind", NONE, x -> x.row(0, part, 10));
        }
        for (int n : bads) {
            refused("row(2, 3, " + n + ")", BAD, x -> x.row(2, 3, n));
            refused("row(3, 3, " + n + ") of another kind", BAD, x -> x.row(3, 3, n));
        }
        int[] others = {0, 1, 3};
        for (int house : others) {
            refused("row(" + house + ", 0, 0)", STATE, x -> x.row(house, 0, 0));
            refused("row(" + house + ", 3, 9)", STATE, x -> x.row(house, 3, 9));
        }
        busyStays("row");
        for (int house = 0; house < 6; house++) {
            int h = house;
            whenFull("row(" + house + ", 0, 0) of kind " + house, STATE, x -> x.row(h, 0, 0));
        }
        fullStays("row");
    }

    private static void feedAndTown() {
        int[] signs = {128, -1, 255, 256, MIN, MAX};
        for (int sign : signs) refused("feed(" + sign + ")", BAD, x -> x.feed(sign));
        busyStays("feed");
        for (int sign : signs) whenFull("feed(" + sign + ")", BAD, x -> x.feed(sign));
        whenFull("feed(0)", FULL, x -> x.feed(0));
        whenFull("feed(127)", FULL, x -> x.feed(127));
        whenFull("feed('f')", FULL, x -> x.feed('f'));
        whenFull("town()", FULL, x -> x.town());
        fullStays("feed and town");
    }

    private static void told() {
        int[] whats = {7, 8, 9, -1, 14, 15, 16, 20, 24, MIN, MIN + 10, MAX, MAX - 3};
        for (int what : whats) refused("told(" + what + ")", NONE, x -> x.told(what));
        busyStays("told");
        int[] more = {7, 9, 16, 17};
        for (int what : more) whenFull("told(" + what + ")", NONE, x -> x.told(what));
        fullStays("told");
    }

    private static void pass() {
        int[] bads = {61, -1, 100, MIN, MAX};
        for (int n : bads) refused("pass(" + n + ")", BAD, x -> x.pass(n));
        busyStays("pass");
        HangmanDinner x = HelperDue.plain(1);
        for (int i = 0; i < 166; i++) x.pass(60);
        for (int n = 40; n <= 60; n++) HelperDue.due("pass(" + n + ") in week 9960", x.pass(n), STATE);
        for (int n : bads) HelperDue.due("pass(" + n + ") in week 9960", x.pass(n), BAD);
        HelperDue.due("week", x.told(0), 9960);
        HelperDue.due("dined", x.of(0, 4), 9960);
        HelperDue.due("pass(39)", x.pass(39), 9999);
        HelperDue.due("pass(1)", x.pass(1), STATE);
        HelperDue.due("pass(60)", x.pass(60), STATE);
        HelperDue.due("pass(61)", x.pass(61), BAD);
        HelperDue.due("pass(0)", x.pass(0), 9999);
    }

    private static void on() {
        int[] nones = {3, -1, 9, 14, 15, 16, 19, 24, 25, 26, 30, MIN, MIN + 9, MIN + 19, MAX};
        int[] ns = {0, 60, 61, -1};
        int[] bads = {61, -1, MIN, MAX};
        int[] whats = {0, 1, 2, 10, 13, 20, 23};
        for (int what : nones) {
            for (int n : ns) refused("on(" + n + ", " + what + ")", NONE, x -> x.on(n, what));
        }
        for (int what : whats) {
            for (int n : bads) refused("on(" + n + ", " + what + ")", BAD, x -> x.on(n, what));
        }
        busyStays("on");
        int[] more = {9, 16, 19, 26};
        for (int what : more) whenFull("on(0, " + what + ")", NONE, x -> x.on(0, what));
        int[] some = {10, 15, 20, 25};
        for (int what : some) whenFull("on(61, " + what + ")", BAD, x -> x.on(61, what));
        fullStays("on");
    }

    private static void doorsAndFeign() {
        int[] doors = {0, 21, -1, MIN, MAX};
        for (int n : doors) refused("doors(" + n + ")", BAD, x -> x.doors(n));
        int[] whats = {2, -1, MIN, MAX};
        int[] ns = {0, 7, -1, MIN, MAX};
        for (int n : ns) {
            for (int what : whats) refused("feign(" + n + ", " + what + ")", NONE, x -> x.feign(n, what));
            refused("feign(" + n + ", 0)", BAD, x -> x.feign(n, 0));
            refused("feign(" + n + ", 1)", BAD, x -> x.feign(n, 1));
        }
        for (int what : whats) refused("feign(1, " + what + ")", NONE, x -> x.feign(1, what));
        busyStays("doors and feign");
        HelperDue.due("doors(0) without houses", new HangmanDinner().doors(0), BAD);
        HelperDue.due("feign(7, 0) without houses", new HangmanDinner().feign(7, 0), BAD);
        HelperDue.due("feign(7, 2) without houses", new HangmanDinner().feign(7, 2), NONE);
    }

    private static void see() {
        int[] houses = {4, -2, 5, MIN, MAX};
        int[] bads = {13, -2, MIN, MAX};
        for (int house : houses) {
            for (int n : bads) refused("see(" + n + ", " + house + ")", NONE, x -> x.see(n, house));
            refused("see(0, " + house + ")", NONE, x -> x.see(0, house));
            refused("see(12, " + house + ")", NONE, x -> x.see(12, house));
        }
        for (int n : bads) {
            refused("see(" + n + ", 3)", BAD, x -> x.see(n, 3));
            refused("see(" + n + ", -1)", BAD, x -> x.see(n, -1));
        }
        busyStays("see");
        whenFull("see(0, 0)", FULL, x -> x.see(0, 0));
        whenFull("see(12, -1)", FULL, x -> x.see(12, -1));
        whenFull("see(0, 6)", NONE, x -> x.see(0, 6));
        whenFull("see(13, -2)", NONE, x -> x.see(13, -2));
        whenFull("see(13, 0)", BAD, x -> x.see(13, 0));
        whenFull("see(-2, -1)", BAD, x -> x.see(-2, -1));
        fullStays("see");
        int[] rests = {0, 9, -7, MIN, MAX};
        for (int house : rests) {
            HangmanDinner x = HelperState.full();
            HelperDue.due("see(-1, " + house + ")", x.see(-1, house), 0);
            HelperDue.due("none is seen", x.count(2), 0);
            HelperDue.due("the plan stays", x.count(3), 10);
            HelperDue.due("the book stays", x.count(4), 8);
            HelperDue.due("see(-1, " + house + ") again", x.see(-1, house), 0);
        }
    }

    private static void can() {
        int[] bads = {2, -1, MIN, MAX};
        for (int house : NO_HOUSES) refused("can(" + house + ", 0, 0)", NONE, x -> x.can(house, 0, 0));
        for (int bad : bads) {
            refused("can(0, " + bad + ", 0)", NONE, x -> x.can(0, bad, 0));
            refused("can(0, 1, " + bad + ")", NONE, x -> x.can(0, 1, bad));
            refused("can(4, " + bad + ", " + bad + ")", NONE, x -> x.can(4, bad, bad));
        }
        busyStays("can");
        HelperDue.due("can(0, 0, 0) without houses", new HangmanDinner().can(0, 0, 0), NONE);
    }

    private static void oddsAndMean() {
        int[] parts = {2, -1, MIN, MAX};
        for (int house : NO_HOUSES) {
            refused("odds(" + house + ", 0)", NO, x -> x.odds(house, 0));
            refused("odds(" + house + ", 1)", NO, x -> x.odds(house, 1));
            refused("odds(" + house + ", 2)", NO, x -> x.odds(house, 2));
        }
        int[] ns = {61, -1, MIN, MAX};
        for (int part : parts) {
            refused("odds(0, " + part + ")", NO, x -> x.odds(0, part));
            refused("mean(0, " + part + ")", NO, x -> x.mean(0, part));
            refused("mean(60, " + part + ")", NO, x -> x.mean(60, part));
        }
        for (int n : ns) {
            refused("mean(" + n + ", 0)", NO, x -> x.mean(n, 0));
            refused("mean(" + n + ", 1)", NO, x -> x.mean(n, 1));
        }
        busyStays("odds and mean");
    }

    private static void planAndEnds() {
        int[] whats = {4, -2, MIN, MAX};
        for (int what : whats) {
            refused("plan(" + what + ", 0)", NONE, x -> x.plan(what, 0));
            refused("plan(" + what + ", 9)", NONE, x -> x.plan(what, 9));
            refused("ends(" + what + ")", NONE, x -> x.ends(what));
        }
        for (int house : NO_HOUSES) {
            for (int what = 1; what <= 3; what++) {
                int w = what;
                refused("plan(" + what + ", " + house + ")", NONE, x -> x.plan(w, house));
            }
        }
        refused("ends(2)", NONE, x -> x.ends(2));
        refused("ends(-1)", NONE, x -> x.ends(-1));
        busyStays("plan and ends");
        whenFull("plan(0, 0)", FULL, x -> x.plan(0, 0));
        whenFull("plan(0, 9)", FULL, x -> x.plan(0, 9));
        whenFull("plan(3, 5)", FULL, x -> x.plan(3, 5));
        whenFull("plan(3, 6)", NONE, x -> x.plan(3, 6));
        whenFull("plan(1, -1)", NONE, x -> x.plan(1, -1));
        whenFull("plan(4, 0)", NONE, x -> x.plan(4, 0));
        whenFull("plan(-2, 0)", NONE, x -> x.plan(-2, 0));
        fullStays("plan");
        int[] rests = {0, 9, -1, MIN, MAX};
        for (int house : rests) {
            HangmanDinner x = HelperState.full();
            HelperDue.due("plan(-1, " + house + ")", x.plan(-1, house), 0);
            HelperDue.due("the plan is empty", x.count(3), 0);
            HelperDue.due("what is seen stays", x.count(2), 5);
            HelperDue.due("the book stays", x.count(4), 8);
            HelperDue.due("plan(0, " + house + ")", x.plan(0, house), 1);
        }
    }

    private static void book() {
        int[] houses = {4, -2, 5, MIN, MAX};
        int[] bads = {10000, -1, MIN, MAX};
        for (int house : houses) {
            for (int dined : bads) refused("book(" + house + ", " + dined + ")", NONE, x -> x.book(house, dined));
            refused("book(" + house + ", 0)", NONE, x -> x.book(house, 0));
        }
        for (int dined : bads) {
            refused("book(0, " + dined + ")", BAD, x -> x.book(0, dined));
            refused("book(3, " + dined + ")", BAD, x -> x.book(3, dined));
        }
        busyStays("book");
        whenFull("book(0, 0)", FULL, x -> x.book(0, 0));
        whenFull("book(5, 9999)", FULL, x -> x.book(5, 9999));
        whenFull("book(6, 0)", NONE, x -> x.book(6, 0));
        whenFull("book(-2, -1)", NONE, x -> x.book(-2, -1));
        whenFull("book(0, 10000)", BAD, x -> x.book(0, 10000));
        whenFull("book(0, -1)", BAD, x -> x.book(0, -1));
        fullStays("book");
        int[] rests = {0, 10000, -1, MIN, MAX};
        for (int dined : rests) {
            HangmanDinner x = HelperState.full();
            HelperDue.due("book(-1, " + dined + ")", x.book(-1, dined), 0);
            HelperDue.due("the book is empty", x.count(4), 0);
            HelperDue.due("what is seen stays", x.count(2), 5);
            HelperDue.due("the plan stays", x.count(3), 10);
        }
    }

    private static void judge() {
        int[] places = {0, 9, -1, MIN, MAX};
        for (int i : places) {
            for (int tape : NO_TAPES) refused("judge(" + tape + ", " + i + ")", NONE, x -> x.judge(tape, i));
            refused("judge(1, " + i + ")", CAST, x -> x.judge(1, i));
            refused("judge(2, " + i + ")", CAST, x -> x.judge(2, i));
            refused("judge(3, " + i + ")", 100, x -> x.judge(3, i));
            refused("judge(4, " + i + ")", 100, x -> x.judge(4, i));
        }
        busyStays("judge");
    }

    private static void undo() {
        HangmanDinner x = new HangmanDinner();
        HelperDue.due("undo()", x.undo(), STATE);
        x.house(0, 0, 0);
        x.pass(3);
        HelperDue.due("undo() later", x.undo(), STATE);
        HelperDue.due("week stays", x.told(0), 3);
        HelperDue.due("house stays", x.count(0), 1);
        whenFull("undo()", STATE, y -> y.undo());
        fullStays("undo");
    }

    /** A refused act() is the one that changes something: THE TRACE. */
    private static void act() {
        int[] acts = {3, -1, MIN, MAX};
        for (int house : NO_HOUSES) {
            refused("act(" + house + ", 0, 7)", 0, x -> x.act(house, 0, 7));
            refused("act(" + house + ", 3, 7)", 0, x -> x.act(house, 3, 7));
            refused("count(6) then", 0, x -> x.act(house, 2, 7) + x.count(6));
            refused("trace(0) then", -1, x -> x.act(house, 2, 7) + x.trace(0));
        }
        for (int act : acts) {
            refused("act(2, " + act + ", 7)", 0, x -> x.act(2, act, 7));
            refused("count(6) then", 0, x -> x.act(2, act, 7) + x.count(6));
            refused("trace(0) then", -1, x -> x.act(2, act, 7) + x.trace(0));
        }
        calls.add(x -> x.act(2, 2, 7));
        busyStays("act, but for the trace,");
    }

    private static void trace() {
        int[] places = {12, 13, 19, 20, 21, -1, MIN, MAX};
        for (int i : places) refused("trace(" + i + ")", NONE, x -> x.trace(i));
        busyStays("trace");
        HelperDue.due("trace(0) of a new one", new HangmanDinner().trace(0), NONE);
    }

    private static void taken() {
        int[] bads = {7, -1, MIN, MAX};
        for (int k : bads) {
            for (int house : NO_HOUSES) refused("taken(" + house + ", " + k + ")", BAD, x -> x.taken(house, k));
            refused("taken(0, " + k + ")", BAD, x -> x.taken(0, k));
        }
        for (int house : NO_HOUSES) {
            refused("taken(" + house + ", 0)", NOTHING, x -> x.taken(house, 0));
            refused("taken(" + house + ", 6)", NOTHING, x -> x.taken(house, 6));
        }
        refused("taken(0, 1)", CAST, x -> x.taken(0, 1));
        refused("taken(3, 6)", CAST, x -> x.taken(3, 6));
        busyStays("taken");
    }

    private static void count() {
        int[] bads = {7, -1, MIN, MAX};
        for (int what : bads) refused("count(" + what + ")", BAD, x -> x.count(what));
        busyStays("count");
    }

    private static void tape() {
        int[] sorts = {5, -2, MIN, MAX};
        int[] ns = {0, 60, 61, -1, MIN, MAX};
        for (int tape : NO_TAPES) {
            refused("tape(" + tape + ", 0, 1)", NONE, x -> x.tape(tape, 0, 1));
            refused("tape(" + tape + ", 5, 61)", NONE, x -> x.tape(tape, 5, 61));
            refused("tape(" + tape + ", 0, -1)", NONE, x -> x.tape(tape, 0, -1));
            refused("tape(" + tape + ", -1, 0)", NONE, x -> x.tape(tape, -1, 0));
        }
        for (int sort : sorts) {
            for (int n : ns) refused("tape(0, " + sort + ", " + n + ")", BAD, x -> x.tape(0, sort, n));
        }
        int[] above = {61, 62, 100, MAX};
        int[] below = {-1, -2, -61, MIN};
        for (int sort = 0; sort <= 4; sort++) {
            int s = sort;
            for (int n : above) refused("tape(0, " + sort + ", " + n + ")", BAD, x -> x.tape(0, s, n));
            for (int n : below) refused("tape(1, " + sort + ", " + n + ")", SIZE, x -> x.tape(1, s, n));
        }
        busyStays("tape");
    }

    private static void item() {
        int[] places = {0, -1, 60, MIN, MAX};
        for (int i : places) {
            for (int tape : NO_TAPES) refused("item(" + tape + ", " + i + ", 9)", NONE, x -> x.item(tape, i, 9));
            refused("item(4, " + i + ", 9)", NOTHING, x -> x.item(4, i, 9));
            refused("item(3, " + i + ", 9)", PLACE, x -> x.item(3, i, 9));
        }
        int[] sizes = {5, 4, 3};
        for (int tape = 0; tape < 3; tape++) {
            int t = tape;
            int[] nots = {sizes[tape], -1, 59, 60, MIN, MAX};
            for (int i : nots) refused("item(" + tape + ", " + i + ", 9)", PLACE, x -> x.item(t, i, 9));
        }
        busyStays("item");
    }

    private static void read() {
        int[] places = {0, -1, 60, MIN, MAX};
        for (int i : places) {
            for (int tape : NO_TAPES) refused("read(" + tape + ", " + i + ")", NO, x -> x.read(tape, i));
            for (int tape = 3; tape < 6; tape++) {
                int t = tape;
                refused("read(" + tape + ", " + i + ")", NO, x -> x.read(t, i));
            }
        }
        int[] sizes = {5, 4, 3};
        for (int tape = 0; tape < 3; tape++) {
            int t = tape;
            int[] nots = {sizes[tape], -1, 59, 60, MIN, MAX};
            for (int i : nots) refused("read(" + tape + ", " + i + ")", NO, x -> x.read(t, i));
        }
        busyStays("read");
    }

    private static void shift() {
        int[] places = {0, -1, MIN, MAX};
        for (int i : places) {
            for (int tape : NO_TAPES) {
                refused("shift(" + tape + ", " + i + ", 0, 0, 1)", NONE, x -> x.shift(tape, i, 0, 0, 1));
                refused("shift(0, 0, " + tape + ", " + i + ", 1)", NONE, x -> x.shift(0, 0, tape, i, 1));
                refused("shift(4, 0, " + tape + ", 0, " + i + ")", NONE, x -> x.shift(4, 0, tape, 0, i));
                refused("shift(" + tape + ", 0, 4, 0, " + i + ")", NONE, x -> x.shift(tape, 0, 4, 0, i));
            }
            refused("shift(4, " + i + ", 0, 0, 1)", NOTHING, x -> x.shift(4, i, 0, 0, 1));
            refused("shift(0, 0, 5, " + i + ", 1)", NOTHING, x -> x.shift(0, 0, 5, i, 1));
            refused("shift(4, 0, 5, 0, " + i + ")", NOTHING, x -> x.shift(4, 0, 5, 0, i));
            refused("shift(0, " + i + ", 1, 0, 1)", CAST, x -> x.shift(0, i, 1, 0, 1));
            refused("shift(2, 0, 3, " + i + ", 1)", CAST, x -> x.shift(2, 0, 3, i, 1));
            refused("shift(1, 0, 2, 0, " + i + ")", CAST, x -> x.shift(1, 0, 2, 0, i));
        }
        int[][] nots = {{0, 0, 0, 0, 6}, {0, 0, 3, 0, 1}, {3, 0, 0, 0, 1}, {1, 4, 1, 0, 1}, {1, 0, 1, 4, 1}, {1, 5, 1, 0, 0},
            {1, 0, 1, 5, 0}, {1, -1, 1, 0, 1}, {1, 0, 1, -1, 1}, {1, 1, 1, 1, -1}, {1, MAX, 1, 0, 2}, {1, 0, 1, MAX, 2},
            {1, 2, 1, 0, MAX}, {1, MIN, 1, MIN, MIN}, {2, 2, 2, 0, 2}, {2, 0, 2, 2, 2}};
        for (int[] n : nots) {
            refused("shift(" + n[0] + ", " + n[1] + ", " + n[2] + ", " + n[3] + ", " + n[4] + ")", PLACE, x -> x.shift(n[0], n[1], n[2], n[3], n[4]));
        }
        busyStays("shift");
    }

    /** "what is asked changes nothing" */
    private static void askingChangesNothing() {
        for (int house = 0; house < 4; house++) {
            int h = house;
            for (int what = 0; what <= 10; what++) {
                int w = what;
                calls.add(x -> x.of(h, w));
            }
            for (int n = 0; n <= 60; n += 30) {
                int many = n;
                calls.add(x -> x.on(many, 10 + h));
                calls.add(x -> x.on(many, 20 + h));
            }
            calls.add(x -> x.can(h, 0, 0));
            calls.add(x -> x.can(h, 1, 1));
            calls.add(x -> x.odds(h, 0));
            calls.add(x -> x.taken(h, 0));
        }
        busyStays("of, on, can, odds, taken");
        for (int what = 0; what <= 13; what++) {
            int w = what;
            calls.add(x -> x.told(w));
            calls.add(x -> x.count(w));
            calls.add(x -> x.trace(w));
            calls.add(x -> x.judge(w % 6, 1));
            calls.add(x -> x.read(w % 6, 1));
        }
        for (int n = 0; n <= 60; n += 6) {
            int many = n;
            calls.add(x -> x.on(many, 0));
            calls.add(x -> x.mean(many, 0));
            calls.add(x -> x.doors(many / 3));
            calls.add(x -> x.feign(many / 10, many / 6 % 2));
        }
        calls.add(x -> x.ends(0));
        calls.add(x -> x.ends(1));
        calls.add(x -> x.looked());
        calls.add(x -> x.shift(1, 0, 1, 0, 4));
        busyStays("told, on, mean, doors, feign, ends, looked");
    }
}
