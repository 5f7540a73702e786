/** The boundaries that Terms, part 3, names, sentence by sentence: TAPES, what is JUDGED, the host's refusals. */
public final class TapesTest {
    private static final int MIN = Integer.MIN_VALUE, MAX = Integer.MAX_VALUE;
    private static final long NO = Long.MIN_VALUE;
    private static final int NOTHING = -11, CAST = -12, PLACE = -13, SIZE = -14;

    private static void due(String call, long got, long want) {
        HelperDue.due(call, got, want);
    }

    public static void main(String[] args) {
        sixTapes();
        nothingAtFirst();
        fiveSorts();
        sixtyItems();
        rowOfNone();
        nothingAgain();
        lowestBits();
        everyPlace();
        judgedByPlaces();
        judgedAsTheRowEnds();
        judgedWithoutHouses();
        judgedAsAnotherSort();
        judgedByWideItems();
        shiftedAsTheyWere();
        shiftedToTheEnds();
        shiftedOfEachSort();
        takenForAKind();
        HelperDue.end();
    }

    /** "TAPES 0 .. 5" */
    private static void sixTapes() {
        HangmanDinner x = new HangmanDinner();
        for (int tape = 0; tape < 6; tape++) {
            due("tape " + tape, x.tape(tape, 3, 1), 1);
            due("item of " + tape, x.item(tape, 0, 100 + tape), 1);
        }
        for (int tape = 0; tape < 6; tape++) due("read " + tape, x.read(tape, 0), 100 + tape);
        int[] none = {6, -1, 7, MIN, MAX};
        for (int tape : none) {
            due("tape " + tape, x.tape(tape, 3, 1), -1);
            due("tape " + tape + " of nothing", x.tape(tape, -1, 1), -1);
            due("item of " + tape, x.item(tape, 0, 1), -1);
            due("read " + tape, x.read(tape, 0), NO);
            due("judge " + tape, x.judge(tape, 0), -1);
            due("shift from " + tape, x.shift(tape, 0, 0, 0, 0), -1);
            due("shift to " + tape, x.shift(0, 0, tape, 0, 0), -1);
        }
    }

    /** "hold nothing (at first)" */
    private static void nothingAtFirst() {
        HangmanDinner x = HelperDue.plain(1);
        for (int tape = 0; tape < 6; tape++) {
            due("read", x.read(tape, 0), NO);
            due("item", x.item(tape, 0, 0), NOTHING);
            due("judge", x.judge(tape, 0), 100);
            due("shift", x.shift(tape, 0, tape, 0, 0), NOTHING);
        }
    }

    /** "a row of 0 bytes, 1 shorts, 2 ints, 3 longs, 4 booleans" */
    private static void fiveSorts() {
        HangmanDinner x = new HangmanDinner();
        for (int sort = 0; sort <= 4; sort++) due("sort " + sort, x.tape(sort, sort, 1), 1);
        due("sort 5", x.tape(0, 5, 1), -2);
        due("sort -2", x.tape(0, -2, 1), -2);
        due("sort far above", x.tape(0, MAX, 1), -2);
        due("sort far below", x.tape(0, MIN, 1), -2);
        long v = 0x7123456789abcdefL;
        long[] wants = {(byte) 0xef, (short) 0xcdef, (int) 0x89abcdefL, v, 1};
        for (int sort = 0; sort <= 4; sort++) {
            due("item of sort " + sort, x.item(sort, 0, v), 1);
            due("it is", x.read(sort, 0), wants[sort]);
            due("as it was told", x.tape(5, sort, 1), 1);
            for (int other = 0; other <= 4; other++) {
                due("sort " + sort + " to " + other, x.shift(5, 0, other, 0, 0), sort == other ? 0 : CAST);
            }
        }
    }

    /** "a row of n (0 .. 60) of a sort, all 0"; "SIZE (-14): a size below 0" */
    private static void sixtyItems() {
        for (int sort = 0; sort <= 4; sort++) {
            HangmanDinner x = new HangmanDinner();
            due("60", x.tape(0, sort, 60), 1);
            for (int i = 0; i < 60; i++) due("all 0", x.read(0, i), 0);
            due("item 59", x.item(0, 59, 1), 1);
            due("item 60", x.item(0, 60, 1), PLACE);
            due("read 59", x.read(0, 59), 1);
            due("read 60", x.read(0, 60), NO);
            due("61", x.tape(0, sort, 61), -2);
            due("far above", x.tape(0, sort, MAX), -2);
            due("-1", x.tape(0, sort, -1), SIZE);
            due("far below", x.tape(0, sort, MIN), SIZE);
            due("it stays by all that is refused", x.read(0, 59), 1);
            due("59", x.tape(0, sort, 59), 1);
            due("item 58", x.item(0, 58, 1), 1);
            due("item 0", x.item(0, 0, 1), 1);
            due("item 59 of 59", x.item(0, 59, 1), PLACE);
            due("read 59 of 59", x.read(0, 59), NO);
            due("60 again", x.tape(0, sort, 60), 1);
            for (int i = 0; i < 60; i++) due("all 0 again", x.read(0, i), 0);
            due("1", x.tape(0, sort, 1), 1);
            due("item 0 of 1", x.item(0, 0, 1), 1);
            due("item 1 of 1", x.item(0, 1, 1), PLACE);
            due("item -1 of 1", x.item(0, -1, 1), PLACE);
        }
    }

    /** A row of no items is a row, and holds something. */
    private static void rowOfNone() {
        HangmanDinner x = HelperDue.plain(1);
        for (int sort = 0; sort <= 4; sort++) {
            due("0", x.tape(0, sort, 0), 1);
            due("no place", x.item(0, 0, 1), PLACE);
            due("nothing to read", x.read(0, 0), NO);
            due("none of it", x.shift(0, 0, 0, 0, 0), 0);
            due("one of it", x.shift(0, 0, 0, 0, 1), PLACE);
            due("judge", x.judge(0, 0), sort == 0 ? 100 : CAST);
        }
    }

    /** "holds nothing (sort -1: n does not matter)" */
    private static void nothingAgain() {
        HangmanDinner x = HelperDue.plain(1);
        int[] sizes = {0, -1, 61, MIN, MAX, 5};
        for (int n : sizes) {
            for (int sort = 0; sort <= 4; sort++) {
                x.tape(0, sort, 3);
                x.item(0, 1, 1);
                due("nothing, n " + n, x.tape(0, -1, n), 1);
                due("nothing to read", x.read(0, 1), NO);
                due("no item", x.item(0, 1, 1), NOTHING);
                due("judge", x.judge(0, 0), 100);
                due("shift", x.shift(0, 0, 0, 0, 0), NOTHING);
                x.tape(0, sort, 3);
                due("all 0", x.read(0, 1), 0);
            }
        }
    }

    /** "its lowest bits, as many as an item has; booleans: whether v is not 0" */
    private static void lowestBits() {
        int[] bits = {8, 16, 32, 64};
        HangmanDinner x = new HangmanDinner();
        for (int sort = 0; sort < 4; sort++) {
            x.tape(0, sort, 3);
            long top = 1L << (bits[sort] - 1);
            long[] values = {top - 1, top, -top, -top - 1, top << 1, -1, 0, 1};
            long[] wants = {top - 1, -top, -top, top - 1, 0, -1, 0, 1};
            for (int i = 0; i < values.length; i++) {
                x.item(0, 0, 9);
                x.item(0, 2, 8);
                due("item", x.item(0, 1, values[i]), 1);
                due("sort " + sort + " of " + values[i], x.read(0, 1), sort == 3 && i == 4 ? values[i] : wants[i]);
                due("the one ahead stays", x.read(0, 0), 9);
                due("the one behind stays", x.read(0, 2), 8);
            }
        }
        x.tape(0, 4, 1);
        for (int bit = 0; bit < 64; bit++) {
            x.item(0, 0, 1L << bit);
            due("bit " + bit + " is not 0", x.read(0, 0), 1);
        }
        due("0", x.item(0, 0, 0), 1);
        due("0 is 0", x.read(0, 0), 0);
    }

    /** "PLACE (-13): no such place" */
    private static void everyPlace() {
        for (int n = 0; n <= 60; n += 12) {
            HangmanDinner x = new HangmanDinner();
            x.tape(2, 3, n);
            for (int i = -2; i <= 62; i++) {
                boolean is = i >= 0 && i < n;
                due("item " + i + " of " + n, x.item(2, i, 500 + i), is ? 1 : PLACE);
                due("read " + i + " of " + n, x.read(2, i), is ? 500 + i : NO);
            }
            due("far above", x.item(2, MAX, 1), PLACE);
            due("far below", x.item(2, MIN, 1), PLACE);
            due("read far above", x.read(2, MAX), NO);
            due("read far below", x.read(2, MIN), NO);
        }
    }

    /** A TAPE that holds THE STREET from a place on. */
    private static void street(HangmanDinner x, int tape, int from, int size) {
        x.tape(tape, 0, size);
        for (int k = 0; k < x.count(0); k++) x.item(tape, from + k, x.told(10 + k));
    }

    /** "the first that is otherwise (counted from 0 from that place on); -5: none" */
    private static void judgedByPlaces() {
        for (int size = 1; size <= 6; size++) {
            HangmanDinner x = HelperDue.plain(size);
            if (size > 2) x.swap(0, size - 1);
            if (size > 3) x.swap(1, 2);
            for (int from = 0; from <= 2; from++) {
                street(x, 3, from, size + from);
                due("all " + size + " from " + from, x.judge(3, from), -5);
                for (int k = 0; k < size; k++) {
                    x.item(3, from + k, 9);
                    due("otherwise at " + k + " of " + size, x.judge(3, from), k);
                    x.item(3, from, 9);
                    due("the first that is otherwise", x.judge(3, from), 0);
                    street(x, 3, from, size + from);
                }
            }
        }
        // What stands behind THE STREET's end on the TAPE is no matter.
        HangmanDinner x = HelperDue.plain(2);
        street(x, 0, 58, 60);
        due("the last two places", x.judge(0, 58), -5);
        x.tape(0, 0, 60);
        x.item(0, 1, 1);
        x.item(0, 2, 77);
        due("the first two places", x.judge(0, 0), -5);
    }

    /** "100 and how many were looked at, if the row ends ahead of that (or the place is below 0, or the TAPE holds nothing)" */
    private static void judgedAsTheRowEnds() {
        HangmanDinner x = HelperDue.plain(6);
        for (int n = 0; n <= 6; n++) {
            street(x, 0, 0, n);
            due("a row of " + n, x.judge(0, 0), n == 6 ? -5 : 100 + n);
        }
        street(x, 0, 4, 7);
        due("three are there", x.judge(0, 4), 103);
        due("one otherwise ahead of the end", x.judge(0, 5), 0);
        x.item(0, 6, 0);
        due("one", x.judge(0, 6), 101);
        due("the end", x.judge(0, 7), 100);
        due("beyond the end", x.judge(0, 8), 100);
        due("far beyond", x.judge(0, MAX), 100);
        due("far beyond, nearly", x.judge(0, MAX - 3), 100);
        due("below 0", x.judge(0, -1), 100);
        due("far below", x.judge(0, MIN), 100);
        due("nothing there", x.judge(1, 0), 100);
        due("nothing there, below 0", x.judge(1, -1), 100);
        due("nothing there, far beyond", x.judge(1, MAX), 100);
    }

    /** "or there are no HOUSES (wherever the place is, also if the TAPE holds nothing)" */
    private static void judgedWithoutHouses() {
        HangmanDinner x = new HangmanDinner();
        x.tape(0, 0, 3);
        x.tape(1, 0, 0);
        int[] places = {0, 1, 2, 3, 4, -1, MAX, MIN};
        for (int place : places) {
            for (int tape = 0; tape < 6; tape++) due("tape " + tape + " at " + place, x.judge(tape, place), -5);
        }
    }

    /** "CAST: it is no row of bytes" */
    private static void judgedAsAnotherSort() {
        for (int houses = 0; houses <= 1; houses++) {
            HangmanDinner x = HelperDue.plain(houses);
            for (int sort = 1; sort <= 4; sort++) {
                for (int n = 0; n <= 2; n++) {
                    x.tape(0, sort, n);
                    due("sort " + sort, x.judge(0, 0), CAST);
                    due("sort " + sort + ", below 0", x.judge(0, -1), CAST);
                    due("sort " + sort + ", beyond", x.judge(0, 9), CAST);
                }
            }
            x.tape(0, 0, 1);
            due("bytes", x.judge(0, 0), -5);
        }
    }

    /** A byte is what its lowest bits are: 256 more is the same house, 250 is none. */
    private static void judgedByWideItems() {
        HangmanDinner x = HelperDue.plain(2);
        x.tape(0, 0, 2);
        x.item(0, 0, 256);
        x.item(0, 1, -255);
        due("256 is 0, -255 is 1", x.judge(0, 0), -5);
        x.item(0, 1, 255);
        due("-1 is none", x.judge(0, 0), 1);
    }

    private static HangmanDinner counted(int n, int m) {
        HangmanDinner x = new HangmanDinner();
        x.tape(0, 2, n);
        x.tape(1, 2, m);
        for (int i = 0; i < n; i++) x.item(0, i, i + 1);
        for (int i = 0; i < m; i++) x.item(1, i, -i - 1);
        return x;
    }

    /** "as they all were before" */
    private static void shiftedAsTheyWere() {
        int size = 6;
        for (int i = 0; i <= size; i++) {
            for (int j = 0; j <= size; j++) {
                for (int n = 0; n <= size; n++) {
                    HangmanDinner x = counted(size, size);
                    boolean fits = i + n <= size && j + n <= size;
                    due("shift " + n + " from " + i + " to " + j, x.shift(0, i, 0, j, n), fits ? n : PLACE);
                    for (int k = 0; k < size; k++) {
                        boolean came = fits && k >= j && k < j + n;
                        due("item " + k + " by " + n + " from " + i + " to " + j, x.read(0, k), came ? i + k - j + 1 : k + 1);
                    }
                    due("the other stays", x.read(1, 0), -1);
                }
            }
        }
    }

    /** "PLACE: n, i or j is below 0, or beyond either's end" */
    private static void shiftedToTheEnds() {
        HangmanDinner x = counted(5, 3);
        int[][] fits = {{0, 0, 3}, {2, 0, 3}, {4, 2, 1}, {5, 3, 0}, {5, 0, 0}, {0, 3, 0}};
        for (int[] f : fits) due("fits " + f[0] + " " + f[1] + " " + f[2], x.shift(0, f[0], 1, f[1], f[2]), f[2]);
        int[][] not = {{0, 0, 4}, {3, 0, 3}, {2, 1, 3}, {4, 3, 1}, {5, 2, 1}, {6, 3, 0}, {5, 4, 0}, {6, 0, 0}, {0, 4, 0},
            {-1, 0, 1}, {0, -1, 1}, {0, 0, -1}, {-1, 0, 0}, {0, -1, 0}, {1, 1, -1}, {MAX, 0, 1}, {0, MAX, 1}, {0, 0, MAX},
            {MAX, MAX, MAX}, {MIN, 0, 1}, {0, MIN, 1}, {0, 0, MIN}, {MIN, MIN, MIN}, {1, 1, MAX}, {MAX, MAX, 1}, {5, 3, MIN},
            {MIN, MIN, 0}, {MAX, 0, MIN}};
        HangmanDinner y = counted(5, 3);
        for (int[] f : not) due("does not fit " + f[0] + " " + f[1] + " " + f[2], y.shift(0, f[0], 1, f[1], f[2]), PLACE);
        for (int i = 0; i < 5; i++) due("nothing came", y.read(0, i), i + 1);
        for (int i = 0; i < 3; i++) due("nothing came", y.read(1, i), -i - 1);
        due("back to a longer one", y.shift(1, 0, 0, 2, 3), 3);
        int[] wants = {1, 2, -1, -2, -3};
        for (int i = 0; i < 5; i++) due("came", y.read(0, i), wants[i]);
        due("beyond the longer one", y.shift(1, 0, 0, 3, 3), PLACE);
        due("60 of 60", counted(60, 60).shift(0, 0, 1, 0, 60), 60);
        due("61 of 60", counted(60, 60).shift(0, 0, 1, 0, 61), PLACE);
    }

    private static void shiftedOfEachSort() {
        long[] values = {-128, -32768, MIN, Long.MIN_VALUE + 1, 1};
        for (int sort = 0; sort <= 4; sort++) {
            HangmanDinner x = new HangmanDinner();
            x.tape(4, sort, 2);
            x.tape(5, sort, 2);
            x.item(4, 1, values[sort]);
            due("sort " + sort, x.shift(4, 1, 5, 0, 1), 1);
            due("as it was", x.read(5, 0), values[sort]);
            due("only it", x.read(5, 1), 0);
            due("it stays", x.read(4, 1), values[sort]);
        }
    }

    /** "A HOUSE taken for one of KIND k (0 .. 6), or one under that"; "CAST (-12): another sort or KIND" */
    private static void takenForAKind() {
        String[] under = {"0", "01", "02", "03", "014", "025", "036"};
        for (int kind = 0; kind <= 6; kind++) {
            HangmanDinner x = HelperDue.street(HelperDue.h(kind, 0, 0));
            for (int k = 0; k <= 6; k++) {
                boolean is = under[kind].indexOf('0' + k) >= 0;
                due("kind " + kind + " taken for " + k, x.taken(0, k), is ? kind : CAST);
                due("no such house for " + k, x.taken(1, k), NOTHING);
                due("no such house for " + k, x.taken(-1, k), NOTHING);
            }
            due("for 7", x.taken(0, 7), -2);
            due("for -1", x.taken(0, -1), -2);
            due("no such house for 7", x.taken(1, 7), -2);
            due("no such house for -1", x.taken(-1, -1), -2);
        }
    }
}
