/** The boundaries that Terms, part 1, names, sentence by sentence: houses, towns, DREAD, THURSDAYS. */
public final class TermsTest {
    private static void due(String call, long got, long want) {
        HelperDue.due(call, got, want);
    }

    private static int[] h(int kind, int v, int base) {
        return HelperDue.h(kind, v, base);
    }

    public static void main(String[] args) {
        housesAsTheyCome();
        numbersOfAHouse();
        atFirst();
        trialsAreBits();
        hundredBytes();
        oneToTenClauses();
        oneBlankAheadOfEachPart();
        oneOrTwoDigits();
        anE();
        eachLetter();
        eachKindsNumber();
        modulo10();
        withinFourOthers();
        faultAtEachByte();
        faultAtTheEnd();
        sixTowns();
        illsNumber();
        sumTogether();
        richInWeek2();
        pastorCutTowardZero();
        widowThirtyAtMost();
        shyIfDinedIsZero();
        childrenAndOwes();
        toldAndRow();
        illByItsNumber();
        fromPointOn();
        owesNineAtMost();
        hostOwes();
        pointBehindTheLast();
        allIll();
        weekModulo8();
        at9999();
        HelperDue.end();
    }

    /** "HOUSES 0 .. 5, as they come, each at the end of THE STREET" */
    private static void housesAsTheyCome() {
        HangmanDinner x = new HangmanDinner();
        for (int i = 0; i < 6; i++) {
            due("house " + i, x.house(i, i, i), i);
            due("house " + i + " is at the end", x.of(i, 10), i);
            due("how many", x.count(0), i + 1);
            due("nobody is behind it", x.told(11 + i), -1);
            // The ends change, so that the next one comes behind another one.
            if (i > 0) x.swap(i, 0);
        }
        due("a seventh", x.house(0, 0, 0), -4);
        due("six", x.count(0), 6);
    }

    /** "of KINDS: 0 .. 6", "a number v (0 .. 9), a BASE (0 .. 99)", "OWES (0 .. 9", "TRIALS (weeks 0 .. 7" */
    private static void numbersOfAHouse() {
        for (int kind = 0; kind <= 6; kind++) {
            HangmanDinner x = new HangmanDinner();
            due("least", x.house(kind, 0, 0), 0);
            due("most", x.house(kind, 9, 99), 1);
            due("kind", x.of(1, 0), kind);
            due("v 0", x.of(0, 1), 0);
            due("v 9", x.of(1, 1), 9);
            due("base 0", x.of(0, 2), 0);
            due("base 99", x.of(1, 2), 99);
            due("v 10", x.house(kind, 10, 99), -2);
            due("v -1", x.house(kind, -1, 0), -2);
            due("base 100", x.house(kind, 9, 100), -2);
            due("base -1", x.house(kind, 0, -1), -2);
            int[] most = {99, 9, 255};
            for (int what = 0; what < 3; what++) {
                due("set most", x.set(0, what, most[what]), 0);
                due("above", x.set(0, what, most[what] + 1), -2);
                due("below", x.set(0, what, -1), -2);
                due("least, it was most", x.set(0, what, 0), most[what]);
                due("it was least", x.set(0, what, 1), 0);
            }
        }
        due("kind 7", new HangmanDinner().house(7, 0, 0), -1);
        due("kind -1", new HangmanDinner().house(-1, 0, 0), -1);
    }

    /** "(0 at first)" of OWES, DINED, POINT, HUNGRY, CLASHES, WEEK; "none at first"; "not at first"; the ROW's four 0 */
    private static void atFirst() {
        HangmanDinner x = new HangmanDinner();
        for (int what = 0; what <= 6; what++) due("at first, told " + what, x.told(what), what == 1 ? 60 : what == 5 ? -5 : 0);
        x.house(6, 9, 59);
        for (int what = 3; what <= 6; what++) due("a new house, of " + what, x.of(0, what), 0);
        for (int part = 0; part < 4; part++) due("row " + part, x.row(0, part, 9), 0);
        x.set(0, 1, 9);
        x.set(0, 2, 255);
        x.pass(3);
        x.shut(0, true);
        x.pass(3);
        x.house(6, 9, 59);
        for (int what = 3; what <= 6; what++) due("a house that comes later, of " + what, x.of(1, what), 0);
        for (int part = 0; part < 4; part++) due("row " + part + " of the later one", x.row(1, part, 1), 0);
    }

    /** "TRIALS (weeks 0 .. 7, as bits", "if WEEK modulo 8 is among its TRIALS" */
    private static void trialsAreBits() {
        for (int bit = 0; bit < 8; bit++) {
            HangmanDinner x = HelperDue.plain(1);
            x.set(0, 2, 1 << bit);
            int clashes = 0;
            for (int week = 0; week < 18; week++) {
                x.pass(1);
                if (week % 8 == bit) clashes++;
                due("trial " + bit + ", week " + week, x.told(4), clashes);
            }
        }
    }

    /** An E of tests that hold, as many bytes as told: 4 for each test, 5 for the first few. */
    private static String wide(int bytes) {
        StringBuilder e = new StringBuilder();
        for (int i = 0; i < (bytes + 1) / 4; i++) e.append(i == 0 ? "" : "|").append(i < (bytes + 1) % 4 ? "k=00" : "k=0");
        return e.toString();
    }

    /** "THE TEXT (bytes, 100 at most)" */
    private static void hundredBytes() {
        String text = "fear 7 " + wide(86) + ";ill 12";
        due("a text of 100 bytes", text.length(), 100);
        HangmanDinner x = HelperDue.plain(1);
        for (int i = 0; i < 100; i++) due("byte " + i, x.feed(text.charAt(i)), i + 1);
        due("the 101st", x.feed('3'), -4);
        due("100 stay", x.count(5), 100);
        due("a town of 100 bytes", x.town(), 0);
        due("its last byte is read", x.told(1), 12);
        due("its dread", x.of(0, 7), 7);
        due("the text is empty", x.count(5), 0);
        String early = "fear 7 " + wide(86) + ";ill 1;";
        HangmanDinner fault = HelperDue.plain(1);
        due("100 bytes that end too early", HelperDue.town(fault, early), -110);
        due("100 bytes, the last is none", HelperDue.town(fault, text.substring(0, 99) + "x"), -109);
        due("sign 0", x.feed(0), 1);
        due("sign 127", x.feed(127), 2);
        due("sign 128", x.feed(128), -2);
        due("sign -1", x.feed(-1), -2);
        due("two", x.count(5), 2);
        due("0 and 127 are bytes like others", x.town(), -10);
    }

    /** "CLAUSES, 1 to 10, with ; between" */
    private static void oneToTenClauses() {
        due("none", HelperDue.town(HelperDue.plain(1), ""), -10);
        due("; alone", HelperDue.town(HelperDue.plain(1), ";"), -10);
        StringBuilder ills = new StringBuilder();
        for (int n = 1; n <= 10; n++) {
            HangmanDinner x = HelperDue.plain(1);
            due(n + " clauses", HelperDue.town(x, ills + "fear 7 p=0"), 0);
            due(n + " clauses, the last one's", x.of(0, 7), 7);
            ills.append("ill ").append(n % 10).append(';');
            HangmanDinner y = HelperDue.plain(1);
            due(n + " ills", HelperDue.town(y, ills.substring(0, 6 * n - 1)), 0);
            due(n + " ills, the last one's", y.told(1), n % 10);
            due("; behind " + n, HelperDue.town(y, ills.toString()), n < 10 ? -10 - 6 * n : -10 - 59);
        }
        due("eleven", HelperDue.town(HelperDue.plain(1), ills + "fear 7 p=0"), -10 - 59);
        due("eleven ills", HelperDue.town(HelperDue.plain(1), ills + "ill 5"), -10 - 59);
    }

    private static void fault(String text, int place) {
        HangmanDinner x = HelperDue.plain(1);
        due("fault of " + text, HelperDue.town(x, text), -10 - place);
        due("the text is empty by a fault: " + text, x.count(5), 0);
        due("no town by a fault: " + text, x.count(1), 0);
    }

    /** "one blank ahead of each part behind the word" */
    private static void oneBlankAheadOfEachPart() {
        due("one blank each", HelperDue.town(HelperDue.plain(1), "fear 1 p=1;ease 1 p=1;ill 1"), 0);
        fault("fear1 p=1", 4);
        fault("fear  1 p=1", 5);
        fault("fear 1p=1", 6);
        fault("fear 1  p=1", 7);
        fault("ease1 p=1", 4);
        fault("ease  1 p=1", 5);
        fault("ease 12p=1", 7);
        fault("ease 12  p=1", 8);
        fault("ill5", 3);
        fault("ill  5", 4);
        fault("ill 5 ", 5);
        fault(" ill 5", 0);
        fault(" fear 1 p=1", 0);
        fault("fear 1 p=1 ", 10);
        fault("fear 1 p=1 ;ill 5", 10);
        fault("fear 1 p=1; ill 5", 11);
        fault("fear 1 p =1", 8);
        fault("fear 1 p= 1", 9);
        fault("fear 1 p=1 |p=1", 10);
        fault("fear 1 p=1| p=1", 11);
        fault("fear 1 p=1& p=1", 11);
        fault("fear 1 ! p=1", 8);
        fault("fear 1 ( p=1)", 8);
        fault("fear 1 (p=1 )", 11);
    }

    /** "n 1 or 2 digits", "a number (1 or 2 digits)" */
    private static void oneOrTwoDigits() {
        int[] numbers = {0, 9, 10, 99};
        for (int n : numbers) {
            HangmanDinner x = HelperDue.plain(1);
            due("ill " + n, HelperDue.town(x, "ill " + n), 0);
            due("ill's number " + n, x.told(1), n);
            due("fear " + n, HelperDue.town(x, "fear " + n + " k=0"), 1);
            due("dread by fear " + n, x.of(0, 7), n);
            due("ease " + n, HelperDue.town(x, "ease " + n + " k=0"), 2);
            due("dread by ease " + n, x.of(0, 7), -n);
            due("a number " + n, HelperDue.town(x, "fear 3 k=" + n), 3);
            due("dread by a number " + n, x.of(0, 7), n == 0 ? 3 : 0);
        }
        HangmanDinner x = HelperDue.plain(1);
        due("00", HelperDue.town(x, "fear 07 k=00;ill 05"), 0);
        due("07", x.of(0, 7), 7);
        due("05", x.told(1), 5);
        fault("fear  p=1", 5);
        fault("fear x p=1", 5);
        fault("fear 100 p=1", 7);
        fault("ease 100 p=1", 7);
        fault("ill x", 4);
        fault("ill 100", 6);
        fault("ill -1", 4);
        fault("ill /", 4);
        fault("ill :", 4);
        fault("ill 5/", 5);
        fault("ill 5:", 5);
        fault("fear 1 p=x", 9);
        fault("fear 1 p=100", 11);
        fault("fear 1 p=-1", 9);
    }

    /** "E: T or T|E. T: F or F&T. F: !F, (E), or a TEST": of three houses, for which of them it holds (bits) */
    private static void anE() {
        String[] tests = {"p=0", "p=1", "p=2", "p<1", "p<2", "p>0", "p>1", "v>8", "v<9", "v=9"};
        int[] bits = {1, 2, 4, 1, 3, 6, 4, 7, 0, 7};
        for (int a = 0; a < tests.length; a++) {
            for (int b = 0; b < tests.length; b++) {
                holds(tests[a] + "&" + tests[b], bits[a] & bits[b]);
                holds(tests[a] + "|" + tests[b], bits[a] | bits[b]);
                holds("!" + tests[a] + "&" + tests[b], ~bits[a] & bits[b]);
                holds("!(" + tests[a] + "|" + tests[b] + ")", ~(bits[a] | bits[b]));
                for (int c = 0; c < tests.length; c += 2) {
                    holds(tests[a] + "|" + tests[b] + "&" + tests[c], bits[a] | bits[b] & bits[c]);
                    holds(tests[a] + "&" + tests[b] + "|" + tests[c], bits[a] & bits[b] | bits[c]);
                    holds("(" + tests[a] + "|" + tests[b] + ")&" + tests[c], (bits[a] | bits[b]) & bits[c]);
                    holds(tests[c] + "&(" + tests[a] + "|!" + tests[b] + ")", bits[c] & (bits[a] | ~bits[b]));
                }
            }
        }
    }

    private static void holds(String e, int bits) {
        HangmanDinner x = HelperDue.street(h(0, 9, 0), h(0, 9, 0), h(0, 9, 0));
        due("a town of " + e, HelperDue.town(x, "fear 70 " + e), 0);
        due("for whom " + e, x.told(6), bits & 7);
    }

    /** A letter is worth what it is: below, at and above it; 1 is <, 2 is =, 4 is >. */
    private static void letter(HangmanDinner x, int house, char letter, int value) {
        for (int n = Math.max(0, value - 1); n <= value + 1; n++) {
            int before = x.of(house, 2);
            String test = "" + letter;
            due("town", HelperDue.town(x, "fear 1 " + test + "<" + n + ";fear 2 " + test + "=" + n + ";fear 4 " + test + ">" + n) >= 0 ? 0 : 1, 0);
            int want = value < n ? 1 : value == n ? 2 : 4;
            due(letter + " of " + value + " by " + n, x.of(house, 7) - before, want);
        }
    }

    /** "of a HOUSE p its number, k its KIND, v its v, o OWES, d DINED modulo 10, w WEEK modulo 10" */
    private static void eachLetter() {
        for (int p = 0; p < 6; p++) letter(HelperDue.plain(6), p, 'p', p);
        for (int v = 0; v < 10; v++) letter(HelperDue.street(h(0, 3, 1), h(0, v, 0)), 1, 'v', v);
        for (int o = 0; o < 10; o++) {
            HangmanDinner x = HelperDue.plain(2);
            x.set(1, 1, o);
            letter(x, 1, 'o', o);
        }
        for (int n = 0; n < 10; n++) {
            HangmanDinner x = HelperDue.plain(2);
            x.pass(2 * n);
            letter(x, 1, 'd', n);
            HangmanDinner y = HelperDue.plain(2);
            y.pass(n);
            letter(y, 1, 'w', n);
        }
    }

    private static void eachKindsNumber() {
        int[] times = {2, 2, 1, 2, 4, 1, 2};
        for (int kind = 0; kind < 7; kind++) {
            for (int n = 0; n < 8; n++) {
                HangmanDinner x = HelperDue.street(h(kind, 0, 0));
                HelperDue.town(x, "fear 2 k<" + n + ";fear 4 k=" + n + ";fear 8 k>" + n);
                int holds = kind < n ? 1 : kind == n ? 2 : 4;
                due("k of " + kind + " by " + n, x.of(0, 7), holds * times[kind]);
            }
        }
    }

    /** "d DINED modulo 10, w WEEK modulo 10" */
    private static void modulo10() {
        HangmanDinner x = HelperDue.plain(1);
        HelperDue.town(x, "fear 1 d=9;fear 2 w=9;fear 4 d=0;fear 8 w=0;ill 99");
        int[] steps = {9, 1, 9, 1, 60, 20, 9};
        int[] wants = {3, 12, 3, 12, 12, 12, 3};
        for (int i = 0; i < steps.length; i++) {
            x.pass(steps[i]);
            due("modulo 10 in week " + x.told(0), x.of(0, 7), wants[i]);
        }
        HelperDue.town(x, "fear 1 d>9;fear 1 w>9;fear 1 d=10;fear 1 w=19");
        due("never above 9", x.of(0, 7), 0);
    }

    private static String inside(int bits, int many) {
        StringBuilder e = new StringBuilder();
        StringBuilder ends = new StringBuilder();
        for (int i = 0; i < many; i++) {
            boolean opens = (bits >> i & 1) != 0;
            e.append(opens ? '(' : '!');
            if (opens) ends.append(')');
        }
        return e + "k=0" + ends;
    }

    /** "A ( or ! within 4 others is none." */
    private static void withinFourOthers() {
        for (int many = 1; many <= 4; many++) {
            for (int bits = 0; bits < 1 << many; bits++) {
                String e = inside(bits, many);
                HangmanDinner x = HelperDue.plain(1);
                due(e, HelperDue.town(x, "fear 1 " + e), 0);
                due("it holds: " + e, x.of(0, 7), (many - Integer.bitCount(bits)) % 2 == 0 ? 1 : 0);
            }
        }
        for (int bits = 0; bits < 32; bits++) fault("fear 1 " + inside(bits, 5), 11);
        // They are within only those that hold them, not within those that stand ahead of them.
        for (int bits = 0; bits < 16; bits++) {
            String e = inside(bits, 4);
            HangmanDinner x = HelperDue.plain(1);
            due("side by side: " + e, HelperDue.town(x, "fear 1 " + e + "&" + e + "|" + e), 0);
            due("inside: " + e, HelperDue.town(x, "fear 1 (k=0&" + e.substring(1, 2) + "k=0" + (e.charAt(1) == '(' ? ")" : "") + ")|" + e), 1);
            fault("fear 1 (k=0|" + e + ")", 15);
            fault("fear 1 !(k=0|" + inside(bits & 7, 3) + ")", 15);
        }
    }

    /** "The FAULT: the place of the first byte with which none begins so" */
    private static void faultAtEachByte() {
        String[] towns = {"fear 12 !(k=0&v<10)|w>3;ease 9 p=1;ill 60", "ill 5;ill 06;fear 0 ((o=9))&!!d<2|p=0"};
        for (String town : towns) {
            for (int i = 0; i < town.length(); i++) {
                fault(town.substring(0, i) + "~" + town.substring(i + 1), i);
                fault(town.substring(0, i) + "~", i);
                fault(town.substring(0, i) + (char) 0 + town.substring(i), i);
            }
            fault(town + "~", town.length());
        }
        // What begins none for want of a second reading: each of these is right up to there.
        fault("fill 5", 1);
        fault("fease 1 p=1", 3);
        fault("eill 5", 1);
        fault("ease 1 p=1;e", 12);
        fault("ill 5|", 5);
        fault("ill 5)", 5);
        fault("fear 1 p=1)", 10);
        fault("fear 1 p=1(", 10);
        fault("fear 1 p<=1", 9);
        fault("fear 1 p=12)", 11);
        fault("fear 1 (p=12;", 12);
        fault("fear 1 !)", 8);
        fault("fear 1 &p=1", 7);
        fault("fear 1 |p=1", 7);
    }

    /** "(the end of THE TEXT, if it ends too early)" */
    private static void faultAtTheEnd() {
        String town = "fear 12 !(k=0&v<10)|w>3;ease 9 p=1;ill 60";
        int towns = 0;
        for (int i = 0; i <= town.length(); i++) {
            String start = town.substring(0, i);
            boolean whole = HelperText.isTown(start);
            if (whole) towns++;
            due("the start " + start, HelperDue.town(HelperDue.plain(1), start), whole ? 0 : -10 - i);
        }
        due("starts that are towns: ..10), w>3, p=1, ill 6, ill 60", towns, 5);
    }

    /** "The newest TOWN holds (6 at most); without one there are no CLAUSES." */
    private static void sixTowns() {
        HangmanDinner x = HelperDue.plain(1);
        due("no clauses", x.of(0, 7), 0);
        for (int i = 0; i < 6; i++) {
            due("town " + i, HelperDue.town(x, "fear " + (10 + i) + " k=0;ill " + (90 + i)), i);
            due("how many", x.count(1), i + 1);
            due("the newest holds", x.of(0, 7), 10 + i);
            due("its number", x.told(1), 90 + i);
            if (i == 5) break;
            due("a fault", HelperDue.town(x, "ill 1;"), -16);
            due("the one that held holds", x.told(1), 90 + i);
            due("the one that held holds", x.of(0, 7), 10 + i);
            due("no more of them", x.count(1), i + 1);
        }
        HelperDue.feed(x, "ill 1");
        due("a seventh", x.town(), -4);
        due("the text stays", x.count(5), 5);
        due("six", x.count(1), 6);
        due("the sixth holds", x.told(1), 95);
        x.feed(';');
        due("a seventh by a fault", x.town(), -4);
        due("the text stays", x.count(5), 6);
        HangmanDinner y = HelperDue.plain(1);
        due("a fault ahead of any", HelperDue.town(y, "fear 9 k=0;ill 1;"), -27);
        due("still without one", y.of(0, 7), 0);
        due("still without one", y.told(1), 60);
    }

    /** "ILL'S number (60 without): the last one's n." */
    private static void illsNumber() {
        String[] towns = {"fear 1 k=0", "ill 0", "ill 99", "ill 1;ill 2", "ill 3;fear 1 k=0", "ill 8;fear 1 k=0;ill 7;ease 1 k=0"};
        int[] wants = {60, 0, 99, 2, 3, 7};
        HangmanDinner x = HelperDue.plain(1);
        due("without a town", x.told(1), 60);
        for (int i = 0; i < towns.length; i++) {
            HelperDue.town(x, towns[i]);
            due("ill's number by " + towns[i], x.told(1), wants[i]);
        }
    }

    /** "SUM of a HOUSE: BASE, and the n of all fear whose E holds, less those of all ease, together (may be below 0)." */
    private static void sumTogether() {
        HangmanDinner x = HelperDue.street(h(0, 0, 99), h(0, 0, 0));
        HelperDue.town(x, "fear 99 k=0;fear 99 k=0;fear 99 k=0;fear 99 k=0;fear 99 k=0;fear 99 k=0;fear 99 k=0;fear 99 k=0");
        due("the most", x.of(0, 7), 99 + 8 * 99);
        due("the most", x.of(1, 7), 8 * 99);
        HelperDue.town(x, "ease 99 k=0;ease 99 k=0;ease 99 k=0;ease 99 k=0;ease 99 k=0;ease 99 k=0;ease 99 k=0;ease 99 k=0");
        due("the least", x.of(1, 7), -8 * 99);
        due("the least", x.of(0, 7), 99 - 8 * 99);
        HelperDue.town(x, "ease 50 k=0;fear 30 k=0;ease 5 p=0;fear 70 k=1;ease 70 p=2");
        due("together", x.of(0, 7), 74);
        due("together", x.of(1, 7), -20);
    }

    /** "RICH: SUM; v more, if WEEK modulo 4 is 2." */
    private static void richInWeek2() {
        HangmanDinner x = HelperDue.street(h(1, 9, 20), h(4, 9, 20), h(0, 9, 20));
        x.shut(1, true);
        for (int week = 0; week < 12; week++) {
            due("rich in week " + week, x.of(0, 7), week % 4 == 2 ? 29 : 20);
            due("shy in week " + week, x.of(1, 7), week % 4 == 2 ? 58 : 40);
            due("house in week " + week, x.of(2, 7), 20);
            x.pass(1);
        }
    }

    /** "PASTOR: the half (cut toward 0) of SUM." */
    private static void pastorCutTowardZero() {
        int[] halves = {-2, -1, -1, 0, 0, 0, 1, 1, 2};
        for (int sum = -4; sum <= 4; sum++) {
            HangmanDinner x = HelperDue.street(h(2, 9, 4), h(5, 9, 4));
            HelperDue.town(x, "ease " + (4 - sum) + " v=9");
            due("half of " + sum, x.of(0, 7), halves[sum + 4]);
            due("half of " + sum + ", by children", x.of(1, 7), halves[sum + 4]);
        }
    }

    /** "WIDOW: SUM, less three times DINED (30 at most)." */
    private static void widowThirtyAtMost() {
        HangmanDinner x = HelperDue.street(h(3, 9, 40));
        HangmanDinner y = HelperDue.street(h(6, 9, 40));
        for (int dined = 0; dined <= 13; dined++) {
            int less = dined < 10 ? 3 * dined : 30;
            due("widow dined " + dined, x.of(0, 7), 40 - less);
            due("told one dined " + dined, y.of(0, 7), 40 - less);
            x.pass(1);
            y.pass(1);
        }
    }

    /** "SHY: as RICH; twice that, if DINED is 0." */
    private static void shyIfDinedIsZero() {
        HangmanDinner x = HelperDue.street(h(4, 5, 10));
        due("dined 0", x.of(0, 7), 20);
        x.pass(1);
        due("dined 1", x.of(0, 7), 10);
        x.pass(1);
        due("dined 2, week 2", x.of(0, 7), 15);
        HangmanDinner y = HelperDue.street(h(4, 5, 10));
        HelperDue.town(y, "ease 40 k=4");
        due("twice what is below 0", y.of(0, 7), -60);
        y.shut(0, true);
        y.pass(2);
        due("twice what is below 0, with v", y.of(0, 7), -50);
    }

    /** "CHILDREN: as PASTOR, and OWES." */
    private static void childrenAndOwes() {
        HangmanDinner x = HelperDue.street(h(5, 9, 7), h(2, 9, 7));
        for (int owes = 0; owes <= 9; owes++) {
            x.set(0, 1, owes);
            x.set(1, 1, owes);
            due("children owe " + owes, x.of(0, 7), 3 + owes);
            due("a pastor owes " + owes, x.of(1, 7), 3);
        }
        HelperDue.town(x, "ease 10 k=5");
        due("half of -3, and 9", x.of(0, 7), 8);
    }

    /** "TOLD: as WIDOW, and its ROW (four numbers 0 .. 9; 0 at first) at WEEK modulo 4 more." */
    private static void toldAndRow() {
        HangmanDinner x = HelperDue.street(h(6, 9, 20));
        x.shut(0, true);
        int[] row = {9, 0, 5, 2};
        for (int part = 0; part < 4; part++) due("row " + part, x.row(0, part, row[part]), 0);
        for (int week = 0; week < 9; week++) {
            due("told one in week " + week, x.of(0, 7), 20 + row[week % 4]);
            x.pass(1);
        }
        due("row 10", x.row(0, 0, 10), -2);
        due("row -1", x.row(0, 3, -1), -2);
        due("part 4", x.row(0, 4, 0), -1);
        due("part -1", x.row(0, -1, 0), -1);
    }

    /** "A HOUSE is ILL, if DREAD is ILL'S number or more, or it is SHUT." */
    private static void illByItsNumber() {
        int[][] rows = {{59, 0}, {60, 1}, {61, 1}};
        for (int[] row : rows) {
            HangmanDinner x = HelperDue.street(h(0, 0, row[0]));
            due("dread " + row[0], x.of(0, 8), row[1]);
            due("bits by dread " + row[0], x.told(6), row[1]);
            due("host by dread " + row[0], x.told(5), row[1] == 1 ? -5 : 0);
            due("it was open", x.shut(0, true), 0);
            due("shut, dread " + row[0], x.of(0, 8), 1);
            due("it was shut", x.shut(0, true), 1);
            due("it was shut", x.shut(0, false), 1);
            due("it was open", x.shut(0, false), 0);
            due("open, dread " + row[0], x.of(0, 8), row[1]);
        }
        HangmanDinner x = HelperDue.street(h(0, 0, 0), h(0, 0, 1), h(0, 0, 99), h(0, 0, 98));
        HelperDue.town(x, "ill 0");
        due("ill 0: all", x.told(6), 15);
        HelperDue.town(x, "ease 1 p=0;ill 0");
        due("ill 0: -1 is below it", x.told(6), 14);
        HelperDue.town(x, "ill 1");
        due("ill 1", x.told(6), 14);
        HelperDue.town(x, "ill 99");
        due("ill 99", x.told(6), 4);
        HangmanDinner all = HelperDue.plain(6);
        for (int house = 0; house < 6; house++) {
            all.shut(house, true);
            due("bits of those who are shut", all.told(6), (2 << house) - 1);
        }
    }

    /** "on THE STREET from POINT on, one behind the other, the first behind the last, each HOUSE once, the first that is not ILL is HOST" */
    private static void fromPointOn() {
        for (int size = 1; size <= 6; size++) {
            for (int point = 0; point < size; point++) {
                for (int host = 0; host < size; host++) {
                    HangmanDinner x = HelperDue.plain(size);
                    x.pass(point);
                    due("point", x.told(2), point);
                    for (int house = 0; house < size; house++) x.shut(house, house != host);
                    due("the only one of " + size + " from " + point, x.told(5), host);
                    x.pass(1);
                    for (int house = 0; house < size; house++) {
                        boolean ahead = (house - point + size) % size < (host - point + size) % size;
                        due("owes " + house + " of " + size + ", from " + point + " to " + host, x.of(house, 3), ahead ? 1 : 0);
                    }
                    due("point behind " + host + " of " + size, x.told(2), (host + 1) % size);
                }
            }
        }
    }

    /** "each ILL one ahead of it OWES 1 more (9 at most)" */
    private static void owesNineAtMost() {
        HangmanDinner x = HelperDue.plain(3);
        x.shut(0, true);
        x.set(0, 1, 7);
        x.shut(2, true);
        int[] wants = {8, 9, 9, 9};
        for (int i = 0; i < wants.length; i++) {
            // From 0 on it is 0 that is ahead; from 2 on it is 2 and 0.
            x.pass(1);
            due("owes, Thursday " + i, x.of(0, 3), wants[i]);
            due("the one ahead of it owes, Thursday " + i, x.of(2, 3), i);
            due("the host owes nothing", x.of(1, 3), 0);
        }
        x.set(0, 1, 9);
        x.shut(0, false);
        x.pass(1);
        due("one that owes 9 has him", x.of(0, 3), 8);
    }

    /** "if it OWES, it OWES 1 less, and POINT is its own place; else POINT is the place behind it" */
    private static void hostOwes() {
        for (int owes = 0; owes <= 3; owes++) {
            HangmanDinner x = HelperDue.plain(3);
            x.set(0, 1, owes);
            for (int i = 0; i <= owes; i++) {
                due("host, owing " + owes, x.told(5), 0);
                due("point, owing " + owes, x.told(2), 0);
                x.pass(1);
                due("owes", x.of(0, 3), Math.max(0, owes - 1 - i));
                due("dined", x.of(0, 4), i + 1);
            }
            due("the next one", x.told(5), 1);
            due("point is behind it", x.told(2), 1);
        }
        // POINT is the place of the HOST, not the one from which on it was looked for.
        HangmanDinner far = HelperDue.plain(4);
        far.shut(0, true);
        far.shut(1, true);
        far.set(2, 1, 1);
        far.swap(2, 3);
        far.swap(2, 0);
        far.swap(2, 1);
        // THE STREET: 1 2 3 0.
        due("street", far.told(10) * 1000 + far.told(11) * 100 + far.told(12) * 10 + far.told(13), 1230);
        far.pass(1);
        due("point is its own place", far.told(2), 1);
        far.pass(1);
        due("point is behind it then", far.told(2), 2);
    }

    /** "(0 behind the last)" */
    private static void pointBehindTheLast() {
        for (int size = 1; size <= 6; size++) {
            HangmanDinner x = HelperDue.plain(size);
            x.pass(size - 1);
            due("point is the last of " + size, x.told(2), size - 1);
            x.pass(1);
            due("point is 0 behind the last of " + size, x.told(2), 0);
            x.house(0, 0, 0);
            due("a house more changes no point", x.told(2), 0);
            x.set(size - 1, 1, 1);
            x.pass(size);
            due("point is the last place itself, if it owed", x.told(2), size - 1);
        }
    }

    /** "If all are ILL, nobody is HOST: HUNGRY is 1 more, nothing else (OWES, POINT stay). WEEK is 1 more." */
    private static void allIll() {
        HangmanDinner x = HelperDue.plain(3);
        for (int house = 0; house < 3; house++) {
            x.set(house, 1, 3 * house);
            x.set(house, 2, 255);
        }
        x.pass(1);
        for (int house = 0; house < 3; house++) x.shut(house, true);
        due("nobody", x.told(5), -5);
        for (int i = 1; i <= 9; i++) {
            due("week", x.pass(1), 1 + i);
            due("hungry", x.told(3), i);
            due("clashes stay", x.told(4), 1);
            due("point stays", x.told(2), 1);
            for (int house = 0; house < 3; house++) {
                due("owes stays", x.of(house, 3), 3 * house);
                due("dined stays", x.of(house, 4), house == 0 ? 1 : 0);
            }
        }
        x.shut(1, false);
        x.pass(1);
        due("hungry no more", x.told(3), 9);
    }

    /** "CLASHES is 1 more, if WEEK modulo 8 is among its TRIALS" : the HOST's, and the WEEK's that goes */
    private static void weekModulo8() {
        HangmanDinner x = HelperDue.plain(2);
        x.set(1, 2, 0x55);
        x.pass(16);
        due("even weeks are the other one's", x.told(4), 0);
        x.set(1, 2, 0xaa);
        x.pass(16);
        due("odd weeks are its own", x.told(4), 8);
        x.shut(1, true);
        x.pass(16);
        due("of one who is not host, none", x.told(4), 8);
        x.shut(0, true);
        x.set(0, 2, 255);
        x.pass(8);
        due("without a host, none", x.told(4), 8);
    }

    /** "(DINED, HUNGRY, CLASHES 9999 at most; without HOUSES HUNGRY is 1 more.)" */
    private static void at9999() {
        HangmanDinner hosts = HelperDue.plain(1);
        hosts.set(0, 2, 255);
        HangmanDinner shut = HelperDue.plain(1);
        shut.shut(0, true);
        HangmanDinner bare = new HangmanDinner();
        HangmanDinner[] all = {hosts, shut, bare};
        for (HangmanDinner x : all) {
            for (int i = 0; i < 166; i++) x.pass(60);
            due("week", x.told(0), 9960);
            due("40 more are too many", x.pass(40), -3);
            due("39 more", x.pass(39), 9999);
            due("one more is too many", x.pass(1), -3);
            due("none more", x.pass(0), 9999);
            due("61 more are bad", x.pass(61), -2);
            due("-1 more are bad", x.pass(-1), -2);
            due("week", x.told(0), 9999);
        }
        due("dined", hosts.of(0, 4), 9999);
        due("clashes", hosts.told(4), 9999);
        due("not hungry", hosts.told(3), 0);
        due("hungry", shut.told(3), 9999);
        due("hungry without houses", bare.told(3), 9999);
        due("a book of 9999", hosts.book(0, 9999), 1);
        due("all is so", hosts.looked(), -5);
        due("week 9999 modulo 10", HelperDue.town(hosts, "fear 5 w=9&d=9"), 0);
        due("week 9999 modulo 10", hosts.of(0, 7), 5);
    }
}
