/** The boundaries that Terms, part 2, names, sentence by sentence: what is asked, SEEN, PLANS, BOOKS, ACTS, THE IMAGE. */
public final class AskedTest {
    private static final int MIN = Integer.MIN_VALUE, MAX = Integer.MAX_VALUE;
    private static final long NO = Long.MIN_VALUE;

    private static void due(String call, long got, long want) {
        HelperDue.due(call, got, want);
    }

    private static int[] h(int kind, int v, int base) {
        return HelperDue.h(kind, v, base);
    }

    public static void main(String[] args) {
        onSixty();
        onNobody();
        onBeyond9999();
        comesWithinSixty();
        comesNever();
        doorsOfTwenty();
        doorsOfOne();
        doorsFirstOfSeveral();
        doorsNone();
        feignOneToSix();
        feignOnThisThursdayAlone();
        feignOfThoseNotShut();
        feignTheLeast();
        feignLessOften();
        seenOfTwelve();
        seenFiveRows();
        seenNobody();
        basesFromZeroToNinetyNine();
        canFromZeroToNine();
        oddsInLowestTerms();
        meanInLowestTerms();
        planTenRows();
        planRows();
        bookEightRows();
        bookOf9999();
        actsWrap();
        bodiesByKind();
        traceOfTheLatest();
        imageOfEach();
        imageOfFullRows();
        imageWithoutTheRest();
        imageByItself();
        HelperDue.end();
    }

    /** "ON n THURSDAYS (0 .. 60)" */
    private static void onSixty() {
        HangmanDinner x = HelperDue.plain(2);
        x.set(0, 2, 255);
        x.set(1, 1, 9);
        for (int n = 0; n <= 60; n++) {
            // First 0; then ten times 1, that owes 9; then by turns, 0 first.
            int first = n <= 11 ? Math.min(n, 1) : 1 + (n - 10) / 2;
            due("dined of 0 behind " + n, x.on(n, 10), first);
            due("dined of 1 behind " + n, x.on(n, 11), n - first);
            due("clashes behind " + n, x.on(n, 1), x.on(n, 10));
            due("hungry behind " + n, x.on(n, 2), 0);
            due("owes of 1 behind " + n, x.on(n, 21), n == 0 ? 9 : Math.max(0, 10 - n));
        }
        HangmanDinner told = HelperDue.street(h(6, 0, 58), h(0, 0, 0));
        for (int part = 0; part < 4; part++) told.row(0, part, part == 1 ? 2 : 9);
        // In week 0 67, 1 is host; in week 1 60, 1 again; in week 4 67; so it is never host, and owes.
        for (int n = 0; n < 6; n++) due("a told one by its row, host on " + n, told.on(n, 0), 1);
        told.row(0, 1, 1);
        due("a told one by another row, in week 1", told.on(1, 0), 0);
        due("and in week 2", told.on(2, 0), 1);
        due("on 61", x.on(61, 0), -2);
        due("on -1", x.on(-1, 0), -2);
        due("who on 60", x.on(60, 0), x.on(58, 0));
        due("who on 0 is who is now", x.on(0, 0), x.told(5));
    }

    /** "who is HOST on the one then (-5: nobody)"; HUNGRY */
    private static void onNobody() {
        HangmanDinner x = HelperDue.plain(2);
        HelperDue.town(x, "fear 60 w=3|w=4");
        int[] wants = {0, 1, 0, -5, -5, 1, 0, 1, 0, 1, 0, 1, 0, -5, -5, 1};
        int[] hungry = {0, 0, 0, 0, 1, 2, 2, 2, 2, 2, 2, 2, 2, 2, 3, 4};
        for (int n = 0; n < wants.length; n++) {
            due("host on " + n, x.on(n, 0), wants[n]);
            due("hungry behind " + n, x.on(n, 2), hungry[n]);
        }
        HangmanDinner bare = new HangmanDinner();
        due("no houses: host", bare.on(60, 0), -5);
        due("no houses: clashes", bare.on(60, 1), 0);
        due("no houses: hungry", bare.on(60, 2), 60);
        due("no houses: dined of 0", bare.on(60, 10), -1);
        due("no houses: owes of 0", bare.on(60, 20), -1);
    }

    private static void weeks(HangmanDinner x, int n) {
        for (int i = 0; i < n / 60; i++) x.pass(60);
        x.pass(n % 60);
        due("week", x.told(0), n);
    }

    /** "goes on from how all is (WEEKS, DINED, HUNGRY, CLASHES beyond 9999, too)" */
    private static void onBeyond9999() {
        HangmanDinner x = HelperDue.plain(1);
        x.set(0, 2, 255);
        weeks(x, 9999);
        due("dined behind 0", x.on(0, 10), 9999);
        due("dined behind 1", x.on(1, 10), 10000);
        due("dined behind 60", x.on(60, 10), 10059);
        due("clashes behind 1", x.on(1, 1), 10000);
        due("clashes behind 60", x.on(60, 1), 10059);
        due("mean of 60", x.mean(60, 0), 10059);
        for (int i = 0; i < 10; i++) x.plan(0, 0);
        due("ends in 10009", x.ends(0), 10009);
        // WEEK goes on: 9999, 10000, .. modulo 10 is 9, 0, ..
        HelperDue.town(x, "fear 60 w=0");
        due("week 10000 by its last digit", x.on(1, 0), -5);
        due("week 10001 by its last digit", x.on(2, 0), 0);
        due("comes", x.of(0, 9), 0);
        HelperDue.town(x, "fear 60 w<9");
        x.shut(0, false);
        due("comes in week 9999", x.of(0, 9), 0);
        HelperDue.town(x, "fear 60 w=9");
        due("comes in week 10000", x.of(0, 9), 1);
        // DINED modulo 10 goes on, too: 9999, 10000.
        HelperDue.town(x, "fear 60 d=0");
        due("dined 10000 by its last digit", x.on(1, 0), -5);
        due("hungry ever after", x.on(60, 2), 59);
        x.see(12, -1);
        due("seen then", x.can(0, 1, 0), 10);

        HangmanDinner shut = HelperDue.plain(1);
        shut.shut(0, true);
        weeks(shut, 9999);
        due("hungry behind 0", shut.on(0, 2), 9999);
        due("hungry behind 1", shut.on(1, 2), 10000);
        due("hungry behind 60", shut.on(60, 2), 10059);
        shut.plan(0, 0);
        due("hungry by the plan", shut.ends(1), 10000);

        // WEEK modulo 8 and 4: 9999 is 7 and 3; 10002 is 2 and 2. POINT is 1.
        HangmanDinner rich = HelperDue.street(h(1, 9, 51), h(0, 0, 0));
        rich.set(1, 2, 4);
        rich.shut(1, true);
        weeks(rich, 9999);
        rich.shut(1, false);
        rich.set(1, 1, 0);
        int[] hosts = {1, 0, 1, 1, 0};
        for (int n = 0; n < hosts.length; n++) due("host in week " + (9999 + n), rich.on(n, 0), hosts[n]);
        due("no clash behind 3", rich.on(3, 1), 0);
        due("a clash behind 4", rich.on(4, 1), 1);
        due("doors of 4", rich.doors(4), -5);
    }

    /** "COMES to a HOUSE: the fewest THURSDAYS (0 .. 60) behind which it is HOST on the one then" */
    private static void comesWithinSixty() {
        HangmanDinner x = HelperDue.plain(6);
        for (int house = 0; house < 6; house++) due("comes to " + house, x.of(house, 9), house);
        x.pass(2);
        for (int house = 0; house < 6; house++) due("comes to " + house + " from 2 on", x.of(house, 9), (house + 4) % 6);
        // 0 has him as often as it owes more, and once more: 1 to 9 times 6 and so on stand ahead of 5.
        HangmanDinner y = HelperDue.plain(6);
        int[] owes = {9, 9, 9, 9, 9};
        for (int house = 0; house < 5; house++) y.set(house, 1, owes[house]);
        due("comes behind five that owe 9", y.of(5, 9), 50);
        HangmanDinner z = HelperDue.plain(2);
        HelperDue.town(z, "fear 60 p=1&w<7");
        due("comes when it is not ill any more", z.of(1, 9), 7);
        z.pass(7);
        due("comes now", z.of(1, 9), 0);
        due("comes to the other in week 10, when 1 is ill again", z.of(0, 9), 3);
    }

    /** "(-5: not by then)": 60 is the last */
    private static void comesNever() {
        for (int owed = 0; owed <= 1; owed++) {
            HangmanDinner x = HelperDue.plain(6);
            HelperDue.town(x, "fear 99 w>0;ill 90");
            x.set(0, 1, 1 + owed);
            // Only in weeks 0, 10, .. is there a HOST: 0 once or twice more, then 1, 2, 3, 4, 5.
            due("comes to 5, owed " + owed, x.of(5, 9), owed == 0 ? 60 : -5);
            due("comes to 4, owed " + owed, x.of(4, 9), owed == 0 ? 50 : 60);
        }
        HangmanDinner shut = HelperDue.plain(2);
        shut.shut(1, true);
        due("one who is shut", shut.of(1, 9), -5);
        due("the other", shut.of(0, 9), 0);
    }

    /** "DOORS of n THURSDAYS (1 .. 20)": the last of them counts, the one behind it does not */
    private static void doorsOfTwenty() {
        // He comes to place n modulo 5; weeks 3, 11, 19 are place 3, 1, 4. Only 4 has its trial in week 3 modulo 8.
        HangmanDinner x = HelperDue.plain(5);
        x.set(4, 2, 8);
        due("of 19 there is no clash", x.doors(19), -5);
        due("of 20 there is one: 4 goes to place 0", x.doors(20), 4);
        due("of 21", x.doors(21), -2);
        // With the doors of 1 and 4 changed, the clash of week 11 is one, too.
        x.set(4, 2, 0);
        x.set(1, 2, 8);
        due("of 11 there is no clash", x.doors(11), -5);
        due("of 12 there is one: 1 goes to place 0", x.doors(12), 1);
    }

    private static void doorsOfOne() {
        HangmanDinner x = HelperDue.plain(2);
        x.set(0, 2, 1);
        due("of 1", x.doors(1), 1);
        due("of 0", x.doors(0), -2);
        due("of -1", x.doors(-1), -2);
        x.set(0, 2, 2);
        due("of 1 there is no clash in week 1", x.doors(1), -5);
        x.set(1, 2, 2);
        due("of 2: both alike", x.doors(2), -5);
        x.set(0, 2, 0);
        due("of 2: 1 ahead", x.doors(2), 1);
    }

    /** "(of several the first": by 10 times the lesser and the greater number */
    private static void doorsFirstOfSeveral() {
        // Whoever is changed with 5, that has its trial this week, does as well.
        HangmanDinner x = HelperDue.plain(6);
        x.pass(5);
        x.set(5, 2, 32);
        due("0 and 5 of five", x.doors(1), 5);
        x.set(0, 2, 32);
        due("1 and 5 of four", x.doors(1), 15);
        x.set(1, 2, 32);
        x.set(2, 2, 32);
        due("3 and 5 of two", x.doors(1), 35);
        x.set(3, 2, 32);
        due("4 and 5", x.doors(1), 45);
        x.set(4, 2, 32);
        due("none", x.doors(1), -5);
        // The least goes ahead of the first: 0 and 1 leave one clash, 0 and 2 none.
        HangmanDinner y = HelperDue.plain(3);
        y.set(0, 2, 1);
        y.set(1, 2, 2);
        y.set(2, 2, 0);
        // As it is two. 0 1: week 0 is 1's, week 1 is 0's: none. 0 2: week 1 stays: one. 1 2: week 0 stays: one.
        due("none left by 0 and 1", y.doors(2), 1);
        y.set(0, 2, 3);
        y.set(1, 2, 2);
        // 0 1: week 1 is 0's: one. 0 2: week 1 is 1's: one. 1 2: week 0 is 0's: one.
        due("one left by each", y.doors(2), 1);
        y.set(1, 2, 3);
        y.set(2, 2, 2);
        y.set(0, 2, 2);
        // As it is, 1 in week 1 alone. 0 1: week 0 is 1's, week 1 is 0's: two. 0 2: week 1 is 1's: one. 1 2: 2's: one.
        due("none is less", y.doors(2), -5);
        y.set(2, 2, 1);
        // 1 2: week 0 is 0's (none), week 1 is 2's (none).
        due("1 and 2 alone", y.doors(2), 12);
    }

    /** "if less than as it is (..; -5: none)" */
    private static void doorsNone() {
        due("no houses", new HangmanDinner().doors(20), -5);
        HangmanDinner one = HelperDue.plain(1);
        one.set(0, 2, 255);
        due("one house", one.doors(20), -5);
        HangmanDinner alike = HelperDue.plain(6);
        for (int house = 0; house < 6; house++) alike.set(house, 2, 255);
        due("all alike", alike.doors(20), -5);
        HangmanDinner shut = HelperDue.plain(2);
        shut.set(0, 2, 255);
        shut.set(1, 2, 255);
        shut.shut(0, true);
        shut.shut(1, true);
        due("nobody is host", shut.doors(20), -5);
    }

    /** "FEIGN of n THURSDAYS (1 .. 6)" */
    private static void feignOneToSix() {
        HangmanDinner x = HelperDue.plain(1);
        due("of 0", x.feign(0, 0), -2);
        due("of 7", x.feign(7, 0), -2);
        // Alone, one dines n times, or n - 1 times, if it feigns.
        for (int n = 1; n <= 6; n++) {
            due("it feigns, of " + n, x.feign(n, 0), 1);
            due("it feigns, of " + n, x.feign(n, 1), 1);
        }
        HangmanDinner y = HelperDue.plain(2);
        due("of 1: both feign", y.feign(1, 1), 3);
        due("of 1: no other set", y.feign(1, 0), 1);
        // By {} and {1} he goes 0 1 0 1 0 1; by {0}, that owes then, 1 0 0 1 0 1; by {01} he goes hungry, then 0 1 0 1 0.
        // DINED of 2: 1 1, 1 1, 1 1, 1 0; of 6: 3 3, 3 3, 3 3, 3 2. By {0} it is 1 that gains by feigning, too.
        for (int n = 2; n <= 6; n += 4) {
            due("of " + n + ": {}, {1}, {01}", y.feign(n, 0), 3);
            due("of " + n + ": the least", y.feign(n, 1), 0);
        }
        // DINED of 3: 2 1, 2 1, 2 1, 1 1. By {1} it is 0 that gains; by {0} nobody does.
        due("of 3: {}, {0}, {01}", y.feign(3, 0), 3);
    }

    /** "all of it are SHUT, too, on this THURSDAY alone" */
    private static void feignOnThisThursdayAlone() {
        // Were they SHUT on the second as well, only {01} would rest, as whoever feigns would dine never.
        due("of 2", HelperDue.plain(2).feign(2, 0), 3);
        HangmanDinner x = HelperDue.plain(2);
        x.shut(1, true);
        for (int n = 1; n <= 6; n++) {
            // Were 1 open on the second, {} would rest, too: 0 would dine as often by either.
            due("one is shut for long, of " + n, x.feign(n, 0), 1);
            due("one is shut for long, of " + n, x.feign(n, 1), 1);
        }
        due("1 is still shut", x.of(1, 6), 1);
        due("0 is still open", x.of(0, 6), 0);
    }

    /** "of sets of HOUSES that are not SHUT" */
    private static void feignOfThoseNotShut() {
        HangmanDinner x = HelperDue.plain(6);
        HelperDue.town(x, "ill 0");
        // All are ill, feigning or not: each set rests.
        int sets = 64;
        for (int house = 0; house < 6; house++) {
            due("sets", x.feign(3, 0), sets);
            due("the least", x.feign(3, 1), 0);
            x.shut(house, true);
            sets /= 2;
        }
        due("all are shut: one set", x.feign(3, 0), 1);
        due("all are shut: it holds nobody", x.feign(3, 1), 0);
        due("no houses: one set", new HangmanDinner().feign(6, 0), 1);
        due("no houses: it holds nobody", new HangmanDinner().feign(6, 1), 0);
    }

    /** "How many sets REST; the least as bits" */
    private static void feignTheLeast() {
        for (int size = 1; size <= 6; size++) {
            HangmanDinner x = HelperDue.plain(size);
            // Of one THURSDAY, whoever is HOST gains by feigning; if all feign, whoever did not would have him.
            due("all of " + size, x.feign(1, 1), (1 << size) - 1);
            due("no other set", x.feign(1, 0), 1);
            x.shut(0, true);
            due("all but 0 of " + size, x.feign(1, 1), (1 << size) - 2);
            due("no other set", x.feign(1, 0), 1);
        }
    }

    /** "It RESTS, if no HOUSE .. has DINED less often .., were it .. otherwise": as often is no gain */
    private static void feignLessOften() {
        HangmanDinner x = HelperDue.plain(2);
        x.shut(1, true);
        HelperDue.town(x, "fear 60 p=0&w=0");
        due("who is ill anyhow dines as often", x.feign(1, 0), 2);
        due("the least", x.feign(1, 1), 0);
        HelperDue.town(x, "fear 60 p=0&w=1");
        // It has him now, or never by then.
        due("of 2", x.feign(2, 0), 1);
        due("of 2, it feigns", x.feign(2, 1), 1);
        // 2 is ill in week 1 alone. By {} he goes to 0, 1, 2; by {0}, that owes then, to 1, 0, 0: who feigns dines more often,
        // and gains by being out of the set. DINED by {01} is 2 0 1, by {012} 1 1 0.
        HangmanDinner out = HelperDue.plain(3);
        HelperDue.town(out, "fear 99 p=2&w=1");
        due("{}, {1}, {2}, {12}, {012}", out.feign(3, 0), 5);
        due("the least", out.feign(3, 1), 0);
        // 1 is SHUT: it would have DINED less often by other sets, but it is not asked.
        HangmanDinner had = HelperDue.plain(2);
        had.pass(2);
        had.shut(1, true);
        due("who is SHUT as it is does not count", had.feign(1, 0), 1);
        due("the other feigns", had.feign(1, 1), 1);
        // It has had him before: DINED counts from there on as well.
        HangmanDinner y = HelperDue.plain(2);
        y.pass(7);
        due("of 2, from 7 on", y.feign(2, 0), 3);
    }

    /** "in how many THURSDAYS n (0 .. 12; 0 this one)" */
    private static void seenOfTwelve() {
        for (int n = 0; n <= 12; n++) {
            HangmanDinner x = HelperDue.plain(3);
            due("see", x.see(n, n % 3), 1);
            due("it is so", x.can(n % 3, 1, 0), 10);
            due("and by all bases that are not ill", x.can(n % 3, 0, 0), 60);
            x.see(-1, 0);
            x.see(n, (n + 1) % 3);
            due("it is not so", x.can(0, 1, 0), 0);
        }
        HangmanDinner x = HelperDue.plain(3);
        due("n 13", x.see(13, 0), -2);
        due("n -2", x.see(-2, 0), -2);
        due("n -1: none", x.see(-1, 0), 0);
        due("none", x.count(2), 0);
    }

    /** "(.., 5 rows at most)": all of them are looked at */
    private static void seenFiveRows() {
        for (int wrong = 0; wrong <= 5; wrong++) {
            HangmanDinner x = HelperDue.plain(3);
            for (int i = 0; i < 5; i++) due("row " + i, x.see(i, i == wrong ? (i + 1) % 3 : i % 3), i + 1);
            due("a sixth", x.see(5, 2), -4);
            due("five", x.count(2), 5);
            due("otherwise in row " + wrong, x.can(0, 1, 0), wrong == 5 ? 10 : 0);
        }
        HangmanDinner x = HelperDue.plain(2);
        for (int i = 0; i < 5; i++) x.see(4 - i, (4 - i) % 2);
        due("in any order", x.can(0, 1, 0), 10);
        x.see(-1, 0);
        for (int i = 0; i < 5; i++) x.see(3, 1);
        due("one THURSDAY told five times", x.can(0, 1, 0), 10);
        x.see(-1, 0);
        x.see(3, 1);
        x.see(3, 0);
        due("told otherwise as well", x.can(0, 1, 0), 0);
        due("none", x.can(0, 1, 1), -5);
        x.see(-1, 0);
        due("empty: all bases", x.can(0, 0, 0), 100);
        due("empty: the least", x.can(0, 0, 1), 0);
        due("empty: all v", x.can(0, 1, 0), 10);
        due("empty: the least", x.can(0, 1, 1), 0);
    }

    /** "who is HOST then (a HOUSE, or nobody" */
    private static void seenNobody() {
        HangmanDinner x = HelperDue.plain(2);
        x.see(2, -1);
        due("nobody, but there is one", x.can(0, 1, 0), 0);
        HelperDue.town(x, "fear 60 w=2");
        due("nobody, and there is none", x.can(0, 1, 0), 10);
        x.see(2, 0);
        due("and one as well", x.can(0, 1, 0), 0);
        HangmanDinner bare = new HangmanDinner();
        due("nobody without houses", bare.see(12, -1), 1);
        due("house 0 without houses", bare.see(12, 0), -1);
        due("house -2", bare.see(12, -2), -1);
    }

    /** "BASES of a HOUSE: how many numbers (0 .. 99) there are ..; the least (-5: none)" */
    private static void basesFromZeroToNinetyNine() {
        int[] ills = {0, 1, 50, 99};
        for (int ill : ills) {
            HangmanDinner x = HelperDue.plain(2);
            HelperDue.town(x, "ill " + ill);
            x.see(0, 0);
            due("not ill by " + ill, x.can(0, 0, 0), ill);
            due("not ill by " + ill + ", the least", x.can(0, 0, 1), ill == 0 ? -5 : 0);
            x.see(-1, 0);
            // 1 is host, or nobody by ILL'S number 0.
            x.see(0, ill == 0 ? -1 : 1);
            due("ill by " + ill, x.can(0, 0, 0), 100 - ill);
            due("ill by " + ill + ", the least", x.can(0, 0, 1), ill);
        }
        HangmanDinner x = HelperDue.street(h(0, 0, 77), h(0, 0, 5));
        due("its own base is no matter", x.can(0, 0, 0), 100);
        x.see(0, 1);
        due("77 is ill", x.can(0, 0, 0), 40);
        due("the other's base stays 5, and 0's 77", x.can(1, 0, 0), 60);
        due("base stays", x.of(0, 2), 77);
    }

    /** "CAN of a HOUSE: how many numbers v (0 .. 9) likewise; the least (-5: none)." */
    private static void canFromZeroToNine() {
        for (int v = 0; v <= 9; v++) {
            HangmanDinner x = HelperDue.street(h(0, 3, 0), h(0, 4, 0));
            HelperDue.town(x, "fear 60 p=0&v=" + v);
            x.see(0, 1);
            due("v " + v + " alone", x.can(0, 1, 0), 1);
            due("v " + v, x.can(0, 1, 1), v);
            x.see(-1, 0);
            x.see(0, 0);
            due("all but " + v, x.can(0, 1, 0), 9);
            due("all but " + v + ", the least", x.can(0, 1, 1), v == 0 ? 1 : 0);
            due("v stays", x.of(0, 1), 3);
        }
        HangmanDinner x = HelperDue.street(h(0, 3, 0), h(0, 4, 0));
        x.see(0, 1);
        due("by none", x.can(0, 1, 0), 0);
        due("by none", x.can(0, 1, 1), -5);
        due("by none of the other", x.can(1, 1, 1), -5);
    }

    /** "how likely the told one is HOST on this THURSDAY: a fraction in lowest terms" */
    private static void oddsInLowestTerms() {
        for (int size = 1; size <= 6; size++) {
            HangmanDinner x = HelperDue.plain(size);
            for (int house = 0; house < size; house++) {
                int times = house == 0 ? size - 1 : house == 1 ? 1 : 0;
                due("above, " + house + " of " + size, x.odds(house, 0), times);
                due("below, " + house + " of " + size, x.odds(house, 1), times == 0 ? 1 : size);
            }
            // Those who are SHUT already are of the same likelihood: SHUT once more they change nothing.
            for (int house = 1; house < size; house++) x.shut(house, true);
            due("above, the only one of " + size, x.odds(0, 0), size - 1);
            due("below, the only one of " + size, x.odds(0, 1), size == 1 ? 1 : size);
        }
        HangmanDinner four = HelperDue.plain(4);
        four.shut(0, true);
        // By 0, 2, 3 it is 1; by 1 it is 2.
        due("three of four", four.odds(1, 0) * 10 + four.odds(1, 1), 34);
        due("one of four", four.odds(2, 0) * 10 + four.odds(2, 1), 14);
        HangmanDinner six = HelperDue.plain(6);
        for (int house = 0; house < 6; house++) six.set(house, 0, house == 1 || house == 4 ? 0 : 60);
        // By 1 it is 4; by the other five it is 1.
        due("five of six", six.odds(1, 0) * 10 + six.odds(1, 1), 56);
        due("one of six", six.odds(4, 0) * 10 + six.odds(4, 1), 16);
        due("none of six is 0 of 1", six.odds(0, 0) * 10 + six.odds(0, 1), 1);
        due("no such house", six.odds(6, 0), NO);
        due("no houses", new HangmanDinner().odds(0, 0), NO);
    }

    /** "MEAN of n THURSDAYS (0 .. 60): DINED of all behind n, together, by how many they are ..(NO: there are none)" */
    private static void meanInLowestTerms() {
        int[] aboves = {0, 1, 1, 1, 2, 5, 1, 7, 4, 3, 5, 11, 2};
        int[] belows = {1, 6, 3, 2, 3, 6, 1, 6, 3, 2, 3, 6, 1};
        HangmanDinner x = HelperDue.plain(6);
        for (int n = 0; n < aboves.length; n++) {
            due("mean of " + n + ", above", x.mean(n, 0), aboves[n]);
            due("mean of " + n + ", below", x.mean(n, 1), belows[n]);
        }
        due("mean of 60, above", x.mean(60, 0), 10);
        due("mean of 60, below", x.mean(60, 1), 1);
        due("mean of 59, above", x.mean(59, 0), 59);
        due("mean of 59, below", x.mean(59, 1), 6);
        due("mean of 61", x.mean(61, 0), NO);
        due("mean of -1", x.mean(-1, 1), NO);
        due("no houses", new HangmanDinner().mean(0, 0), NO);
        due("no houses", new HangmanDinner().mean(0, 1), NO);
        due("no houses", new HangmanDinner().mean(60, 1), NO);
    }

    /** "(.., 10 rows at most)": all of them go */
    private static void planTenRows() {
        HangmanDinner x = HelperDue.plain(1);
        x.set(0, 2, 255);
        due("empty", x.ends(0), 0);
        for (int i = 1; i <= 10; i++) {
            due("row " + i, x.plan(0, 0), i);
            due("ends", x.ends(0), i);
            due("ends, hungry", x.ends(1), 0);
        }
        due("an eleventh", x.plan(0, 0), -4);
        due("ten", x.count(3), 10);
        due("ends", x.ends(0), 10);
        due("empty then", x.plan(-1, MIN), 0);
        due("none", x.count(3), 0);
        due("ends as it is", x.ends(0), 0);
        x.shut(0, true);
        x.pass(2);
        due("ends as it is", x.ends(1), 2);
    }

    /** "what goes (0 a THURSDAY, 1 a HOUSE is SHUT, 2 it is not, 3 it OWES nothing" */
    private static void planRows() {
        HangmanDinner x = HelperDue.plain(2);
        x.set(0, 2, 255);
        x.set(0, 1, 2);
        int[][] rows = {{0, 0}, {0, 0}, {0, 0}, {0, 0}, {0, 0}};
        for (int[] row : rows) x.plan(row[0], row[1]);
        due("0 three times, 1, 0", x.ends(0), 4);
        x.plan(-1, 0);
        x.plan(0, 0);
        x.plan(3, 0);
        for (int i = 0; i < 4; i++) x.plan(0, 0);
        due("0 twice, 1, 0, 1", x.ends(0), 3);
        x.plan(1, 0);
        x.plan(0, 0);
        due("0 is shut: 1", x.ends(0), 3);
        HangmanDinner zero = HelperDue.plain(1);
        zero.set(0, 1, 9);
        HelperDue.town(zero, "fear 60 o=0");
        zero.plan(0, 0);
        due("it owes something: it is not ill", zero.ends(1), 0);
        zero.plan(3, 0);
        zero.plan(0, 0);
        due("it owes nothing, 0: it is ill", zero.ends(1), 1);
        x.plan(1, 1);
        x.plan(0, 0);
        due("both are shut", x.ends(1), 1);
        x.plan(-1, 0);
        x.shut(0, true);
        x.plan(0, 0);
        x.plan(2, 0);
        x.plan(0, 0);
        // 1, then 0, that is open again.
        due("0 is open", x.ends(0), 1);
        due("a THURSDAY of any house", x.plan(0, MAX), 4);
        due("a THURSDAY of any house", x.plan(0, -1), 5);
        due("1 of none", x.plan(1, 2), -1);
        due("2 of none", x.plan(2, -1), -1);
        due("3 of none", x.plan(3, 2), -1);
        due("4", x.plan(4, 0), -1);
        due("-2", x.plan(-2, 0), -1);
        due("five", x.count(3), 5);
    }

    /** "HOUSES, DINED (..; 8 at most)": "the number (from 0) of the first of these rows by which it is otherwise now (-5: none)" */
    private static void bookEightRows() {
        for (int wrong = 0; wrong <= 8; wrong++) {
            HangmanDinner x = HelperDue.plain(2);
            x.pass(3);
            due("empty", x.looked(), -5);
            for (int i = 0; i < 8; i++) due("row " + i, x.book(i % 2, (i == wrong ? 1 : 0) + 2 - i % 2), i + 1);
            due("a ninth", x.book(0, 0), -4);
            due("eight", x.count(4), 8);
            due("the first that is otherwise", x.looked(), wrong == 8 ? -5 : wrong);
            x.book(-1, 0);
            due("empty again", x.looked(), -5);
        }
        HangmanDinner x = HelperDue.plain(1);
        x.book(0, 1);
        x.book(0, 0);
        x.book(0, 1);
        due("the first of two", x.looked(), 0);
        x.pass(1);
        due("now the second", x.looked(), 1);
    }

    /** "DINED (0 .. 9999" of a BOOK */
    private static void bookOf9999() {
        HangmanDinner x = HelperDue.plain(1);
        due("0", x.book(0, 0), 1);
        due("9999", x.book(0, 9999), 2);
        due("10000", x.book(0, 10000), -2);
        due("-1", x.book(0, -1), -2);
        due("two", x.count(4), 2);
        due("0 dined never", x.looked(), 1);
    }

    /** "ACTS of a HOUSE with x (wrapping)" */
    private static void actsWrap() {
        HangmanDinner x = HelperDue.street(h(0, 9, 0), h(0, 9, 0), h(1, 9, 0), h(2, 9, 0), h(4, 9, 0), h(6, 9, 0));
        due("10: MAX + 1", x.act(1, 0, MAX), MIN);
        due("11: MIN - 9", x.act(0, 1, MIN), MAX - 8);
        due("12: twice", x.act(0, 2, MIN), -18);
        due("12: twice, above", x.act(1, 2, 0x40000000 + 8), MIN);
        due("20: ^ 6", x.act(2, 1, MAX), (MIN + 1 - 9) ^ 6);
        due("30: three times", x.act(3, 0, MAX), MAX - 2 + 3);
        due("30: three times MIN", x.act(3, 0, MIN), MIN + 3);
        due("50: -MIN is MIN", x.act(4, 0, MIN - 4), MIN);
        due("51: MAX + 1", x.act(4, 1, MAX), (-(MIN + 4) - 9) ^ 6);
        due("71: ^ 9", x.act(5, 0, MAX), (MIN + 4) ^ 9);
        due("70: a sum beyond", x.act(5, 1, MIN + 3), (((MIN + 8) ^ 9) - 9) + 7);
        HangmanDinner y = HelperDue.street(h(0, 0, 0), h(5, 1, 0), h(3, 0, 0));
        due("60: MIN - 1", y.act(1, 2, MIN), (MAX * 3 + 1 - 1) * 2);
        due("40: a sum beyond", y.act(2, 2, 0x3fffffff - 2), MAX - 1 + 3);
        due("40: no sum beyond", y.act(2, 2, -3), 1);
    }

    /** "the body of its KIND, or, if that has none, of the next KIND above that has one": which body begins */
    private static void bodiesByKind() {
        int[][] first = {{10, 11, 12}, {10, 20, 12}, {30, 11, 12}, {10, 11, 40}, {50, 51, 12}, {30, 11, 60}, {71, 70, 40}};
        int[][] many = {{1, 2, 3}, {1, 3, 4}, {2, 3, 4}, {1, 2, 6}, {2, 5, 6}, {2, 3, 5}, {2, 5, 12}};
        for (int kind = 0; kind < 7; kind++) {
            HangmanDinner x = HelperDue.street(h(kind, 1, 0));
            for (int act = 0; act < 3; act++) {
                x.act(0, act, 1);
                due("first body of kind " + kind + ", act " + act, x.trace(0), first[kind][act]);
                due("how many of kind " + kind + ", act " + act, x.count(6), many[kind][act]);
                due("the last of them is 10", x.trace(many[kind][act] - 1), 10);
                due("none behind it", x.trace(many[kind][act]), -1);
                due("none ahead of it", x.trace(-1), -1);
            }
        }
    }

    /** "THE TRACE: the numbers of the bodies that ran in the latest act(), as they began": none by a refused one */
    private static void traceOfTheLatest() {
        HangmanDinner x = HelperDue.street(h(6, 5, 0));
        int[] all = {40, 12, 70, 11, 71, 10, 10, 70, 11, 71, 10, 10};
        x.act(0, 2, 3);
        for (int i = 0; i < all.length; i++) due("body " + i, x.trace(i), all[i]);
        for (int i = all.length; i < 24; i++) due("no body " + i, x.trace(i), -1);
        int[][] refused = {{1, 0}, {-1, 0}, {0, 3}, {0, -1}, {MAX, MAX}, {MIN, MIN}};
        for (int[] r : refused) {
            x.act(0, 2, 3);
            due("no such house or act", x.act(r[0], r[1], 3), 0);
            due("no trace then", x.trace(0), -1);
            due("none ran", x.count(6), 0);
        }
        HangmanDinner bare = new HangmanDinner();
        due("no houses", bare.act(0, 0, 5), 0);
        due("no trace", bare.trace(0), -1);
        due("none ran", bare.count(6), 0);
    }

    private interface Change {
        void on(HangmanDinner x);
    }

    private interface Ask {
        long of(HangmanDinner x);
    }

    private static void imaged(String what, Ask ask, Change change) {
        HangmanDinner x = HelperDue.street(h(6, 3, 10), h(0, 4, 20), h(5, 6, 30));
        HelperDue.town(x, "fear 1 w=0;ill 50");
        x.set(0, 1, 2);
        x.set(0, 2, 13);
        x.row(0, 2, 4);
        x.pass(2);
        x.see(0, 0);
        x.plan(0, 0);
        x.book(0, 2);
        long before = ask.of(x);
        due(what + ": image", x.image(), 3);
        change.on(x);
        due(what + " is otherwise then", ask.of(x) == before ? 1 : 0, 0);
        due(what + ": undo", x.undo(), 3);
        due(what + " is as the image", ask.of(x), before);
        change.on(x);
        due(what + " is otherwise again", ask.of(x) == before ? 1 : 0, 0);
        due(what + ": undo again", x.undo(), 3);
        due(what + " is as the image again", ask.of(x), before);
    }

    /** "THE IMAGE: HOUSES with all that is theirs, THE STREET, POINT, HUNGRY, CLASHES, WEEK, SEEN, the PLAN, the BOOK, which TOWN holds." */
    private static void imageOfEach() {
        imaged("houses", x -> x.count(0), x -> x.house(0, 0, 0));
        imaged("base", x -> x.of(1, 2), x -> x.set(1, 0, 21));
        imaged("owes", x -> x.of(0, 3), x -> x.set(0, 1, 7));
        imaged("dined", x -> x.of(0, 4), x -> x.pass(1));
        imaged("trials", x -> x.of(0, 5), x -> x.set(0, 2, 10));
        imaged("shut", x -> x.of(2, 6), x -> x.shut(2, true));
        imaged("row", x -> x.of(0, 7), x -> x.row(0, 2, 5));
        imaged("street", x -> x.told(10) * 100 + x.told(11) * 10 + x.told(12), x -> x.swap(0, 2));
        imaged("point", x -> x.told(2), x -> x.pass(2));
        imaged("hungry", x -> x.told(3), x -> {
            for (int house = 0; house < 3; house++) x.shut(house, true);
            x.pass(1);
        });
        imaged("clashes", x -> x.told(4), x -> {
            x.set(0, 2, 255);
            x.pass(1);
        });
        imaged("week", x -> x.told(0), x -> x.pass(1));
        imaged("seen", x -> x.count(2), x -> x.see(1, 1));
        imaged("seen, none", x -> x.count(2), x -> x.see(-1, 1));
        imaged("seen, who", x -> x.can(0, 1, 0), x -> {
            x.see(-1, 0);
            x.see(0, 1);
        });
        imaged("seen, when", x -> x.can(0, 1, 0), x -> {
            x.see(-1, 0);
            x.see(1, 0);
        });
        imaged("plan", x -> x.count(3), x -> x.plan(0, 0));
        imaged("plan, none", x -> x.count(3), x -> x.plan(-1, 0));
        imaged("plan, what", x -> x.ends(0), x -> {
            x.plan(-1, 0);
            x.plan(1, 0);
        });
        imaged("plan, of whom", x -> {
            x.plan(0, 0);
            return x.ends(0);
        }, x -> {
            x.plan(-1, 0);
            x.plan(1, 0);
        });
        imaged("book", x -> x.count(4), x -> x.book(0, 0));
        imaged("book, none", x -> x.count(4), x -> x.book(-1, 0));
        imaged("book, how often", x -> x.looked(), x -> {
            x.book(-1, 0);
            x.book(0, 9);
        });
        imaged("book, whom", x -> x.looked(), x -> {
            x.book(-1, 0);
            x.book(1, 2);
        });
        imaged("town", x -> x.told(1), x -> HelperDue.town(x, "ill 51"));
        imaged("kind and v of one that comes at the place of another", x -> x.of(3, 0) + x.of(3, 1), x -> x.house(4, 9, 9));
    }

    /** All rows of SEEN, the PLAN and the BOOK are of THE IMAGE, the first and the last. */
    private static void imageOfFullRows() {
        HangmanDinner x = HelperDue.plain(3);
        x.set(0, 2, 255);
        x.pass(1);
        for (int i = 0; i < 5; i++) x.see(3 * i, i < 4 ? 1 : 2);
        // Four THURSDAYS: 1, 2, then 0 is SHUT: 1, 2; then 0 that owes, twice: two clashes more.
        int[][] plan = {{0, 0}, {0, 0}, {1, 0}, {0, 0}, {0, 0}, {2, 0}, {1, 1}, {0, 0}, {0, 0}, {2, 1}};
        for (int[] row : plan) x.plan(row[0], row[1]);
        for (int i = 0; i < 8; i++) x.book(i % 3, i % 3 == 0 || i == 7 ? 1 : 0);
        for (int i = 0; i < 3; i++) {
            due("ends", x.ends(0), 3);
            due("the eighth of the book", x.looked(), 7);
            due("the last that is seen is not so", x.can(0, 1, 0), 0);
            if (i == 0) due("image", x.image(), 3);
            x.see(-1, 0);
            for (int n = 0; n < 5; n++) x.see(n, (n + 1) % 3);
            x.plan(-1, 0);
            for (int n = 0; n < 10; n++) x.plan(1 + n % 3, n % 3);
            x.book(-1, 0);
            for (int n = 0; n < 8; n++) x.book(2, 9);
            due("ends otherwise", x.ends(0), 1);
            due("the first of the book", x.looked(), 0);
            due("all that is seen is so", x.can(0, 1, 0), 10);
            due("undo", x.undo(), 3);
            due("five", x.count(2), 5);
            due("ten", x.count(3), 10);
            due("eight", x.count(4), 8);
        }
    }

    /** What THE IMAGE does not hold stays: TOWNS, THE TEXT, TAPES, THE TRACE. */
    private static void imageWithoutTheRest() {
        HangmanDinner x = HelperDue.street(h(0, 0, 0));
        x.image();
        HelperDue.town(x, "ill 5");
        HelperDue.feed(x, "il");
        x.tape(0, 3, 2);
        x.item(0, 1, 77);
        x.act(0, 2, 1);
        due("undo", x.undo(), 1);
        due("towns", x.count(1), 1);
        due("no town holds", x.told(1), 60);
        due("text", x.count(5), 2);
        due("tape", x.read(0, 1), 77);
        due("trace", x.trace(2), 10);
        due("three ran", x.count(6), 3);
        due("the text goes on", x.feed('l'), 3);
        due("its fault", x.town(), -13);
        for (int i = 1; i < 6; i++) due("town", HelperDue.town(x, "ill " + i), i);
        x.undo();
        due("there are six, though none holds", HelperDue.town(x, "ill 1"), -4);
        due("none holds", x.told(1), 60);
    }

    /** "STATE: there is none"; a refused call takes none; the newest is the one that counts */
    private static void imageByItself() {
        HangmanDinner x = new HangmanDinner();
        due("there is none", x.undo(), -3);
        due("of no houses", x.image(), 0);
        for (int i = 0; i < 6; i++) x.house(0, 0, i);
        due("undo to no houses", x.undo(), 0);
        due("no house", x.of(0, 2), -10001);
        due("no place", x.told(10), -1);
        due("the first again", x.house(0, 0, 9), 0);
        due("of one", x.image(), 1);
        newWhereOneHasBeen();
        for (int i = 1; i < 6; i++) x.house(0, 0, i);
        due("of six", x.image(), 6);
        x.pass(5);
        due("undo to six", x.undo(), 6);
        due("week 0", x.told(0), 0);
        due("a house's own base", x.of(5, 2), 5);
    }

    /** "0 at first", "none at first", "not at first": of a HOUSE that comes after an undo, too */
    private static void newWhereOneHasBeen() {
        HangmanDinner x = new HangmanDinner();
        x.image();
        x.house(6, 9, 50);
        for (int part = 0; part < 4; part++) x.row(0, part, 5);
        x.set(0, 2, 255);
        x.pass(2);
        x.set(0, 1, 9);
        x.shut(0, true);
        x.pass(1);
        x.undo();
        due("the first again", x.house(6, 1, 2), 0);
        int[] wants = {6, 1, 2, 0, 0, 0, 0, 2, 0, 0, 0};
        for (int what = 0; what < wants.length; what++) due("of " + what, x.of(0, what), wants[what]);
        for (int part = 0; part < 4; part++) due("row " + part, x.row(0, part, 0), 0);
    }
}
