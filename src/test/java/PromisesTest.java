/** Each promise by itself: ordinary inputs, the edges that the document names, wrong inputs. Answers worked out by hand. */
public final class PromisesTest {
    private static final int MIN = Integer.MIN_VALUE, MAX = Integer.MAX_VALUE;
    private static final long NO = Long.MIN_VALUE;
    private static final int NOTHING = -11, CAST = -12, PLACE = -13, SIZE = -14;

    private static void due(String call, long got, long want) {
        HelperDue.due(call, got, want);
    }

    private static int[] h(int kind, int v, int base) {
        return HelperDue.h(kind, v, base);
    }

    public static void main(String[] args) {
        constants();
        promise1NewObject();
        promise2House();
        promise3Of();
        promise3Dread();
        promise3Comes();
        promise4Set();
        promise5Shut();
        promise6Swap();
        promise7Row();
        promise8Feed();
        promise9Town();
        promise9Faults();
        promise9Tests();
        promise10Told();
        promise11Pass();
        promise11Thursdays();
        promise12On();
        promise13Doors();
        promise14Feign();
        promise15See();
        promise16Can();
        promise17Odds();
        promise18Mean();
        promise19Plan();
        promise20Ends();
        promise21Book();
        promise22Looked();
        promise23Judge();
        promise24And25Image();
        promise26Act();
        promise27Trace();
        promise28Taken();
        promise29Count();
        promise30Tape();
        promise31Item();
        promise32Read();
        promise33Shift();
        beyond9999();
        askingChangesNothing();
        HelperDue.end();
    }

    private static void constants() {
        due("NONE", HangmanDinner.NONE, -1);
        due("BAD", HangmanDinner.BAD, -2);
        due("STATE", HangmanDinner.STATE, -3);
        due("FULL", HangmanDinner.FULL, -4);
        due("NO", HangmanDinner.NO, Long.MIN_VALUE);
    }

    private static void promise1NewObject() {
        HangmanDinner x = new HangmanDinner();
        for (int what = 0; what <= 6; what++) due("1 count(" + what + ")", x.count(what), 0);
        due("1 week", x.told(0), 0);
        due("1 ill's number", x.told(1), 60);
        due("1 point", x.told(2), 0);
        due("1 hungry", x.told(3), 0);
        due("1 clashes", x.told(4), 0);
        due("1 host", x.told(5), -5);
        due("1 ill ones", x.told(6), 0);
        due("1 place 0", x.told(10), -1);
        due("1 of(0, 0)", x.of(0, 0), -10001);
        due("1 undo()", x.undo(), -3);
        due("1 trace(0)", x.trace(0), -1);
        for (int tape = 0; tape < 6; tape++) due("1 read", x.read(tape, 0), NO);
        HangmanDinner other = new HangmanDinner();
        x.house(0, 0, 0);
        due("1 objects are by themselves", other.count(0), 0);
    }

    private static void promise2House() {
        HangmanDinner x = new HangmanDinner();
        due("2 kind below", x.house(-1, 0, 0), -1);
        due("2 kind above", x.house(7, 0, 0), -1);
        due("2 kind is named first", x.house(7, 10, 100), -1);
        due("2 v below", x.house(0, -1, 0), -2);
        due("2 v above", x.house(0, 10, 0), -2);
        due("2 base below", x.house(0, 0, -1), -2);
        due("2 base above", x.house(0, 0, 100), -2);
        due("2 far off", x.house(MIN, MAX, MIN), -1);
        due("2 far off", x.house(0, MAX, 0), -2);
        due("2 far off", x.house(0, 0, MIN), -2);
        due("2 nothing came", x.count(0), 0);
        due("2 first", x.house(0, 9, 99), 0);
        due("2 second", x.house(6, 0, 0), 1);
        x.swap(0, 1);
        due("2 third", x.house(3, 4, 5), 2);
        due("2 comes at the end", x.of(2, 10), 2);
        due("2 kind", x.of(2, 0), 3);
        due("2 v", x.of(2, 1), 4);
        due("2 base", x.of(2, 2), 5);
        due("2 owes", x.of(2, 3), 0);
        due("2 dined", x.of(2, 4), 0);
        due("2 trials", x.of(2, 5), 0);
        due("2 not shut", x.of(2, 6), 0);
        for (int i = 3; i < 6; i++) due("2 more", x.house(1, 1, 1), i);
        due("2 full", x.house(0, 0, 0), -4);
        due("2 full, but kind first", x.house(7, 0, 0), -1);
        due("2 full, but v first", x.house(0, 10, 0), -2);
        due("2 six", x.count(0), 6);
    }

    private static void promise3Of() {
        HangmanDinner x = HelperDue.street(h(1, 7, 80), h(0, 3, 59), h(0, 2, 60));
        x.set(1, 1, 4);
        x.set(1, 2, 129);
        due("3 kind", x.of(0, 0), 1);
        due("3 v", x.of(0, 1), 7);
        due("3 base", x.of(0, 2), 80);
        due("3 owes", x.of(1, 3), 4);
        due("3 trials", x.of(1, 5), 129);
        due("3 not shut", x.of(1, 6), 0);
        due("3 dread", x.of(1, 7), 59);
        due("3 not ill below 60", x.of(1, 8), 0);
        due("3 ill by 60", x.of(2, 8), 1);
        due("3 place", x.of(2, 10), 2);
        x.swap(0, 2);
        due("3 place after a swap", x.of(2, 10), 0);
        due("3 place after a swap", x.of(0, 10), 2);
        due("3 place after a swap", x.of(1, 10), 1);
        x.shut(1, true);
        due("3 shut", x.of(1, 6), 1);
        due("3 ill by being shut", x.of(1, 8), 1);
        due("3 dread of one who is shut", x.of(1, 7), 59);
        x.shut(1, false);
        x.pass(2);
        due("3 dined", x.of(1, 4), 2);
        due("3 dined", x.of(0, 4), 0);
        due("3 no such house", x.of(3, 0), -10001);
        due("3 no such house", x.of(-1, 0), -10001);
        due("3 no such house", x.of(MAX, 0), -10001);
        due("3 no such what", x.of(0, -1), -10001);
        due("3 no such what", x.of(0, 11), -10001);
        due("3 no such what", x.of(0, MIN), -10001);
    }

    private static void promise3Dread() {
        HangmanDinner x = HelperDue.street(h(0, 5, 50), h(1, 5, 50), h(4, 5, 50), h(2, 5, 99), h(3, 5, 20), h(6, 5, 20));
        for (int part = 0; part < 4; part++) x.row(5, part, part + 1);
        int[] weekRich = {50, 50, 55, 50};
        for (int week = 0; week < 8; week++) {
            due("3 house", x.of(0, 7), 50);
            due("3 rich, week " + week, x.of(1, 7), weekRich[week % 4]);
            due("3 shy, week " + week, x.of(2, 7), x.of(2, 4) == 0 ? 2 * weekRich[week % 4] : weekRich[week % 4]);
            due("3 pastor", x.of(3, 7), 49);
            due("3 widow", x.of(4, 7), 20 - 3 * x.of(4, 4));
            due("3 told, week " + week, x.of(5, 7), 20 - 3 * x.of(5, 4) + week % 4 + 1);
            x.pass(1);
        }
        due("3 the shy one was never asked", x.of(2, 4), 0);
        due("3 widow dined", x.of(4, 4), 1);

        HangmanDinner shy = HelperDue.street(h(4, 5, 20));
        due("3 shy, dined never", shy.of(0, 7), 40);
        shy.pass(2);
        due("3 shy, dined twice, week 2", shy.of(0, 7), 25);

        HangmanDinner children = HelperDue.street(h(5, 5, 61));
        children.set(0, 1, 9);
        due("3 children", children.of(0, 7), 39);

        HangmanDinner widow = HelperDue.street(h(3, 0, 40), h(6, 0, 40));
        widow.row(1, 1, 9);
        widow.pass(18);
        due("3 widow dined 9 times", widow.of(0, 4), 9);
        due("3 widow, 27 less", widow.of(0, 7), 13);
        widow.pass(3);
        due("3 widow dined 11 times", widow.of(0, 4), 11);
        due("3 widow, 30 less at most", widow.of(0, 7), 10);
        due("3 told dined 10 times, week 21", widow.of(1, 7), 40 - 30 + 9);

        HangmanDinner cut = HelperDue.street(h(2, 0, 0), h(5, 0, 1), h(2, 0, 2), h(4, 9, 0));
        HelperDue.town(cut, "ease 5 p<3;ease 7 p=3");
        due("3 half of -5, cut toward 0", cut.of(0, 7), -2);
        due("3 half of -4", cut.of(1, 7), -2);
        due("3 half of -3, cut toward 0", cut.of(2, 7), -1);
        due("3 twice -7", cut.of(3, 7), -14);
        due("3 told(1) without ill", cut.told(1), 60);
    }

    private static void promise3Comes() {
        HangmanDinner x = HelperDue.plain(6);
        HelperDue.town(x, "fear 99 w>0;ill 90");
        x.set(0, 1, 1);
        due("3 comes to 0", x.of(0, 9), 0);
        due("3 comes to 1", x.of(1, 9), 20);
        due("3 comes to 5", x.of(5, 9), 60);
        x.set(0, 1, 2);
        due("3 comes to 5 later than 60", x.of(5, 9), -5);
        x.set(0, 1, 0);
        x.pass(9);
        x.set(1, 1, 1);
        due("3 week 9, comes to 0 in 61", x.of(0, 9), -5);
        x.pass(1);
        due("3 week 10, comes to 0 in 60", x.of(0, 9), 60);
        due("3 week 10, comes to 1", x.of(1, 9), 0);
    }

    private static void promise4Set() {
        HangmanDinner x = HelperDue.plain(2);
        due("4 base", x.set(1, 0, 99), 0);
        due("4 base was", x.set(1, 0, 0), 99);
        due("4 owes", x.set(1, 1, 9), 0);
        due("4 owes was", x.set(1, 1, 3), 9);
        due("4 trials", x.set(1, 2, 255), 0);
        due("4 trials was", x.set(1, 2, 128), 255);
        due("4 base is", x.of(1, 2), 0);
        due("4 owes is", x.of(1, 3), 3);
        due("4 trials is", x.of(1, 5), 128);
        due("4 the other's stay", x.of(0, 5) + x.of(0, 3), 0);
        due("4 no such house", x.set(2, 0, 0), -1);
        due("4 no such house", x.set(-1, 0, 100), -1);
        due("4 no such what", x.set(0, 3, 0), -1);
        due("4 no such what", x.set(0, -1, 300), -1);
        due("4 base above", x.set(0, 0, 100), -2);
        due("4 base below", x.set(0, 0, -1), -2);
        due("4 owes above", x.set(0, 1, 10), -2);
        due("4 owes below", x.set(0, 1, -1), -2);
        due("4 trials above", x.set(0, 2, 256), -2);
        due("4 trials below", x.set(0, 2, -1), -2);
        due("4 nothing changed", x.of(0, 2) + x.of(0, 3) + x.of(0, 5), 0);
    }

    private static void promise5Shut() {
        HangmanDinner x = HelperDue.plain(2);
        due("5 shut", x.shut(0, true), 0);
        due("5 shut again", x.shut(0, true), 1);
        due("5 the other opens", x.shut(1, false), 0);
        due("5 host", x.told(5), 1);
        due("5 open", x.shut(0, false), 1);
        due("5 is open", x.of(0, 6), 0);
        due("5 host", x.told(5), 0);
        due("5 no such house", x.shut(2, true), -1);
        due("5 no such house", x.shut(-1, false), -1);
    }

    private static void promise6Swap() {
        HangmanDinner x = HelperDue.plain(4);
        x.pass(1);
        due("6 swap", x.swap(0, 3), 3);
        due("6 point stays", x.told(2), 1);
        due("6 place 0", x.told(10), 3);
        due("6 place 1", x.told(11), 1);
        due("6 place 2", x.told(12), 2);
        due("6 place 3", x.told(13), 0);
        due("6 swap", x.swap(2, 1), 1);
        due("6 place 1", x.told(11), 2);
        due("6 host", x.told(5), 2);
        due("6 both are one", x.swap(2, 2), -2);
        due("6 no such house", x.swap(4, 4), -1);
        due("6 no such house", x.swap(0, 4), -1);
        due("6 no such house", x.swap(-1, 0), -1);
        due("6 no such house", x.swap(0, -1), -1);
    }

    private static void promise7Row() {
        HangmanDinner x = HelperDue.street(h(6, 0, 0), h(3, 0, 0), h(6, 0, 0));
        due("7 row", x.row(0, 0, 9), 0);
        due("7 row", x.row(0, 3, 4), 0);
        due("7 row was", x.row(0, 0, 0), 9);
        due("7 row was", x.row(0, 3, 4), 4);
        due("7 row of the other", x.row(2, 3, 1), 0);
        due("7 dread", x.of(0, 7), 0);
        x.pass(3);
        due("7 dread in week 3", x.of(0, 7), 1);
        due("7 another kind", x.row(1, 0, 0), -3);
        due("7 no such house", x.row(3, 0, 10), -1);
        due("7 no such house", x.row(-1, 0, 0), -1);
        due("7 no such part", x.row(1, 4, 10), -1);
        due("7 no such part", x.row(0, -1, 0), -1);
        due("7 bad", x.row(0, 0, 10), -2);
        due("7 bad", x.row(0, 0, -1), -2);
        due("7 bad is named ahead of the kind", x.row(1, 0, 10), -2);
    }

    private static void promise8Feed() {
        HangmanDinner x = new HangmanDinner();
        due("8 below", x.feed(-1), -2);
        due("8 above", x.feed(128), -2);
        due("8 lowest", x.feed(0), 1);
        due("8 highest", x.feed(127), 2);
        for (int i = 3; i <= 100; i++) due("8 feed", x.feed('f'), i);
        due("8 full", x.feed('f'), -4);
        due("8 full, but bad first", x.feed(128), -2);
        due("8 count", x.count(5), 100);
        due("8 town", x.town(), -10);
        due("8 empty then", x.count(5), 0);
        due("8 anew", x.feed('i'), 1);
    }

    private static void promise9Town() {
        HangmanDinner x = HelperDue.plain(1);
        due("9 first", HelperDue.town(x, "ill 7"), 0);
        due("9 ill's number", x.told(1), 7);
        due("9 the last ill holds", HelperDue.town(x, "ill 7;ill 99;ill 08"), 1);
        due("9 ill's number", x.told(1), 8);
        due("9 text is empty", x.count(5), 0);
        due("9 a fault", HelperDue.town(x, "ill 5;fear"), -10 - 10);
        due("9 text is empty", x.count(5), 0);
        due("9 the one that held holds", x.told(1), 8);
        due("9 two towns", x.count(1), 2);
        due("9 without ill", HelperDue.town(x, "fear 11 p=0"), 2);
        due("9 ill's number", x.told(1), 60);
        due("9 dread", x.of(0, 7), 11);
        due("9 longest", HelperDue.town(x, "ill 1;ill 2;ill 3;ill 4;ill 5;ill 6;ill 7;ill 8;ill 9;ill 0"), 3);
        due("9 ill's number 0", x.told(1), 0);
        due("9 all are ill by 0", x.of(0, 8), 1);
        due("9 fifth", HelperDue.town(x, "ease 99 p=0;ease 99 p=0;fear 1 p=0;ill 00"), 4);
        due("9 dread below 0", x.of(0, 7), -197);
        due("9 not ill", x.of(0, 8), 0);
        due("9 sixth", HelperDue.town(x, "ill 66"), 5);
        due("9 full", HelperDue.town(x, "ill 1"), -4);
        due("9 the text stays", x.count(5), 5);
        due("9 the sixth holds", x.told(1), 66);
        due("9 full ahead of a fault", HelperDue.town(x, "xx"), -4);
        due("9 the text stays", x.count(5), 7);
    }

    private static void fault(String text, int place) {
        due("9 fault of " + text, HelperDue.town(new HangmanDinner(), text), -10 - place);
    }

    private static void fine(String text) {
        due("9 " + text, HelperDue.town(new HangmanDinner(), text), 0);
    }

    private static void promise9Faults() {
        fault("", 0);
        fault("x", 0);
        fault("F", 0);
        fault(";", 0);
        fault(" ill 5", 0);
        fault("f", 1);
        fault("fear", 4);
        fault("feat 1 p=1", 3);
        fault("fear1 p=1", 4);
        fault("fear ", 5);
        fault("fear  1 p=1", 5);
        fault("fear p=1", 5);
        fault("fear 1", 6);
        fault("fear 12", 7);
        fault("fear 123 p=1", 7);
        fault("fear 1;ill 5", 6);
        fault("fear 1 ", 7);
        fault("fear 1  p=1", 7);
        fault("fear 1 p", 8);
        fault("fear 1 p1", 8);
        fault("fear 1 p=", 9);
        fault("fear 1 p=p", 9);
        fault("fear 1 p>=1", 9);
        fault("fear 1 P=1", 7);
        fault("fear 1 q=1", 7);
        fault("fear 1 1=p", 7);
        fault("fear 1 p=123", 11);
        fault("fear 1 p=1 ", 10);
        fault("fear 1 p=1;", 11);
        fault("fear 1 p=1;;", 11);
        fault("fear 1 p=1; ill 5", 11);
        fault("fear 1 p=1,", 10);
        fault("fear 1 p=1|", 11);
        fault("fear 1 p=1||", 11);
        fault("fear 1 p=1&", 11);
        fault("fear 1 p=1&|", 11);
        fault("fear 1 p=1!", 10);
        fault("fear 1 !", 8);
        fault("fear 1 !|", 8);
        fault("fear 1 (", 8);
        fault("fear 1 ()", 8);
        fault("fear 1 (p=1", 11);
        fault("fear 1 (p=1;", 11);
        fault("fear 1 p=1)", 10);
        fault("fear 1 (p=1))", 12);
        fault("ease", 4);
        fault("easy", 3);
        fault("ease 5 k", 8);
        fault("ease 5 k=1 ;ill 5", 10);
        fault("ear 1 p=1", 2);
        fault("i", 1);
        fault("ill", 3);
        fault("ill;", 3);
        fault("ilk 1", 2);
        fault("ill ", 4);
        fault("ill x", 4);
        fault("ill 5 p=1", 5);
        fault("ill 123", 6);
        fault("ill 12x", 6);
        fault("iease 1 p=1", 1);
        fault("ilfear 1 p=1", 2);
        fault("ffear 1 p=1", 1);
        fault("fear 1 !!!!!p=1", 11);
        fault("fear 1 !!!!(p=1)", 11);
        fault("fear 1 (((((p=1)))))", 11);
        fault("fear 1 (!(!(p=1)))", 11);
        fault("fear 1 !(!(!p=1))", 11);
        fault("fear 1 ((p=1)&((((v=1)))))", 17);
        fine("fear 1 ((p=1)&(((v=1))))");
        fine("fear 1 ((((p=1))))");
        fine("fear 1 !!!!p=1");
        fine("fear 1 (!(!p=1))");
        fine("fear 1 ((((p=1))))&((((v=1))))|!!!!k=1");
        fine("fear 1 !!!!p=1&!!!!v=1");
        fine("fear 00 (p=1|p=2)&(p<3|(p>4))");
        HangmanDinner again = HelperDue.plain(1);
        due("9 a text", HelperDue.town(again, "fear 1 p=1&p=1"), 0);
        due("9 a shorter one", HelperDue.town(again, "fear 1 "), -17);
        due("9 a longer one", HelperDue.town(again, "fear 1 p"), -18);
        due("9 a word alone", HelperDue.town(again, "ill"), -13);
        due("9 no text", HelperDue.town(again, ""), -10);
        due("9 another text", HelperDue.town(again, "fear 7 p=0"), 1);
        due("9 nothing is left of the others", again.of(0, 7), 7);
        String ten = "ill 1;ill 2;ill 3;ill 4;ill 5;ill 6;ill 7;ill 8;ill 9;ill 0";
        fine(ten);
        fault(ten + ";", 59);
        fault(ten + ";ill 1", 59);
        String base = "fear 10 p=10|p=20|p=30|p=40|p=50|p=60|p=70|p=80|p=90|p=11|p=12|p=13|p=14|p=15|p=16|p=17|p=18";
        fine(base);
        fine(base + "|p=1|p=9");
        fine(base + ";ill 5");
        fault(base + "|p=14|p=", 100);
        fault(base + "|p=14|p<", 100);
        fine(base + "&!!!!p=1");
        fault(base + ";ill 45;", 100);
        fault(base + ";ill 456", 99);
        fault(base + ";fear 1 ", 100);
        fault(base + "|p=1111", 97);
    }

    /** The dread of a house by one E, which is worth 7. */
    private static boolean holds(String test, int house, HangmanDinner x) {
        int without = x.of(house, 2);
        int answer = HelperDue.town(x, "fear 7 " + test);
        if (answer < 0) HelperDue.due("town of " + test, answer, 0);
        return x.of(house, 7) == without + 7;
    }

    private static void holds(String test, int ones) {
        HangmanDinner x = HelperDue.street(h(0, 4, 1), h(0, 5, 2), h(0, 6, 3));
        for (int house = 0; house < 3; house++) {
            HelperDue.due("9 " + test + " of " + house, holds(test, house, x) == ((ones >> house & 1) != 0));
        }
    }

    private static void promise9Tests() {
        holds("p=1", 2);
        holds("p<1", 1);
        holds("p>1", 4);
        holds("p<99", 7);
        holds("p=01", 2);
        holds("v=5", 2);
        holds("v<5", 1);
        holds("v>4", 6);
        holds("!p=1", 5);
        holds("!!p=1", 2);
        holds("!!!p=1", 5);
        holds("!!!!p=1", 2);
        holds("!(!p=1)", 2);
        holds("(!(!p=1))", 2);
        holds("!p=1&v=4", 1);
        holds("!(p=1&v=4)", 7);
        holds("!p=0&p=1", 2);
        holds("p=0|p=1&p=2", 1);
        holds("p=1&p=2|p=0", 1);
        holds("(p=0|p=1)&p=1", 2);
        holds("p=0|p=1|p=2", 7);
        holds("p=2|p<1", 5);
        holds("p>0&p<2", 2);
        holds("p<1|p>1", 5);
        holds("v=5|(p>0&(v<6|p<1))", 2);
        holds("p<2&p>0&v=5", 2);
        holds("p=0&v=4|p=1&v=4|p=2&v=6", 5);
        holds("(p=0)|(p=2)", 5);
        holds("(p=0|(p=2&(v=6|(v=9))))", 5);
        holds("k=0", 7);
        holds("k>0", 0);

        HangmanDinner kinds = HelperDue.street(h(6, 0, 1), h(3, 0, 1));
        HelperDue.town(kinds, "fear 7 k=6");
        due("9 k of 6", kinds.of(0, 7), 8);
        due("9 k of 3", kinds.of(1, 7), 1);

        HangmanDinner x = HelperDue.plain(1);
        x.set(0, 1, 3);
        HelperDue.town(x, "fear 1 o=3;fear 2 d=1;fear 4 w=1;fear 8 d=0;fear 16 w=0");
        due("9 o, d, w at first", x.of(0, 7), 25);
        x.pass(1);
        due("9 o, d, w then", x.of(0, 7), 6);
        x.pass(10);
        due("9 d, w modulo 10", x.of(0, 7), 6);
        HelperDue.town(x, "fear 1 d>9;fear 1 w>9");
        due("9 d, w are below 10", x.of(0, 7), 0);

        HangmanDinner mixed = HelperDue.street(h(0, 0, 50));
        HelperDue.town(mixed, "fear 12 p=0;ease 30 p=0;fear 9 p=1;ease 9 p=1;fear 99 p=0");
        due("9 fear and ease together", mixed.of(0, 7), 131);
    }

    private static void promise10Told() {
        HangmanDinner x = HelperDue.street(h(0, 0, 70), h(0, 0, 5), h(0, 0, 60), h(0, 0, 59));
        x.set(1, 2, 1);
        due("10 host", x.told(5), 1);
        due("10 ill ones", x.told(6), 5);
        x.pass(1);
        due("10 week", x.told(0), 1);
        due("10 point", x.told(2), 2);
        due("10 hungry", x.told(3), 0);
        due("10 clashes", x.told(4), 1);
        due("10 host", x.told(5), 3);
        x.shut(1, true);
        x.shut(3, true);
        due("10 host: nobody", x.told(5), -5);
        due("10 ill ones", x.told(6), 15);
        x.pass(2);
        due("10 hungry", x.told(3), 2);
        HelperDue.town(x, "ill 71");
        due("10 ill's number", x.told(1), 71);
        due("10 ill ones", x.told(6), 10);
        for (int k = 0; k < 4; k++) due("10 place " + k, x.told(10 + k), k);
        due("10 no such", x.told(14), -1);
        due("10 no such", x.told(7), -1);
        due("10 no such", x.told(9), -1);
        due("10 no such", x.told(-1), -1);
        due("10 no such", x.told(MIN), -1);
        due("10 no such", x.told(MAX), -1);
    }

    private static void promise11Pass() {
        HangmanDinner x = HelperDue.plain(0);
        due("11 none", x.pass(0), 0);
        due("11 all", x.pass(60), 60);
        due("11 above", x.pass(61), -2);
        due("11 below", x.pass(-1), -2);
        due("11 far above", x.pass(MAX), -2);
        for (int i = 0; i < 165; i++) x.pass(60);
        due("11 week", x.told(0), 9960);
        due("11 beyond 9999", x.pass(40), -3);
        due("11 nothing went", x.told(0), 9960);
        due("11 up to 9999", x.pass(39), 9999);
        due("11 none more", x.pass(0), 9999);
        due("11 one more", x.pass(1), -3);
        due("11 bad first", x.pass(61), -2);
        due("11 hungry without houses", x.told(3), 9999);
    }

    private static void promise11Thursdays() {
        HangmanDinner x = HelperDue.street(h(0, 0, 10), h(0, 0, 70), h(0, 0, 20));
        x.pass(1);
        due("11 point behind the host", x.told(2), 1);
        x.pass(1);
        due("11 host behind the ill one", x.of(2, 4), 1);
        due("11 the ill one owes", x.of(1, 3), 1);
        due("11 nobody else owes", x.of(0, 3) + x.of(2, 3), 0);
        due("11 point 0 behind the last", x.told(2), 0);
        x.pass(2);
        due("11 owes twice", x.of(1, 3), 2);
        x.set(1, 0, 5);
        x.pass(2);
        due("11 has him", x.of(1, 4), 1);
        due("11 owes less", x.of(1, 3), 1);
        due("11 point is its own place", x.told(2), 1);
        x.pass(1);
        due("11 has him again", x.of(1, 4), 2);
        due("11 owes nothing", x.of(1, 3), 0);
        due("11 point is its own place", x.told(2), 1);
        x.pass(1);
        due("11 has him once more", x.of(1, 4), 3);
        due("11 point is behind it", x.told(2), 2);
        due("11 week", x.told(0), 8);

        HangmanDinner round = HelperDue.street(h(0, 0, 0), h(0, 0, 99), h(0, 0, 99));
        round.pass(1);
        round.pass(1);
        due("11 both ahead owe, the first is behind the last", round.of(1, 3) * 10 + round.of(2, 3), 11);
        due("11 host", round.of(0, 4), 2);
        round.pass(60);
        due("11 owes 9 at most", round.of(1, 3) * 10 + round.of(2, 3), 99);
        round.shut(0, true);
        round.set(0, 1, 4);
        round.set(1, 1, 4);
        int point = round.told(2);
        round.pass(5);
        due("11 hungry", round.told(3), 5);
        due("11 owes stays", round.of(1, 3) * 10 + round.of(0, 3), 44);
        due("11 point stays", round.told(2), point);

        HangmanDinner stays = HelperDue.street(h(0, 0, 99), h(0, 0, 0), h(0, 0, 0));
        stays.set(1, 1, 2);
        stays.pass(1);
        due("11 point comes to its own place", stays.told(2), 1);
        due("11 one owes less, one more", stays.of(1, 3) * 10 + stays.of(0, 3), 11);

        HangmanDinner clash = HelperDue.plain(1);
        clash.set(0, 2, 130);
        clash.pass(1);
        due("11 week 0", clash.told(4), 0);
        clash.pass(1);
        due("11 week 1", clash.told(4), 1);
        clash.pass(5);
        due("11 weeks 2 .. 6", clash.told(4), 1);
        clash.pass(1);
        due("11 week 7", clash.told(4), 2);
        clash.pass(2);
        due("11 week 9", clash.told(4), 3);

        // Whether one is ill goes by how all is ahead of the THURSDAY: owing 1 more does not count yet.
        HangmanDinner ahead = HelperDue.street(h(5, 0, 99), h(0, 0, 0));
        HelperDue.town(ahead, "ill 49;ease 1 o>0");
        ahead.pass(1);
        due("11 the first is ill", ahead.of(1, 4), 1);
        due("11 and owes", ahead.of(0, 3), 1);
        due("11 half of 98, and 1", ahead.of(0, 7), 50);
    }

    private static void promise12On() {
        HangmanDinner x = HelperDue.street(h(0, 0, 10), h(0, 0, 70), h(0, 0, 20));
        x.set(2, 2, 255);
        due("12 host now", x.on(0, 0), 0);
        due("12 host then", x.on(1, 0), 2);
        due("12 host then", x.on(2, 0), 0);
        due("12 clashes", x.on(4, 1), 2);
        due("12 clashes", x.on(3, 1), 1);
        due("12 hungry", x.on(60, 2), 0);
        due("12 dined", x.on(5, 10), 3);
        due("12 dined", x.on(5, 11), 0);
        due("12 dined", x.on(5, 12), 2);
        due("12 owes", x.on(5, 21), 2);
        due("12 owes", x.on(60, 21), 9);
        due("12 owes", x.on(5, 20) + x.on(5, 22), 0);
        due("12 dined of 60", x.on(60, 12), 30);
        due("12 week is as it was", x.told(0), 0);
        x.shut(0, true);
        x.shut(2, true);
        due("12 nobody", x.on(3, 0), -5);
        due("12 hungry", x.on(7, 2), 7);
        HangmanDinner rich = HelperDue.street(h(1, 5, 55), h(0, 0, 0));
        due("12 a rich one in week 2", rich.on(2, 0), 1);
        HangmanDinner told = HelperDue.street(h(6, 0, 55), h(0, 0, 0));
        told.row(0, 2, 8);
        due("12 a told one in week 2, dined once", told.on(2, 0), 1);
        due("12 no such what", x.on(0, 3), -1);
        due("12 no such what", x.on(0, -1), -1);
        due("12 no such what", x.on(0, 9), -1);
        due("12 no such house", x.on(0, 13), -1);
        due("12 no such house", x.on(0, 19), -1);
        due("12 no such house", x.on(0, 23), -1);
        due("12 no such house", x.on(0, MIN), -1);
        due("12 no such house", x.on(0, MAX), -1);
        due("12 what is named first", x.on(61, 3), -1);
        due("12 n above", x.on(61, 0), -2);
        due("12 n below", x.on(-1, 20), -2);
        due("12 n above", x.on(MAX, 10), -2);
    }

    private static void promise13Doors() {
        HangmanDinner x = HelperDue.plain(3);
        due("13 no trials", x.doors(20), -5);
        x.set(0, 2, 1);
        due("13 the first of several", x.doors(1), 1);
        x.set(1, 2, 1);
        due("13 0 and 2", x.doors(1), 2);
        x.set(2, 2, 1);
        due("13 none is less", x.doors(1), -5);
        due("13 below", x.doors(0), -2);
        due("13 above", x.doors(21), -2);
        due("13 far below", x.doors(MIN), -2);
        due("13 the street is as it was", x.told(10), 0);

        HangmanDinner least = HelperDue.plain(3);
        least.set(0, 2, 1);
        least.set(1, 2, 2);
        least.set(2, 2, 4);
        // Weeks 0, 1, 2 clash as it is; 0 with 1 leaves one clash, 0 with 2 one, 1 with 2 one.
        due("13 the first of three", least.doors(3), 1);
        least.set(0, 2, 3);
        least.set(1, 2, 2);
        least.set(2, 2, 0);
        // As it is 2; 0 with 1: week 1 alone (1); 0 with 2: week 1 alone (1); 1 with 2: week 0 alone (1).
        due("13 the first of three again", least.doors(3), 1);
        least.set(1, 2, 3);
        least.set(2, 2, 1);
        // As it is 2; 0 with 1: 2; 0 with 2: 2; 1 with 2: weeks 0 and none (1): street 0 2 1.
        due("13 1 and 2", least.doors(2), 12);
        least.swap(1, 2);
        due("13 none is less than one", least.doors(2), -5);

        HangmanDinner back = HelperDue.plain(2);
        back.swap(0, 1);
        back.set(1, 2, 1);
        due("13 the lesser is named first", back.doors(1), 1);
        due("13 no houses", new HangmanDinner().doors(1), -5);
    }

    private static void promise14Feign() {
        HangmanDinner x = HelperDue.plain(2);
        due("14 one Thursday", x.feign(1, 0), 1);
        due("14 both feign", x.feign(1, 1), 3);
        due("14 two Thursdays", x.feign(2, 0), 3);
        due("14 nobody feigns", x.feign(2, 1), 0);
        due("14 nobody is shut for it", x.of(0, 6) + x.of(1, 6), 0);
        x.shut(1, true);
        // 0 alone: it dines less by feigning.
        due("14 one is shut", x.feign(1, 0), 1);
        due("14 one is shut", x.feign(1, 1), 1);
        x.shut(0, true);
        due("14 all are shut", x.feign(6, 0), 1);
        due("14 all are shut", x.feign(6, 1), 0);
        // By {} he goes to 0, 1, 2; by {0} to 1, 0, 0, as 2 is ill in week 1: 0 dines more often by feigning.
        HangmanDinner gains = HelperDue.plain(3);
        HelperDue.town(gains, "fear 99 p=2&w=1");
        due("14 neither 0, nor 01, nor 02", gains.feign(3, 0), 5);
        due("14 nobody feigns", gains.feign(3, 1), 0);
        HangmanDinner had = HelperDue.plain(2);
        had.pass(2);
        had.shut(1, true);
        due("14 who is shut is not asked", had.feign(1, 0), 1);
        due("14 the other feigns", had.feign(1, 1), 1);
        due("14 no such what", x.feign(0, 2), -1);
        due("14 no such what", x.feign(1, -1), -1);
        due("14 n below", x.feign(0, 0), -2);
        due("14 n above", x.feign(7, 1), -2);
        due("14 without houses", new HangmanDinner().feign(1, 0), 1);
        due("14 without houses", new HangmanDinner().feign(1, 1), 0);
    }

    private static void promise15See() {
        HangmanDinner x = HelperDue.plain(2);
        due("15 see", x.see(0, 1), 1);
        due("15 nobody", x.see(12, -1), 2);
        due("15 no such house", x.see(0, 2), -1);
        due("15 no such house", x.see(13, -2), -1);
        due("15 no such house", x.see(0, MAX), -1);
        due("15 n above", x.see(13, 0), -2);
        due("15 n below", x.see(-2, 0), -2);
        due("15 two", x.count(2), 2);
        due("15 see", x.see(3, 1), 3);
        due("15 see", x.see(3, 1), 4);
        due("15 see", x.see(3, 0), 5);
        due("15 full", x.see(3, 0), -4);
        due("15 full, but the house first", x.see(3, 2), -1);
        due("15 full, but n first", x.see(13, 0), -2);
        due("15 none then", x.see(-1, 77), 0);
        due("15 none", x.count(2), 0);
        due("15 see", x.see(0, 0), 1);
    }

    private static void promise16Can() {
        HangmanDinner x = HelperDue.street(h(0, 0, 5), h(0, 0, 5));
        due("16 nothing seen", x.can(0, 0, 0), 100);
        due("16 nothing seen", x.can(0, 0, 1), 0);
        due("16 nothing seen", x.can(1, 1, 0), 10);
        x.see(0, 0);
        due("16 not ill", x.can(0, 0, 0), 60);
        due("16 not ill", x.can(0, 0, 1), 0);
        due("16 of the other", x.can(1, 0, 0), 100);
        x.see(-1, 0);
        x.see(0, 1);
        due("16 ill", x.can(0, 0, 0), 40);
        due("16 ill", x.can(0, 0, 1), 60);
        x.see(1, 0);
        due("16 he comes to the ill one never", x.can(0, 0, 0), 0);
        due("16 none", x.can(0, 0, 1), -5);
        x.see(-1, 0);
        x.see(0, -1);
        due("16 nobody: never", x.can(1, 0, 0), 0);
        x.shut(0, true);
        due("16 nobody", x.can(1, 0, 0), 40);
        due("16 nobody", x.can(1, 0, 1), 60);
        due("16 base is as it was", x.of(1, 2), 5);

        HangmanDinner rich = HelperDue.street(h(1, 1, 55), h(0, 0, 0));
        rich.see(2, 1);
        due("16 v", rich.can(0, 1, 0), 5);
        due("16 v", rich.can(0, 1, 1), 5);
        rich.see(-1, 0);
        rich.see(2, 0);
        due("16 v", rich.can(0, 1, 0), 5);
        due("16 v", rich.can(0, 1, 1), 0);
        rich.see(0, 1);
        due("16 none", rich.can(0, 1, 0), 0);
        due("16 none", rich.can(0, 1, 1), -5);
        due("16 v is as it was", rich.of(0, 1), 1);

        HangmanDinner late = HelperDue.plain(2);
        late.see(12, 0);
        due("16 the twelfth", late.can(0, 0, 0), 60);
        late.see(-1, 0);
        late.see(12, 1);
        due("16 the twelfth", late.can(0, 0, 0), 40);
        due("16 no such house", late.can(2, 0, 0), -1);
        due("16 no such house", late.can(-1, 0, 0), -1);
        due("16 no such which", late.can(0, 2, 0), -1);
        due("16 no such which", late.can(0, -1, 0), -1);
        due("16 no such what", late.can(0, 0, 2), -1);
        due("16 no such what", late.can(0, 0, -1), -1);
    }

    private static void promise17Odds() {
        HangmanDinner x = HelperDue.plain(3);
        due("17 first above", x.odds(0, 0), 2);
        due("17 first below", x.odds(0, 1), 3);
        due("17 second above", x.odds(1, 0), 1);
        due("17 second below", x.odds(1, 1), 3);
        due("17 third above", x.odds(2, 0), 0);
        due("17 third below", x.odds(2, 1), 1);
        x.shut(0, true);
        due("17 one is shut too", x.odds(1, 0), 2);
        due("17 one is shut too", x.odds(2, 0), 1);
        due("17 one is shut too", x.odds(0, 0), 0);
        due("17 shut as it was", x.of(1, 6), 0);
        due("17 no such house", x.odds(3, 0), NO);
        due("17 no such house", x.odds(-1, 0), NO);
        due("17 no such part", x.odds(0, 2), NO);
        due("17 no such part", x.odds(0, -1), NO);
        due("17 one house", HelperDue.plain(1).odds(0, 0), 0);
        due("17 one house", HelperDue.plain(1).odds(0, 1), 1);
    }

    private static void promise18Mean() {
        HangmanDinner x = HelperDue.plain(4);
        due("18 above", x.mean(6, 0), 3);
        due("18 below", x.mean(6, 1), 2);
        due("18 none", x.mean(0, 0), 0);
        due("18 none", x.mean(0, 1), 1);
        due("18 above", x.mean(60, 0), 15);
        due("18 below", x.mean(60, 1), 1);
        x.pass(1);
        due("18 with those that went", x.mean(2, 0), 3);
        due("18 below", x.mean(2, 1), 4);
        due("18 n above", x.mean(61, 0), NO);
        due("18 n below", x.mean(-1, 0), NO);
        due("18 no such part", x.mean(1, 2), NO);
        due("18 no such part", x.mean(1, -1), NO);
        due("18 no houses", new HangmanDinner().mean(1, 1), NO);
        x.shut(0, true);
        x.shut(1, true);
        x.shut(2, true);
        x.shut(3, true);
        due("18 nobody dines", x.mean(60, 1), 4);
    }

    private static void promise19Plan() {
        HangmanDinner x = HelperDue.plain(1);
        due("19 a Thursday, whatever house", x.plan(0, 99), 1);
        due("19 shut", x.plan(1, 0), 2);
        due("19 open", x.plan(2, 0), 3);
        due("19 owes nothing", x.plan(3, 0), 4);
        due("19 no such what", x.plan(4, 0), -1);
        due("19 no such what", x.plan(-2, 0), -1);
        due("19 no such house", x.plan(1, 1), -1);
        due("19 no such house", x.plan(3, -1), -1);
        for (int i = 5; i <= 10; i++) due("19 more", x.plan(0, 0), i);
        due("19 full", x.plan(0, 0), -4);
        due("19 full, but what first", x.plan(4, 0), -1);
        due("19 full, but the house first", x.plan(2, 1), -1);
        due("19 ten", x.count(3), 10);
        due("19 empty then", x.plan(-1, 99), 0);
        due("19 none", x.count(3), 0);
        due("19 one", x.plan(0, MIN), 1);
    }

    private static void promise20Ends() {
        HangmanDinner x = HelperDue.plain(2);
        x.set(0, 2, 255);
        due("20 empty", x.ends(0), 0);
        x.plan(0, 0);
        due("20 a Thursday", x.ends(0), 1);
        x.plan(1, 1);
        x.plan(0, 0);
        due("20 1 is shut", x.ends(0), 2);
        x.plan(2, 1);
        x.plan(3, 1);
        x.plan(0, 0);
        due("20 1 is host, owing nothing", x.ends(0), 2);
        x.plan(0, 0);
        due("20 0 again", x.ends(0), 3);
        due("20 hungry", x.ends(1), 0);
        x.plan(1, 0);
        x.plan(1, 1);
        x.plan(0, 0);
        due("20 clashes", x.ends(0), 3);
        due("20 hungry", x.ends(1), 1);
        due("20 nothing went", x.told(0), 0);
        due("20 nobody is shut", x.of(0, 6) + x.of(1, 6), 0);
        due("20 no such what", x.ends(2), -1);
        due("20 no such what", x.ends(-1), -1);

        HangmanDinner owes = HelperDue.plain(2);
        owes.set(0, 2, 255);
        owes.set(0, 1, 3);
        owes.plan(0, 0);
        owes.plan(0, 0);
        due("20 he stays with 0", owes.ends(0), 2);
        owes.plan(-1, 0);
        owes.plan(3, 0);
        owes.plan(0, 0);
        owes.plan(0, 0);
        due("20 he goes on to 1", owes.ends(0), 1);
        due("20 owes stays", owes.of(0, 3), 3);
    }

    private static void promise21Book() {
        HangmanDinner x = HelperDue.plain(2);
        due("21 row", x.book(1, 0), 1);
        due("21 row", x.book(0, 9999), 2);
        due("21 no such house", x.book(2, 10000), -1);
        due("21 no such house", x.book(-2, 0), -1);
        due("21 bad", x.book(0, 10000), -2);
        due("21 bad", x.book(0, -1), -2);
        for (int i = 3; i <= 8; i++) due("21 more", x.book(0, i), i);
        due("21 full", x.book(0, 0), -4);
        due("21 full, but the house first", x.book(2, 0), -1);
        due("21 full, but bad first", x.book(0, -1), -2);
        due("21 eight", x.count(4), 8);
        due("21 empty then", x.book(-1, -77), 0);
        due("21 none", x.count(4), 0);
        due("21 without houses", new HangmanDinner().book(0, 0), -1);
    }

    private static void promise22Looked() {
        HangmanDinner x = HelperDue.plain(2);
        x.pass(3);
        due("22 empty", x.looked(), -5);
        x.book(0, 2);
        x.book(1, 1);
        due("22 all is so", x.looked(), -5);
        x.book(1, 2);
        x.book(0, 3);
        due("22 the first otherwise", x.looked(), 2);
        x.pass(1);
        due("22 the first otherwise then", x.looked(), 1);
        x.pass(1);
        due("22 0 is otherwise", x.looked(), 0);
    }

    private static void promise23Judge() {
        HangmanDinner x = new HangmanDinner();
        due("23 no houses, nothing there", x.judge(0, 0), -5);
        due("23 no houses, place below", x.judge(5, MIN), -5);
        due("23 no houses, place beyond", x.judge(5, MAX), -5);
        due("23 no such tape", x.judge(6, 0), -1);
        due("23 no such tape", x.judge(-1, 0), -1);
        x.tape(1, 1, 3);
        due("23 shorts, no houses", x.judge(1, 0), CAST);
        for (int i = 0; i < 3; i++) x.house(0, 0, 0);
        due("23 nothing there", x.judge(0, 0), 100);
        for (int sort = 1; sort <= 4; sort++) {
            x.tape(1, sort, 3);
            due("23 sort " + sort, x.judge(1, 0), CAST);
        }
        x.tape(0, 0, 5);
        due("23 0 is so, 0 at place 1 not", x.judge(0, 0), 1);
        x.item(0, 2, 1);
        x.item(0, 3, 2);
        due("23 from 1 on all is so", x.judge(0, 1), -5);
        due("23 from 0 on", x.judge(0, 0), 1);
        due("23 from 2 on", x.judge(0, 2), 0);
        due("23 from 4 on the row ends", x.judge(0, 4), 101);
        x.item(0, 4, 1);
        x.item(0, 3, 0);
        due("23 from 3 on the row ends", x.judge(0, 3), 102);
        due("23 from its end on", x.judge(0, 5), 100);
        due("23 beyond", x.judge(0, 6), 100);
        due("23 far beyond", x.judge(0, MAX), 100);
        due("23 below", x.judge(0, -1), 100);
        due("23 far below", x.judge(0, MIN), 100);
        x.swap(0, 2);
        x.tape(2, 0, 3);
        x.item(2, 0, 2);
        x.item(2, 1, 1);
        due("23 the street by its places", x.judge(2, 0), -5);
        x.item(2, 2, 256 + 5);
        due("23 the last", x.judge(2, 0), 2);
        x.tape(3, 0, 0);
        due("23 an empty row", x.judge(3, 0), 100);
    }

    private static void promise24And25Image() {
        HangmanDinner x = HelperDue.street(h(0, 3, 10), h(6, 4, 20), h(1, 5, 70));
        due("25 there is none", x.undo(), -3);
        HelperDue.town(x, "ill 50");
        x.row(1, 2, 7);
        x.set(0, 2, 255);
        x.set(2, 1, 6);
        x.shut(0, true);
        x.swap(1, 2);
        x.pass(3);
        x.see(1, 1);
        x.plan(0, 0);
        x.plan(1, 1);
        x.plan(0, 0);
        x.book(1, 3);
        int[] before = all(x);
        due("24 three", x.image(), 3);
        int[] after = all(x);
        for (int i = 0; i < before.length; i++) due("24 image changes nothing, " + i, after[i], before[i]);
        change(x);
        due("25 three", x.undo(), 3);
        after = all(x);
        for (int i = 0; i < before.length; i++) due("25 all is as the image, " + i, after[i], before[i]);
        due("25 row", x.row(1, 2, 7), 7);
        due("25 row", x.row(1, 1, 0), 0);
        due("25 towns stay", x.count(1), 2);
        due("25 the text stays", x.count(5), 2);
        due("25 tapes stay", x.read(0, 0), 9);
        due("25 the trace stays", x.count(6), 1);
        x.row(1, 1, 9);
        x.house(0, 0, 0);
        x.pass(20);
        due("25 once more", x.undo(), 3);
        due("25 row again", x.row(1, 1, 0), 0);
        due("25 week again", x.told(0), 3);
        due("25 a new house", x.house(6, 0, 0), 3);
        due("25 its row is new", x.row(3, 0, 0), 0);
        due("25 its dined is new", x.of(3, 4), 0);
        due("25 its trials are new", x.of(3, 5), 0);
        due("25 it owes nothing", x.of(3, 3), 0);
        due("25 it is not shut", x.of(3, 6), 0);
        due("24 four", x.image(), 4);
        x.pass(1);
        due("25 four", x.undo(), 4);
        due("25 ill's number of the town that held", x.told(1), 50);

        HangmanDinner bare = new HangmanDinner();
        due("24 no houses", bare.image(), 0);
        HelperDue.town(bare, "fear 9 p=0;ill 5");
        bare.house(0, 0, 0);
        bare.pass(2);
        due("25 no houses", bare.undo(), 0);
        due("25 no town holds", bare.told(1), 60);
        due("25 no house", bare.of(0, 0), -10001);
        due("25 week 0", bare.told(0), 0);
        due("25 the town is still counted", bare.count(1), 1);
        due("25 another house", bare.house(0, 0, 7), 0);
        due("25 its dread", bare.of(0, 7), 7);
    }

    private static void change(HangmanDinner x) {
        HelperDue.town(x, "ill 40");
        x.house(6, 9, 9);
        x.row(3, 0, 5);
        x.set(3, 1, 5);
        x.set(3, 2, 5);
        x.shut(3, true);
        x.row(1, 2, 1);
        x.row(1, 1, 2);
        x.set(0, 0, 1);
        x.set(0, 1, 1);
        x.set(0, 2, 1);
        x.shut(0, false);
        x.swap(0, 1);
        x.shut(1, true);
        x.shut(2, true);
        x.pass(1);
        x.shut(0, true);
        x.pass(2);
        x.see(-1, 0);
        x.see(2, 2);
        x.plan(-1, 0);
        x.plan(2, 2);
        x.plan(3, 2);
        x.book(-1, 0);
        x.book(2, 4);
        x.tape(0, 0, 1);
        x.item(0, 0, 9);
        x.feed('i');
        x.feed('i');
        x.act(0, 0, 0);
    }

    private static int[] all(HangmanDinner x) {
        int[] all = new int[200];
        int n = 0;
        for (int house = 0; house < 6; house++) {
            for (int what = 0; what <= 10; what++) all[n++] = x.of(house, what);
        }
        for (int what = 0; what <= 16; what++) all[n++] = x.told(what);
        all[n++] = x.count(0);
        for (int what = 2; what <= 4; what++) all[n++] = x.count(what);
        for (int house = 0; house < 6; house++) {
            all[n++] = x.can(house, 0, 0);
            all[n++] = x.can(house, 0, 1);
            all[n++] = x.on(7, 10 + house);
        }
        all[n++] = x.ends(0);
        all[n++] = x.ends(1);
        all[n++] = x.looked();
        return all;
    }

    private static void trace(HangmanDinner x, String call, int... bodies) {
        due(call + ": how many ran", x.count(6), bodies.length);
        for (int i = 0; i < bodies.length; i++) due(call + ": body " + i, x.trace(i), bodies[i]);
        due(call + ": no more", x.trace(bodies.length), -1);
    }

    private static void promise26Act() {
        HangmanDinner x = HelperDue.street(h(0, 1, 0), h(0, 3, 0), h(1, 3, 0), h(2, 3, 0), h(3, 3, 0), h(4, 3, 0));
        due("26 house asks", x.act(1, 0, 10), 11);
        trace(x, "26 house asks", 10);
        due("26 house talks", x.act(1, 1, 10), 8);
        trace(x, "26 house talks", 11, 10);
        due("26 house tells", x.act(1, 2, 10), 16);
        trace(x, "26 house tells", 12, 11, 10);
        due("26 rich asks", x.act(2, 0, 10), 12);
        trace(x, "26 rich asks", 10);
        due("26 rich talks", x.act(2, 1, 10), 9 ^ 6);
        trace(x, "26 rich talks", 20, 11, 10);
        due("26 rich tells", x.act(2, 2, 10), (9 ^ 6) * 2);
        trace(x, "26 rich tells", 12, 20, 11, 10);
        due("26 pastor asks", x.act(3, 0, 10), 33);
        trace(x, "26 pastor asks", 30, 10);
        due("26 pastor talks", x.act(3, 1, 10), 30);
        trace(x, "26 pastor talks", 11, 30, 10);
        due("26 pastor tells", x.act(3, 2, 10), 60);
        trace(x, "26 pastor tells", 12, 11, 30, 10);
        due("26 widow asks", x.act(4, 0, 10), 14);
        due("26 widow talks", x.act(4, 1, 10), 11);
        due("26 widow tells", x.act(4, 2, 10), 22 + 2);
        trace(x, "26 widow tells", 40, 12, 11, 10, 11, 10);
        due("26 shy asks", x.act(5, 0, 10), -15);
        trace(x, "26 shy asks", 50, 10);
        // 51 to 20 with 11, to 11 with 11, to 50 with 11: -16, less 3, is -19; -19 ^ 6 is -21.
        due("26 shy talks", x.act(5, 1, 10), -21);
        trace(x, "26 shy talks", 51, 20, 11, 50, 10);
        due("26 shy tells", x.act(5, 2, 10), -42);
        trace(x, "26 shy tells", 12, 51, 20, 11, 50, 10);

        HangmanDinner y = HelperDue.street(h(0, 0, 0), h(5, 4, 0), h(6, 5, 0));
        due("26 children ask", y.act(1, 0, 10), 31);
        trace(y, "26 children ask", 30, 10);
        due("26 children talk", y.act(1, 1, 10), 27);
        trace(y, "26 children talk", 11, 30, 10);
        due("26 children tell", y.act(1, 2, 10), (27 + 1 - 4) * 2);
        trace(y, "26 children tell", 60, 12, 11, 30, 10);
        due("26 told asks", y.act(2, 0, 10), 12 ^ 5);
        trace(y, "26 told asks", 71, 10);
        // 11: (12 ^ 5) - 5 is 4; and 2 + 2.
        due("26 told talks", y.act(2, 1, 10), 8);
        trace(y, "26 told talks", 70, 11, 71, 10, 10);
        // talks(10) * 2 is 16; talks(1): (3 ^ 5) - 5 is 1, and 4.
        due("26 told tells", y.act(2, 2, 10), 21);
        trace(y, "26 told tells", 40, 12, 70, 11, 71, 10, 10, 70, 11, 71, 10, 10);
        due("26 wraps", y.act(2, 0, MAX), (MAX + 2) ^ 5);
        due("26 wraps", y.act(1, 0, MAX), MAX * 3 + 1);
        due("26 no such house", y.act(3, 0, 7), 0);
        trace(y, "26 no such house");
        y.act(0, 2, 3);
        due("26 no such act", y.act(0, 3, 7), 0);
        trace(y, "26 no such act");
        y.act(0, 2, 3);
        due("26 no such house", y.act(-1, 1, 7), 0);
        trace(y, "26 no such house");
        for (int house = 0; house < 3; house++) {
            due("26 no such act", y.act(house, -1, 7), 0);
            due("26 no such act", y.act(house, 3, 7), 0);
            due("26 no such act", y.act(house, MIN, 7), 0);
            due("26 no such act", y.act(house, MAX, 7), 0);
        }
    }

    private static void promise27Trace() {
        HangmanDinner x = HelperDue.street(h(0, 0, 0), h(6, 5, 0));
        due("27 none", x.trace(0), -1);
        x.act(1, 2, 0);
        due("27 first", x.trace(0), 40);
        due("27 last", x.trace(11), 10);
        due("27 beyond", x.trace(12), -1);
        due("27 below", x.trace(-1), -1);
        due("27 far beyond", x.trace(MAX), -1);
        due("27 far below", x.trace(MIN), -1);
        x.act(0, 0, 0);
        due("27 of the latest alone", x.trace(0), 10);
        due("27 of the latest alone", x.trace(1), -1);
    }

    private static void promise28Taken() {
        HangmanDinner x = HelperDue.street(h(0, 0, 0), h(1, 0, 0), h(2, 0, 0), h(3, 0, 0), h(4, 0, 0), h(5, 0, 0));
        boolean[][] under = new boolean[7][7];
        int[] above = {-1, 0, 0, 0, 1, 2, 3};
        for (int kind = 0; kind < 7; kind++) {
            for (int k = kind; k >= 0; k = above[k]) under[kind][k] = true;
        }
        for (int house = 0; house < 6; house++) {
            for (int k = 0; k < 7; k++) due("28 " + house + " for " + k, x.taken(house, k), under[house][k] ? house : CAST);
        }
        HangmanDinner told = HelperDue.street(h(6, 0, 0));
        for (int k = 0; k < 7; k++) due("28 told for " + k, told.taken(0, k), under[6][k] ? 6 : CAST);
        due("28 bad first", x.taken(9, 7), -2);
        due("28 bad", x.taken(0, -1), -2);
        due("28 nothing", x.taken(6, 0), NOTHING);
        due("28 nothing", x.taken(-1, 3), NOTHING);
    }

    private static void promise29Count() {
        HangmanDinner x = HelperDue.plain(3);
        HelperDue.town(x, "ill 5");
        HelperDue.town(x, "ill 6");
        x.feed('i');
        x.see(0, 0);
        x.see(0, 0);
        x.plan(0, 0);
        x.book(0, 0);
        x.book(0, 0);
        x.act(0, 2, 0);
        int[] want = {3, 2, 2, 1, 2, 1, 3};
        for (int what = 0; what < 7; what++) due("29 count " + what, x.count(what), want[what]);
        due("29 bad", x.count(7), -2);
        due("29 bad", x.count(-1), -2);
    }

    private static void promise30Tape() {
        HangmanDinner x = new HangmanDinner();
        due("30 no such tape", x.tape(6, 0, 1), -1);
        due("30 no such tape", x.tape(-1, 9, -1), -1);
        due("30 bad sort", x.tape(0, 5, -1), -2);
        due("30 bad sort", x.tape(0, -2, 3), -2);
        due("30 n above", x.tape(0, 0, 61), -2);
        due("30 n below", x.tape(0, 0, -1), SIZE);
        due("30 n far below", x.tape(0, 4, MIN), SIZE);
        due("30 nothing is there", x.item(0, 0, 1), NOTHING);
        for (int sort = 0; sort < 5; sort++) {
            due("30 tape", x.tape(sort, sort, 60), 1);
            due("30 first is 0", x.read(sort, 0), 0);
            due("30 last is 0", x.read(sort, 59), 0);
            due("30 no more", x.read(sort, 60), NO);
        }
        x.item(2, 0, 4);
        x.item(2, 3, 5);
        due("30 no item", x.tape(2, 2, 0), 1);
        due("30 none is there", x.read(2, 0), NO);
        due("30 place, not nothing", x.item(2, 0, 1), PLACE);
        due("30 anew", x.tape(2, 2, 4), 1);
        due("30 all 0", x.read(2, 3), 0);
        due("30 all 0", x.read(2, 0), 0);
        x.item(2, 3, 5);
        due("30 bad", x.tape(2, 2, 61), -2);
        due("30 size", x.tape(2, 2, -1), SIZE);
        due("30 nothing changed", x.read(2, 3), 5);
        due("30 holds nothing", x.tape(2, -1, 99), 1);
        due("30 nothing", x.read(2, 3), NO);
        due("30 nothing", x.read(2, 0), NO);
        due("30 nothing", x.item(2, 3, 1), NOTHING);
        due("30 holds nothing", x.tape(2, -1, -99), 1);
    }

    private static void item(int sort, long v, long want) {
        HangmanDinner x = new HangmanDinner();
        x.tape(3, sort, 2);
        due("31 item", x.item(3, 1, v), 1);
        due("31 item of sort " + sort + ": " + v, x.read(3, 1), want);
        due("31 the other stays", x.read(3, 0), 0);
    }

    private static void promise31Item() {
        item(0, 127, 127);
        item(0, 128, -128);
        item(0, 256 + 3, 3);
        item(0, -129, 127);
        item(1, 32767, 32767);
        item(1, 32768, -32768);
        item(1, 70000, 4464);
        item(2, 2147483648L, -2147483648L);
        item(2, 4294967297L, 1);
        item(2, -5, -5);
        item(3, Long.MIN_VALUE + 1, Long.MIN_VALUE + 1);
        item(3, Long.MAX_VALUE, Long.MAX_VALUE);
        item(4, 0, 0);
        item(4, 1, 1);
        item(4, 2, 1);
        item(4, -1, 1);
        item(4, 4294967296L, 1);
        HangmanDinner x = new HangmanDinner();
        due("31 no such tape", x.item(6, 0, 1), -1);
        due("31 no such tape", x.item(-1, 0, 1), -1);
        due("31 nothing", x.item(0, -1, 1), NOTHING);
        x.tape(0, 0, 2);
        due("31 place", x.item(0, 2, 1), PLACE);
        due("31 place", x.item(0, -1, 1), PLACE);
        due("31 place", x.item(0, MAX, 1), PLACE);
        due("31 back to 0", x.item(0, 1, 1) + x.item(0, 1, 0), 2);
        due("31 is 0", x.read(0, 1), 0);
    }

    private static void promise32Read() {
        HangmanDinner x = new HangmanDinner();
        due("32 no such tape", x.read(6, 0), NO);
        due("32 no such tape", x.read(-1, 0), NO);
        due("32 nothing there", x.read(0, 0), NO);
        x.tape(0, 3, 3);
        x.item(0, 2, 77);
        due("32 item", x.read(0, 2), 77);
        due("32 item", x.read(0, 0), 0);
        due("32 no such place", x.read(0, 3), NO);
        due("32 no such place", x.read(0, -1), NO);
        due("32 no such place", x.read(0, MIN), NO);
        due("32 no such place", x.read(0, MAX), NO);
        x.item(0, 2, NO);
        due("32 the lowest", x.read(0, 2), NO);
    }

    private static HangmanDinner counted() {
        HangmanDinner x = new HangmanDinner();
        x.tape(0, 2, 5);
        x.tape(1, 2, 3);
        for (int i = 0; i < 5; i++) x.item(0, i, i + 1);
        return x;
    }

    private static void reads(HangmanDinner x, int tape, long... want) {
        for (int i = 0; i < want.length; i++) due("33 item " + i, x.read(tape, i), want[i]);
    }

    private static void promise33Shift() {
        HangmanDinner x = counted();
        due("33 up", x.shift(0, 0, 0, 1, 4), 4);
        reads(x, 0, 1, 1, 2, 3, 4);
        x = counted();
        due("33 down", x.shift(0, 1, 0, 0, 4), 4);
        reads(x, 0, 2, 3, 4, 5, 5);
        x = counted();
        due("33 to another", x.shift(0, 2, 1, 1, 2), 2);
        reads(x, 1, 0, 3, 4);
        reads(x, 0, 1, 2, 3, 4, 5);
        due("33 all of it", x.shift(1, 0, 0, 2, 3), 3);
        reads(x, 0, 1, 2, 0, 3, 4);
        due("33 none", x.shift(0, 5, 1, 3, 0), 0);
        due("33 i beyond", x.shift(0, 6, 1, 3, 0), PLACE);
        due("33 j beyond", x.shift(0, 5, 1, 4, 0), PLACE);
        due("33 beyond from's end", x.shift(0, 3, 1, 0, 3), PLACE);
        due("33 beyond to's end", x.shift(0, 0, 1, 1, 3), PLACE);
        due("33 too many", x.shift(0, 0, 1, 0, 4), PLACE);
        due("33 n below", x.shift(0, 1, 1, 1, -1), PLACE);
        due("33 i below", x.shift(0, -1, 1, 0, 1), PLACE);
        due("33 j below", x.shift(0, 0, 1, -1, 1), PLACE);
        due("33 far", x.shift(0, MAX, 1, 0, MAX), PLACE);
        due("33 far", x.shift(0, 0, 1, MAX, 1), PLACE);
        due("33 far", x.shift(0, MIN, 1, MIN, MIN), PLACE);
        reads(x, 0, 1, 2, 0, 3, 4);
        due("33 no such tape", x.shift(6, 0, 0, 0, 0), -1);
        due("33 no such tape", x.shift(0, 0, -1, 0, 0), -1);
        due("33 no such tape is named first", x.shift(2, 0, 6, 0, 0), -1);
        due("33 nothing there", x.shift(0, 0, 2, 0, 0), NOTHING);
        due("33 nothing there", x.shift(2, 0, 0, -1, 0), NOTHING);
        x.tape(2, 3, 5);
        due("33 unlike", x.shift(0, 0, 2, 0, 1), CAST);
        due("33 unlike is named ahead of place", x.shift(0, -1, 2, 0, 1), CAST);
        x.tape(2, 2, 0);
        due("33 an empty one", x.shift(2, 0, 0, 0, 0), 0);
        due("33 an empty one", x.shift(2, 0, 0, 0, 1), PLACE);
    }

    private static void beyond9999() {
        HangmanDinner x = HelperDue.plain(1);
        x.set(0, 2, 255);
        for (int i = 0; i < 166; i++) x.pass(60);
        x.pass(39);
        x.plan(0, 0);
        due("at 9999: dined", x.of(0, 4), 9999);
        due("at 9999: clashes", x.told(4), 9999);
        due("beyond: dined", x.on(60, 10), 10059);
        due("beyond: clashes", x.on(60, 1), 10059);
        due("beyond: mean", x.mean(60, 0), 10059);
        due("beyond: ends", x.ends(0), 10000);
        due("beyond: comes", x.of(0, 9), 0);
        x.shut(0, true);
        due("beyond: host", x.on(60, 0), -5);
        due("still at 9999", x.told(0), 9999);
    }

    private static void askingChangesNothing() {
        HangmanDinner x = HelperDue.street(h(1, 3, 10), h(6, 4, 20), h(4, 5, 33), h(5, 2, 60), h(3, 1, 61));
        HelperDue.town(x, "fear 20 w>4&d<3;ease 9 o>0;ill 41");
        for (int house = 0; house < 5; house++) x.set(house, 2, 37 * (house + 2) % 256);
        x.pass(7);
        x.see(3, 2);
        x.plan(1, 0);
        x.plan(0, 0);
        x.plan(3, 4);
        x.book(2, 1);
        int[] before = all(x);
        for (int n = -1; n <= 61; n += 5) {
            x.on(n, 0);
            x.doors(n);
            x.feign(n % 7, 1);
            x.mean(n, 0);
            x.odds(n % 6, 0);
            x.can(n % 6, n % 2, 0);
            x.act(n % 6, n % 3, n);
            x.judge(n % 6, 0);
        }
        int[] after = all(x);
        for (int i = 0; i < before.length; i++) due("asking changes nothing, " + i, after[i], before[i]);
    }
}
