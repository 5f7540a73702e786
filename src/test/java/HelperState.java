import java.util.ArrayList;
import java.util.List;

/** Objects in which much stands, and all that they answer, by which two of them are compared. */
final class HelperState {
    private HelperState() {
    }

    /** Four houses (the third a TOLD one), some of everything, an image that is otherwise; room for more of everything. */
    static HangmanDinner busy() {
        HangmanDinner x = HelperDue.street(HelperDue.h(0, 3, 10), HelperDue.h(1, 4, 20), HelperDue.h(6, 5, 30), HelperDue.h(3, 6, 40));
        for (int part = 0; part < 4; part++) x.row(2, part, part + 1);
        x.set(0, 2, 255);
        x.set(1, 2, 15);
        x.set(3, 2, 240);
        x.set(1, 1, 3);
        x.shut(3, true);
        x.swap(0, 2);
        HelperDue.town(x, "fear 9 w<3;ill 45");
        x.see(0, 2);
        x.plan(0, 0);
        x.plan(1, 1);
        x.plan(0, 0);
        x.book(0, 1);
        x.tape(0, 0, 5);
        for (int i = 0; i < 4; i++) x.item(0, i + 1, i + 3);
        x.tape(1, 3, 4);
        for (int i = 0; i < 4; i++) x.item(1, i, 1000L * i);
        x.tape(2, 4, 3);
        x.item(2, 1, 1);
        x.tape(3, 0, 0);
        x.image();
        x.pass(5);
        HelperDue.town(x, "fear 2 o>0;ill 50");
        x.set(2, 0, 33);
        x.swap(1, 3);
        x.shut(0, true);
        x.see(-1, 0);
        x.see(2, x.on(2, 0) < 0 ? -1 : x.on(2, 0));
        x.plan(3, 0);
        x.book(2, 1);
        HelperDue.feed(x, "fear 1");
        x.act(2, 2, 7);
        return x;
    }

    /** Six houses, six towns, and as many rows of everything as there may be. */
    static HangmanDinner full() {
        HangmanDinner x = new HangmanDinner();
        for (int i = 0; i < 6; i++) x.house(i, i, 10 * i);
        for (int i = 0; i < 6; i++) HelperDue.town(x, "ill 4" + i);
        for (int i = 0; i < 5; i++) x.see(i, x.on(i, 0));
        for (int i = 0; i < 10; i++) x.plan(i % 3, i % 6);
        for (int i = 0; i < 8; i++) x.book(i % 6, i / 4);
        for (int i = 0; i < 100; i++) x.feed('f');
        return x;
    }

    /** What it answers to all that may be asked: now, of THE TEXT, and of THE IMAGE. */
    static List<Long> tell(HangmanDinner x) {
        List<Long> all = new ArrayList<>();
        situation(x, all);
        for (int i = 0; i < 13; i++) all.add((long) x.trace(i));
        all.add((long) x.count(6));
        int[] sizes = {5, 4, 3, 0, 0, 0};
        for (int tape = 0; tape < 6; tape++) {
            for (int i = 0; i <= sizes[tape]; i++) all.add(x.read(tape, i));
            all.add((long) x.item(tape, 0, 0));
        }
        all.add((long) x.town());
        if (x.undo() >= 0) situation(x, all);
        return all;
    }

    private static void situation(HangmanDinner x, List<Long> all) {
        int houses = x.count(0);
        for (int house = 0; house < houses; house++) {
            for (int what = 0; what <= 10; what++) all.add((long) x.of(house, what));
            all.add((long) x.can(house, 1, 0));
            all.add((long) x.can(house, 0, 0));
            all.add((long) x.can(house, 0, 1));
            if (x.of(house, 0) != 6) continue;
            for (int part = 0; part < 4; part++) all.add((long) x.row(house, part, 0));
        }
        for (int what = 0; what <= 10 + houses; what++) all.add((long) x.told(what));
        for (int what = 0; what <= 5; what++) all.add((long) x.count(what));
        all.add((long) x.ends(0));
        all.add((long) x.ends(1));
        all.add((long) x.looked());
        all.add((long) x.judge(0, 0));
    }
}
