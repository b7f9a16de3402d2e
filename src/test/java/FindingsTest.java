import java.util.function.Consumer;
import java.util.function.ToLongFunction;

/**
 * Each finding that a promise lists, in the order in which it lists them: where two hold at once, the first is
 * answered. A call that answers a finding is counted once and changes nothing but status().
 */
public final class FindingsTest {
    private static final Due due = new Due();
    private static final int LEAST = Integer.MIN_VALUE;
    private static final int MOST = Integer.MAX_VALUE;
    private static final int ALL = 65535;
    private static final Consumer<PocketBorders> AS_IT_IS = x -> { };

    public static void main(String[] args) {
        theCrowdItself();
        person();
        as();
        hand();
        years();
        neverOn();
        whatIsBest();
        fewest();
        feed();
        undo();
        sheet();
        write();
        copy();
        laysBookRead();
        due.end();
    }

    /** What the other tests stand on: nothing is found while it is made, and a change of anything can be seen. */
    private static void theCrowdItself() {
        for (int people = 0; people <= 8; people++) {
            PocketBorders x = Crowd.of(people);
            due.is("count(0)", x.count(0), people);
            due.is("38: status(-1)", x.status(-1), 0);
        }
        differs("worth", x -> x.worth(15, 1));
        differs("person", x -> x.person(0));
        differs("set, age", x -> x.set(6, 1, 1));
        differs("set, pocket", x -> x.set(6, 2, 1));
        differs("set, cousin", x -> x.set(6, 3, -1));
        differs("set, lost", x -> x.set(6, 4, 1));
        differs("turn", x -> x.turn(6, 5));
        differs("years", x -> x.years(1));
        differs("feed", x -> x.feed(' ', 1));
        differs("wipe", x -> x.wipe());
        differs("other bytes", x -> Due.feedText(x, "worth 3 5".substring(x.wipe() - 9)));
        differs("sheet, bits", x -> x.sheet(3, 8, 0));
        differs("write", x -> x.write(1, 4, 1));
        differs("image", x -> x.image());
        differs("tear", x -> x.tear());
        differs("undo", x -> x.undo());
        PocketBorders x = Crowd.of(7);
        x.copy(0, 0, 0, 1, 1);
        x.sheet(0, 16, 3);
        for (int i = 0; i < 3; i++) {
            x.write(0, i, 71 + i);
        }
        due.is("other bits are seen", Crowd.whole(x).equals(Crowd.whole(Crowd.of(7))) ? 1 : 0, 0);
    }

    private static void differs(String name, Consumer<PocketBorders> change) {
        PocketBorders x = Crowd.of(7);
        change.accept(x);
        due.is("is seen: " + name, Crowd.whole(x).equals(Crowd.whole(Crowd.of(7))) ? 0 : 1, 1);
    }

    private static void finds(int finding, String name, ToLongFunction<PocketBorders> call) {
        finds(finding, name, 2, AS_IT_IS, call);
    }

    private static void finds(int finding, String name, int people, Consumer<PocketBorders> ready,
        ToLongFunction<PocketBorders> call) {
        PocketBorders x = Crowd.of(people);
        ready.accept(x);
        due.is("38: status(-1) ahead of " + name, x.status(-1), 0);
        due.is(name, call.applyAsLong(x), finding);
        due.same("38: status behind " + name, Crowd.findings(x), Crowd.oneOf(finding));
        PocketBorders twin = Crowd.of(people);
        ready.accept(twin);
        due.same("behind " + name, Crowd.whole(x), Crowd.whole(twin));
    }

    private static void person() {
        finds(Due.BEYOND, "5: person(6), no room", 8, AS_IT_IS, x -> x.person(6));
        finds(Due.BEYOND, "5: person(-1), no room", 8, AS_IT_IS, x -> x.person(-1));
        finds(Due.FULL, "5: person(0), no room", 8, AS_IT_IS, x -> x.person(0));
        finds(Due.FULL, "5: person(5), no room", 8, AS_IT_IS, x -> x.person(5));
    }

    private static void as() {
        finds(Due.BEYOND, "9: as(2, 5), no such one", x -> x.as(2, 5));
        finds(Due.BEYOND, "9: as(-1, 5), no such one", x -> x.as(-1, 5));
        finds(Due.BEYOND, "9: as(0, 6), kind", x -> x.as(0, 6));
        finds(Due.KIND, "9: as(0, 1), a kind under its own", x -> x.as(0, 1));
        finds(Due.KIND, "9: as(1, 2), a kind beside its own", x -> x.as(1, 2));
        finds(Due.KIND, "9: as(1, 4), a kind under its own", x -> x.as(1, 4));
        finds(Due.KIND, "9: as(5, 1), not above an uncle", 8, AS_IT_IS, x -> x.as(5, 1));
        finds(Due.KIND, "9: as(4, 2), not above a swallower", 8, AS_IT_IS, x -> x.as(4, 2));
    }

    private static void hand() {
        Consumer<PocketBorders> three = x -> {
            x.set(0, 2, Due.set(3));
            x.set(1, 2, Due.set(5));
        };
        finds(Due.BEYOND, "11: hand(0, 0, 3), has it", 2, three, x -> x.hand(0, 0, 3));
        finds(Due.BEYOND, "11: hand(0, 0, 5), hasn't got it", 2, three, x -> x.hand(0, 0, 5));
        finds(Due.BEYOND, "11: hand(1, 1, 5), has it", 2, three, x -> x.hand(1, 1, 5));
        finds(Due.BEYOND, "11: hand(0, 2, 5), hasn't got it", 2, three, x -> x.hand(0, 2, 5));
        finds(Due.BEYOND, "11: hand(0, 2, 3), has it", 2, three, x -> x.hand(0, 2, 3));
        finds(Due.STATE, "11: hand(0, 1, 4), nobody has it", 2, three, x -> x.hand(0, 1, 4));
        finds(Due.STATE, "11: hand(0, 1, 5), the other has it", 2, three, x -> x.hand(0, 1, 5));
        finds(Due.STATE, "11: hand(1, 0, 3), the other has it", 2, three, x -> x.hand(1, 0, 3));
    }

    private static void years() {
        // The crowd is in year 3 already.
        Consumer<PocketBorders> late = x -> {
            for (int i = 0; i < 124; i++) {
                x.years(80);
            }
            x.set(1, 1, 6);
        };
        Consumer<PocketBorders> last = x -> {
            late.accept(x);
            x.years(76);
            x.set(1, 1, 6);
        };
        finds(Due.STATE, "13: years(77) in 9923", 2, late, x -> x.years(77));
        finds(Due.STATE, "13: years(80) in 9923", 2, late, x -> x.years(80));
        finds(Due.BEYOND, "13: years(81) in 9923", 2, late, x -> x.years(81));
        finds(Due.STATE, "13: years(1) in 9999", 2, last, x -> x.years(1));
        finds(Due.BEYOND, "13: years(0) in 9999", 2, last, x -> x.years(0));
        finds(Due.BEYOND, "13: years(-1) in 9999", 2, last, x -> x.years(-1));
        finds(Due.BEYOND, "13: years(81) in 9999", 2, last, x -> x.years(81));
        finds(Due.BEYOND, "13: years(most) in 9999", 2, last, x -> x.years(MOST));
        finds(Due.BEYOND, "13: years(least) in 9999", 2, last, x -> x.years(LEAST));
    }

    private static void neverOn() {
        Consumer<PocketBorders> old = x -> {
            x.set(0, 1, 70);
            x.set(1, 1, 70);
            x.set(0, 2, Due.set(3));
        };
        finds(Due.NONE, "16: gets(0, 4), of 70", 2, old, x -> x.gets(0, 4));
        finds(Due.BEYOND, "16: gets(2, 4), no such one", 2, old, x -> x.gets(2, 4));
        finds(Due.BEYOND, "16: gets(0, 16), no such thing", 2, old, x -> x.gets(0, 16));
        finds(Due.NONE, "17: loses(0, 3), of 70", 2, old, x -> x.loses(0, 3));
        finds(Due.BEYOND, "17: loses(0, 16), no such thing", 2, old, x -> x.loses(0, 16));
        finds(Due.NONE, "18: burns(3), all of 70", 2, old, x -> x.burns(3));
        finds(Due.NONE, "18: burns(3), nobody", 0, AS_IT_IS, x -> x.burns(3));
        finds(Due.BEYOND, "18: burns(16), nobody", 0, AS_IT_IS, x -> x.burns(16));
    }

    private static void whatIsBest() {
        Consumer<PocketBorders> old = x -> {
            x.set(1, 1, 70);
            x.set(1, 2, Due.set(4, 9));
            x.set(0, 3, -1);
        };
        finds(Due.NONE, "21: keep(1, 15, 1), of 70", 2, old, x -> x.keep(1, 15, 1));
        finds(Due.NONE, "21: keep(1, 15, 80), of 70", 2, old, x -> x.keep(1, 15, 80));
        finds(Due.BEYOND, "21: keep(1, 15, 81), of 70", 2, old, x -> x.keep(1, 15, 81));
        finds(Due.BEYOND, "21: keep(1, 15, 0), of 70", 2, old, x -> x.keep(1, 15, 0));
        finds(Due.NONE, "22: best(1, 1), has all", 2, x -> x.set(1, 2, ALL), x -> x.best(1, 1));
        finds(Due.NONE, "22: best(1, 80), has all", 2, x -> x.set(1, 2, ALL), x -> x.best(1, 80));
        finds(Due.BEYOND, "22: best(1, 0), has all", 2, x -> x.set(1, 2, ALL), x -> x.best(1, 0));
        finds(Due.BEYOND, "22: best(1, 81), has all", 2, x -> x.set(1, 2, ALL), x -> x.best(1, 81));
        finds(Due.NONE, "23: richest(0), nobody", 0, AS_IT_IS, x -> x.richest(0));
        finds(Due.NONE, "23: richest(80), nobody", 0, AS_IT_IS, x -> x.richest(80));
        finds(Due.BEYOND, "23: richest(-1), nobody", 0, AS_IT_IS, x -> x.richest(-1));
        finds(Due.BEYOND, "23: richest(81), nobody", 0, AS_IT_IS, x -> x.richest(81));
    }

    private static void fewest() {
        Consumer<PocketBorders> nine = x -> x.set(0, 2, 1023);
        finds(Due.BEYOND, "24: fewest(0, 8, 21), nine others", 2, nine, x -> x.fewest(0, 8, 21));
        finds(Due.BEYOND, "24: fewest(0, 8, 0), nine others", 2, nine, x -> x.fewest(0, 8, 0));
        finds(Due.BEYOND, "24: fewest(0, 15, 21), not there", 2, nine, x -> x.fewest(0, 15, 21));
        finds(Due.BEYOND, "24: fewest(0, 16, 20), no such thing", 2, nine, x -> x.fewest(0, 16, 20));
        finds(Due.STATE, "24: fewest(0, 15, 20), not there, ten others", 2, nine, x -> x.fewest(0, 15, 20));
        finds(Due.STATE, "24: fewest(0, 9, 1), nothing there", 2, x -> x.set(0, 2, 0), x -> x.fewest(0, 9, 1));
        finds(Due.SIZE, "24: fewest(0, 8, 20), nine others", 2, nine, x -> x.fewest(0, 8, 20));
        finds(Due.SIZE, "24: fewest(0, 15, 1), fifteen others", 2, x -> x.set(0, 2, ALL), x -> x.fewest(0, 15, 1));
        // A person's best (1, of worth 98, or 10) goes at 7 whatever is taken out: SIZE is asked ahead of NONE.
        Consumer<PocketBorders> atSeven = x -> {
            x.set(0, 1, 6);
            x.set(0, 3, -1);
        };
        finds(Due.SIZE, "24: fewest(0, 1, 1), nine others, goes", 2, nine.andThen(atSeven), x -> x.fewest(0, 1, 1));
        Consumer<PocketBorders> eight = x -> x.set(0, 2, Due.set(0, 2, 3, 4, 5, 6, 7, 8, 10));
        finds(Due.NONE, "24: fewest(0, 10, 1), eight others, goes", 2, eight.andThen(atSeven),
            x -> x.fewest(0, 10, 1));
    }

    private static void feed() {
        Consumer<PocketBorders> full = x -> Due.feedText(x, "2" + " ".repeat(110));
        Consumer<PocketBorders> nearlyFull = x -> Due.feedText(x, "2" + " ".repeat(107));
        finds(Due.FULL, "25: feed(.., 1), 120 there", 2, full, x -> x.feed('5', 1));
        finds(Due.FULL, "25: feed(.., 4), 120 there", 2, full, x -> x.feed('5', 4));
        finds(Due.BEYOND, "25: feed(.., 0), 120 there", 2, full, x -> x.feed('5', 0));
        finds(Due.BEYOND, "25: feed(.., 5), 120 there", 2, full, x -> x.feed('5', 5));
        finds(Due.BEYOND, "25: feed(.., -1), 120 there", 2, full, x -> x.feed('5', -1));
        finds(Due.BEYOND, "25: feed(.., most), 120 there", 2, full, x -> x.feed('5', MOST));
        finds(Due.FULL, "25: feed(.., 4), 117 there", 2, nearlyFull, x -> x.feed(0x20202020, 4));
        finds(Due.BEYOND, "25: feed(.., 5), 117 there", 2, nearlyFull, x -> x.feed(0x20202020, 5));
    }

    private static void undo() {
        finds(Due.NONE, "35: undo(), torn", 2, x -> x.tear(), x -> x.undo());
        finds(Due.NONE, "35: undo(), torn, nobody", 0, x -> x.tear(), x -> x.undo());
    }

    private static void sheet() {
        for (int n : new int[] {LEAST, -1, 0, 40, 41, MOST}) {
            finds(Due.BEYOND, "28: sheet(4, 8, " + n + ")", x -> x.sheet(4, 8, n));
            finds(Due.BEYOND, "28: sheet(-1, 0, " + n + ")", x -> x.sheet(-1, 0, n));
            for (int bits : new int[] {LEAST, -64, -8, -1, 1, 7, 9, 15, 17, 24, 32, 63, 65, 128, MOST}) {
                finds(Due.BEYOND, "28: sheet(0, " + bits + ", " + n + ")", x -> x.sheet(0, bits, n));
            }
        }
        for (int bits : new int[] {0, 8, 16, 64}) {
            finds(Due.SIZE, "28: sheet(0, " + bits + ", -1)", x -> x.sheet(0, bits, -1));
            finds(Due.SIZE, "28: sheet(3, " + bits + ", least)", x -> x.sheet(3, bits, LEAST));
            finds(Due.BEYOND, "28: sheet(0, " + bits + ", 41)", x -> x.sheet(0, bits, 41));
            finds(Due.BEYOND, "28: sheet(3, " + bits + ", most)", x -> x.sheet(3, bits, MOST));
        }
    }

    private static void write() {
        for (int i : new int[] {LEAST, -1, 0, 39, 40, MOST}) {
            finds(Due.BEYOND, "29: write(4, " + i + ", 1)", x -> x.write(4, i, 1));
            finds(Due.BEYOND, "29: write(-1, " + i + ", 1)", x -> x.write(-1, i, 1));
            finds(Due.MISSING, "29: write(3, " + i + ", 1)", x -> x.write(3, i, 1));
        }
        finds(Due.BEYOND, "29: write(0, 3, 1)", x -> x.write(0, 3, 1));
        finds(Due.BEYOND, "29: write(0, -1, 1)", x -> x.write(0, -1, 1));
        finds(Due.BEYOND, "29: write(3, 0, 1), none", 2, x -> x.sheet(3, 16, 0), x -> x.write(3, 0, 1));
        finds(Due.MISSING, "29: write(0, 0, 1), it was there", 2, x -> x.sheet(0, 0, 3), x -> x.write(0, 0, 1));
    }

    private static void copy() {
        finds(Due.BEYOND, "30: copy(4, 0, 3, 0, 1), the other missing", x -> x.copy(4, 0, 3, 0, 1));
        finds(Due.BEYOND, "30: copy(3, 0, 4, 0, 1), the one missing", x -> x.copy(3, 0, 4, 0, 1));
        finds(Due.BEYOND, "30: copy(-1, 0, 3, 0, 1)", x -> x.copy(-1, 0, 3, 0, 1));
        finds(Due.BEYOND, "30: copy(3, 0, -1, 0, 1)", x -> x.copy(3, 0, -1, 0, 1));
        finds(Due.MISSING, "30: copy(3, 0, 0, 0, 1)", x -> x.copy(3, 0, 0, 0, 1));
        finds(Due.MISSING, "30: copy(0, 0, 3, 0, 1)", x -> x.copy(0, 0, 3, 0, 1));
        finds(Due.MISSING, "30: copy(3, 0, 3, 0, 0)", x -> x.copy(3, 0, 3, 0, 0));
        finds(Due.MISSING, "30: copy(3, 0, 1, 0, 9), too many", x -> x.copy(3, 0, 1, 0, 9));
        finds(Due.MISSING, "30: copy(1, -1, 3, 0, 1), below 0", x -> x.copy(1, -1, 3, 0, 1));
        finds(Due.KIND, "30: copy(0, 0, 1, 0, 1)", x -> x.copy(0, 0, 1, 0, 1));
        finds(Due.KIND, "30: copy(1, 0, 0, 0, 0), none", x -> x.copy(1, 0, 0, 0, 0));
        finds(Due.KIND, "30: copy(0, 0, 1, 0, 9), too many", x -> x.copy(0, 0, 1, 0, 9));
        finds(Due.KIND, "30: copy(0, -1, 1, 0, 1), below 0", x -> x.copy(0, -1, 1, 0, 1));
        finds(Due.KIND, "30: copy(0, 0, 1, -1, 1), below 0", x -> x.copy(0, 0, 1, -1, 1));
        finds(Due.KIND, "30: copy(0, 0, 1, 0, -1), below 0", x -> x.copy(0, 0, 1, 0, -1));
        finds(Due.KIND, "30: copy(0, 0, 3, 0, 1), 8 and 16", 2, x -> x.sheet(3, 16, 2), x -> x.copy(0, 0, 3, 0, 1));
        finds(Due.KIND, "30: copy(1, 0, 3, 0, 1), 64 and 16", 2, x -> x.sheet(3, 16, 2), x -> x.copy(1, 0, 3, 0, 1));
        copyBeyond();
    }

    /** Sheet 1 has five numbers, sheet 2 has two. */
    private static void copyBeyond() {
        int[][] rows = {
            {1, 4, 2, 0, 2}, {1, 3, 1, 0, 3}, {1, 5, 2, 0, 1}, {1, 6, 2, 0, 0}, {1, 0, 2, 1, 2}, {1, 0, 2, 0, 3},
            {1, 0, 2, 2, 1}, {1, 0, 2, 3, 0}, {2, 0, 1, 0, 3}, {2, 1, 1, 0, 2}, {2, 0, 1, 4, 2}, {1, 0, 1, 1, 5},
            {1, 1, 1, 0, 5}, {1, 0, 1, 0, 6}, {1, -1, 2, 0, 0}, {1, -1, 2, 0, 1}, {1, -2, 1, 0, 2}, {1, 0, 2, -1, 0},
            {1, 0, 2, -1, 1}, {1, 0, 1, -2, 2}, {1, 0, 2, 0, -1}, {1, 1, 2, 1, -1}, {1, 5, 2, 2, -1},
            {1, MOST, 2, 0, 1}, {1, 0, 2, MOST, 1}, {1, 0, 2, 0, MOST}, {1, MOST, 2, 0, MOST}, {1, 1, 2, 1, MOST},
            {1, LEAST, 2, 0, 1}, {1, 0, 2, LEAST, 1}, {1, 0, 2, 0, LEAST}, {1, MOST, 2, MOST, MOST},
            {1, LEAST, 2, LEAST, LEAST}, {1, LEAST, 2, 0, MOST}, {1, MOST, 2, MOST, LEAST}, {1, 1, 2, 1, LEAST}
        };
        for (int[] a : rows) {
            finds(Due.BEYOND, "30: copy" + java.util.Arrays.toString(a), x -> x.copy(a[0], a[1], a[2], a[3], a[4]));
        }
    }

    private static void laysBookRead() {
        for (int s : new int[] {LEAST, -1, 4, MOST}) {
            finds(Due.BEYOND, "31: lays(" + s + ")", x -> x.lays(s));
            finds(Due.BEYOND, "32: book(" + s + ", 2), no such one", x -> x.book(s, 2));
            finds(Due.BEYOND, "33: read(" + s + ", 2), no such one", x -> x.read(s, 2));
        }
        finds(Due.MISSING, "31: lays(3)", x -> x.lays(3));
        for (int person : new int[] {LEAST, -1, 0, 1, 2, 8, MOST}) {
            finds(Due.MISSING, "32: book(3, " + person + ")", x -> x.book(3, person));
            finds(Due.MISSING, "33: read(3, " + person + ")", x -> x.read(3, person));
        }
        finds(Due.BEYOND, "32: book(0, 2), no such one", x -> x.book(0, 2));
        finds(Due.BEYOND, "33: read(0, 2), no such one", x -> x.read(0, 2));
        finds(Due.BEYOND, "32: book(3, 2), none", 2, x -> x.sheet(3, 8, 0), x -> x.book(3, 2));
        finds(Due.BEYOND, "33: read(3, 2), none", 2, x -> x.sheet(3, 8, 0), x -> x.read(3, 2));
    }
}
