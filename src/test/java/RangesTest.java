/**
 * Promises 2 to 38: each number that a call takes, on both sides of its least and of its greatest. Beyond them the
 * call is BEYOND and leaves all as it was; within them it is not.
 */
public final class RangesTest {
    private static final Due due = new Due();
    private static final int[] THING = {0, 15};
    private static final int[] WORTH = {0, 99};
    private static final int[] KIND = {0, 5};
    private static final int[] SHEET = {0, 3};
    private static final int[] FROM_NOW = {0, 80};
    private static final int[] LATER = {1, 80};
    private static final int[] ANY = {Integer.MIN_VALUE, Integer.MAX_VALUE};

    private interface Call {
        long of(PocketBorders x, int[] a);
    }

    public static void main(String[] args) {
        for (int people : new int[] {1, 2, 7, 8}) {
            things(people);
            people(people);
            years(people);
            whatIsBest(people);
            sheets(people);
        }
        hand(2);
        hand(8);
        room();
        nobodyIsThere();
        theRest();
        due.end();
    }

    private static int[][] ranges(int[]... ranges) {
        return ranges;
    }

    /** The start is a call within the ranges; each number of it is put to each edge of its range. */
    private static void edges(String name, int people, int[] start, int[][] ranges, Call call) {
        for (int k = 0; k < start.length; k++) {
            for (int edge : ranges[k]) {
                inside(name, people, with(start, k, edge), call);
            }
            if (ranges[k] != ANY) {
                outside(name, people, with(start, k, ranges[k][0] - 1), call);
                outside(name, people, with(start, k, ranges[k][1] + 1), call);
                outside(name, people, with(start, k, Integer.MIN_VALUE), call);
                outside(name, people, with(start, k, Integer.MAX_VALUE), call);
            }
        }
    }

    private static int[] with(int[] start, int k, int v) {
        int[] a = start.clone();
        a[k] = v;
        return a;
    }

    private static String told(String name, int people, int[] a) {
        return name + java.util.Arrays.toString(a) + " of " + people;
    }

    private static void inside(String name, int people, int[] a, Call call) {
        PocketBorders x = Crowd.of(people);
        boolean beyond = call.of(x, a) == Due.BEYOND;
        due.is(told(name, people, a) + ": is BEYOND", beyond ? 1 : 0, 0);
        due.is(told(name, people, a) + ": status(0)", x.status(0), 0);
    }

    private static void outside(String name, int people, int[] a, Call call) {
        PocketBorders x = Crowd.of(people);
        due.is(told(name, people, a), call.of(x, a), Due.BEYOND);
        due.same("38: status behind " + told(name, people, a), Crowd.findings(x), Crowd.oneOf(Due.BEYOND));
        due.same("behind " + told(name, people, a), Crowd.whole(x), Crowd.whole(Crowd.of(people)));
    }

    private static void things(int people) {
        edges("2: worth", people, new int[] {3, 7}, ranges(THING, WORTH), (x, a) -> x.worth(a[0], a[1]));
        edges("3: worthOf", people, new int[] {3}, ranges(THING), (x, a) -> x.worthOf(a[0]));
        edges("4: who", people, new int[] {3}, ranges(THING), (x, a) -> x.who(a[0]));
    }

    private static void people(int people) {
        int[] one = {0, people - 1};
        edges("6: of", people, new int[] {0, 2}, ranges(one, new int[] {0, 8}), (x, a) -> x.of(a[0], a[1]));
        edges("7: set", people, new int[] {0, 2, 0}, ranges(one, new int[] {1, 4}, new int[] {0, 65535}),
            (x, a) -> x.set(a[0], a[1], a[2]));
        int[][] of = {{}, {0, 70}, {0, 65535}, {-1, people - 1}, {0, 999}};
        for (int what = 1; what <= 4; what++) {
            int w = what;
            edges("7: set, what " + what + ",", people, new int[] {0, 0}, ranges(one, of[what]),
                (x, a) -> x.set(a[0], w, a[1]));
        }
        edges("8: turn", people, new int[] {0, 2}, ranges(one, KIND), (x, a) -> x.turn(a[0], a[1]));
        edges("9: as", people, new int[] {0, 0}, ranges(one, KIND), (x, a) -> x.as(a[0], a[1]));
        edges("10: give", people, new int[] {0, 2}, ranges(one, THING), (x, a) -> x.give(a[0], a[1]));
        edges("12: border", people, new int[] {0}, ranges(one), (x, a) -> x.border(a[0]));
    }

    /** Two of them at the least, as one can't hand to itself. */
    private static void hand(int people) {
        int last = people - 1;
        for (int thing : new int[] {0, 15}) {
            inside("11: hand", people, new int[] {0, last, thing}, RangesTest::handed);
            inside("11: hand", people, new int[] {last, 0, thing}, RangesTest::handed);
        }
        for (int wrong : new int[] {Integer.MIN_VALUE, -1, people, 16, Integer.MAX_VALUE}) {
            outside("11: hand", people, new int[] {wrong, last, 0}, RangesTest::handed);
            outside("11: hand", people, new int[] {0, wrong, 0}, RangesTest::handed);
            outside("11: hand", people, new int[] {wrong, wrong, 0}, RangesTest::handed);
        }
        for (int wrong : new int[] {Integer.MIN_VALUE, -1, 16, 32, Integer.MAX_VALUE}) {
            outside("11: hand", people, new int[] {0, last, wrong}, RangesTest::handed);
        }
    }

    private static long handed(PocketBorders x, int[] a) {
        return x.hand(a[0], a[1], a[2]);
    }

    private static void years(int people) {
        int[] one = {0, people - 1};
        edges("13: years", people, new int[] {2}, ranges(LATER), (x, a) -> x.years(a[0]));
        edges("14: now", people, new int[] {2}, ranges(new int[] {0, 5}), (x, a) -> x.now(a[0]));
        edges("15: on", people, new int[] {0, 2, 0}, ranges(one, FROM_NOW, new int[] {0, 1}),
            (x, a) -> x.on(a[0], a[1], a[2]));
        edges("16: gets", people, new int[] {0, 2}, ranges(one, THING), (x, a) -> x.gets(a[0], a[1]));
        edges("17: loses", people, new int[] {0, 2}, ranges(one, THING), (x, a) -> x.loses(a[0], a[1]));
        edges("18: burns", people, new int[] {2}, ranges(THING), (x, a) -> x.burns(a[0]));
    }

    private static void whatIsBest(int people) {
        int[] one = {0, people - 1};
        edges("19: cousin", people, new int[] {0, 2}, ranges(one, LATER), (x, a) -> x.cousin(a[0], a[1]));
        edges("20: kind", people, new int[] {0, 2}, ranges(one, LATER), (x, a) -> x.kind(a[0], a[1]));
        edges("21: keep", people, new int[] {0, 2, 2}, ranges(one, THING, LATER), (x, a) -> x.keep(a[0], a[1], a[2]));
        edges("22: best", people, new int[] {0, 2}, ranges(one, LATER), (x, a) -> x.best(a[0], a[1]));
        edges("23: richest", people, new int[] {2}, ranges(FROM_NOW), (x, a) -> x.richest(a[0]));
        edges("24: fewest", people, new int[] {0, 2, 2}, ranges(one, THING, new int[] {1, 20}),
            (x, a) -> x.fewest(a[0], a[1], a[2]));
    }

    private static void sheets(int people) {
        int[] one = {0, people - 1};
        edges("28: sheet", people, new int[] {0}, ranges(SHEET), (x, a) -> x.sheet(a[0], 8, 3));
        edges("29: write", people, new int[] {0}, ranges(SHEET), (x, a) -> x.write(a[0], 0, 3));
        edges("29: write to sheet 0", people, new int[] {0}, ranges(new int[] {0, 2}), (x, a) -> x.write(0, a[0], 3));
        edges("29: write to sheet 1", people, new int[] {0}, ranges(new int[] {0, 4}), (x, a) -> x.write(1, a[0], 3));
        edges("30: copy of", people, new int[] {1, 2}, ranges(SHEET, SHEET), (x, a) -> x.copy(a[0], 0, a[1], 0, 1));
        edges("30: copy, from, to, n", people, new int[] {0, 0, 1},
            ranges(new int[] {0, 4}, new int[] {0, 1}, new int[] {0, 2}), (x, a) -> x.copy(1, a[0], 2, a[1], a[2]));
        edges("30: copy back, from, to, n", people, new int[] {0, 0, 1},
            ranges(new int[] {0, 1}, new int[] {0, 4}, new int[] {0, 2}), (x, a) -> x.copy(2, a[0], 1, a[1], a[2]));
        edges("31: lays", people, new int[] {0}, ranges(SHEET), (x, a) -> x.lays(a[0]));
        edges("32: book", people, new int[] {0, 0}, ranges(SHEET, one), (x, a) -> x.book(a[0], a[1]));
        edges("33: read", people, new int[] {0, 0}, ranges(SHEET, one), (x, a) -> x.read(a[0], a[1]));
    }

    /** Those calls that can be FULL, while they are not. */
    private static void room() {
        for (int people : new int[] {0, 7}) {
            edges("5: person", people, new int[] {2}, ranges(KIND), (x, a) -> x.person(a[0]));
        }
        edges("25: feed", 2, new int[] {7, 2}, ranges(ANY, new int[] {1, 4}), (x, a) -> x.feed(a[0], a[1]));
    }

    private static void nobodyIsThere() {
        for (int person : new int[] {Integer.MIN_VALUE, -1, 0, 1, 7, 8, Integer.MAX_VALUE}) {
            int[] p = {person};
            outside("6: of, 2,", 0, p, (x, a) -> x.of(a[0], 2));
            outside("7: set, 1, 0,", 0, p, (x, a) -> x.set(a[0], 1, 0));
            outside("7: set, 3, -1,", 0, p, (x, a) -> x.set(a[0], 3, -1));
            outside("8: turn, 1,", 0, p, (x, a) -> x.turn(a[0], 1));
            outside("9: as, 0,", 0, p, (x, a) -> x.as(a[0], 0));
            outside("10: give, 1,", 0, p, (x, a) -> x.give(a[0], 1));
            outside("11: hand, 1, 1,", 0, p, (x, a) -> x.hand(a[0], 1, 1));
            outside("11: hand to, 1, 1,", 0, p, (x, a) -> x.hand(1, a[0], 1));
            outside("12: border", 0, p, (x, a) -> x.border(a[0]));
            outside("15: on, 0, 0,", 0, p, (x, a) -> x.on(a[0], 0, 0));
            outside("16: gets, 1,", 0, p, (x, a) -> x.gets(a[0], 1));
            outside("17: loses, 1,", 0, p, (x, a) -> x.loses(a[0], 1));
            outside("19: cousin, 1,", 0, p, (x, a) -> x.cousin(a[0], 1));
            outside("20: kind, 1,", 0, p, (x, a) -> x.kind(a[0], 1));
            outside("21: keep, 1, 1,", 0, p, (x, a) -> x.keep(a[0], 1, 1));
            outside("22: best, 1,", 0, p, (x, a) -> x.best(a[0], 1));
            outside("24: fewest, 1, 1,", 0, p, (x, a) -> x.fewest(a[0], 1, 1));
            outside("32: book, 0,", 0, p, (x, a) -> x.book(0, a[0]));
            outside("33: read, 0,", 0, p, (x, a) -> x.read(0, a[0]));
        }
    }

    private static void theRest() {
        for (int people : new int[] {0, 8}) {
            edges("37: count", people, new int[] {2}, ranges(new int[] {0, 3}), (x, a) -> x.count(a[0]));
            edges("38: status", people, new int[] {2}, ranges(new int[] {-1, 6}), (x, a) -> x.status(a[0]));
        }
    }
}
