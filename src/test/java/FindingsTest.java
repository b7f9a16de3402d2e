import java.util.function.ToLongFunction;

/** A call that answers a finding changes nothing but status(), in which it is counted once. */
public final class FindingsTest {
    private static final Due due = new Due();
    private static final int LEAST = Integer.MIN_VALUE;
    private static final int MOST = Integer.MAX_VALUE;

    public static void main(String[] args) {
        things();
        people();
        years();
        whatIsBest();
        textAndImages();
        sheets();
        due.end();
    }

    /** Two people, a fed tape, three sheets; the state that every call below is made in. */
    private static PocketBorders family() {
        PocketBorders x = new PocketBorders();
        Due.family(x, "hider age 6 has 3 5 9 cousin 0;uncle age 48 has 1 2 cousin 0;worth 3 44;burned 11");
        x.set(1, 2, 65535);
        x.set(1, 4, 7);
        x.feed('a' << 8 | 'b', 2);
        x.sheet(0, 8, 3);
        x.sheet(1, 16, 2);
        x.sheet(2, 16, 0);
        x.write(0, 1, 9);
        x.write(1, 0, 300);
        return x;
    }

    private static String all(PocketBorders x) {
        StringBuilder all = new StringBuilder(Due.seen(x));
        // Last, as it asks by writing: no findings come of it but those of sheet 3 and behind the ends.
        for (int s = 0; s < 4; s++) {
            for (int i = 0; i < 4; i++) {
                all.append(i == 0 ? " | sheet " : " ").append(x.write(s, i, 0));
            }
        }
        all.append(" | image ").append(x.tear());
        return all.toString();
    }

    private static void finds(int finding, String name, ToLongFunction<PocketBorders> call) {
        PocketBorders x = family();
        due.is("38: status(-1) ahead of " + name, x.status(-1), 0);
        due.is(name, call.applyAsLong(x), finding);
        due.is("38: status(-1) behind " + name, x.status(-1), 1);
        due.is("38: status behind " + name, x.status(Due.BEYOND - finding), 1);
        due.same("behind " + name, all(x), all(family()));
    }

    private static void things() {
        finds(Due.BEYOND, "worth(16, 1)", x -> x.worth(16, 1));
        finds(Due.BEYOND, "worth(least, 1)", x -> x.worth(LEAST, 1));
        finds(Due.BEYOND, "worth(1, 100)", x -> x.worth(1, 100));
        finds(Due.BEYOND, "worth(1, most)", x -> x.worth(1, MOST));
        finds(Due.BEYOND, "worthOf(most)", x -> x.worthOf(MOST));
        finds(Due.BEYOND, "who(least)", x -> x.who(LEAST));
    }

    private static void people() {
        finds(Due.BEYOND, "person(most)", x -> x.person(MOST));
        finds(Due.BEYOND, "of(2, 2)", x -> x.of(2, 2));
        finds(Due.BEYOND, "of(0, least)", x -> x.of(0, LEAST));
        finds(Due.BEYOND, "set(0, 1, 71)", x -> x.set(0, 1, 71));
        finds(Due.BEYOND, "set(0, 2, least)", x -> x.set(0, 2, LEAST));
        finds(Due.BEYOND, "set(0, 3, 2)", x -> x.set(0, 3, 2));
        finds(Due.BEYOND, "set(0, 4, 1000)", x -> x.set(0, 4, 1000));
        finds(Due.BEYOND, "set(0, 5, 0)", x -> x.set(0, 5, 0));
        finds(Due.BEYOND, "set(most, 1, 0)", x -> x.set(MOST, 1, 0));
        finds(Due.BEYOND, "turn(0, 6)", x -> x.turn(0, 6));
        finds(Due.BEYOND, "turn(2, 1)", x -> x.turn(2, 1));
        finds(Due.BEYOND, "as(2, 9)", x -> x.as(2, 9));
        finds(Due.KIND, "as(0, 2)", x -> x.as(0, 2));
        finds(Due.BEYOND, "give(0, 16)", x -> x.give(0, 16));
        finds(Due.BEYOND, "give(2, 1)", x -> x.give(2, 1));
        finds(Due.BEYOND, "hand(0, 0, 1)", x -> x.hand(0, 0, 1));
        finds(Due.BEYOND, "hand(0, 0, 3)", x -> x.hand(0, 0, 3));
        finds(Due.BEYOND, "hand(0, 1, 32)", x -> x.hand(0, 1, 32));
        finds(Due.STATE, "hand(0, 1, 1)", x -> x.hand(0, 1, 1));
        finds(Due.BEYOND, "border(2)", x -> x.border(2));
        PocketBorders x = family();
        for (int p = 2; p < 8; p++) {
            x.person(p - 2);
        }
        String before = Due.seen(x);
        due.is("5: person(0), a 9th", x.person(0), Due.FULL);
        due.same("5: behind a 9th", Due.seen(x), before);
        due.is("38: status(1)", x.status(1), 1);
    }

    private static void years() {
        finds(Due.BEYOND, "years(0)", x -> x.years(0));
        finds(Due.BEYOND, "years(81)", x -> x.years(81));
        finds(Due.BEYOND, "now(6)", x -> x.now(6));
        finds(Due.BEYOND, "on(0, 81, 0)", x -> x.on(0, 81, 0));
        finds(Due.BEYOND, "on(0, 1, 2)", x -> x.on(0, 1, 2));
        finds(Due.BEYOND, "gets(2, 1)", x -> x.gets(2, 1));
        finds(Due.BEYOND, "loses(0, 16)", x -> x.loses(0, 16));
        finds(Due.NONE, "loses(1, 0)", x -> x.loses(1, 0));
        finds(Due.NONE, "burns(0)", x -> x.burns(0));
        finds(Due.BEYOND, "burns(-1)", x -> x.burns(-1));
    }

    private static void whatIsBest() {
        finds(Due.BEYOND, "cousin(0, 0)", x -> x.cousin(0, 0));
        finds(Due.BEYOND, "cousin(2, 1)", x -> x.cousin(2, 1));
        finds(Due.BEYOND, "kind(0, 81)", x -> x.kind(0, 81));
        finds(Due.BEYOND, "keep(0, 1, 0)", x -> x.keep(0, 1, 0));
        finds(Due.BEYOND, "best(0, 0)", x -> x.best(0, 0));
        finds(Due.NONE, "best(1, 1)", x -> x.best(1, 1));
        finds(Due.BEYOND, "richest(81)", x -> x.richest(81));
        finds(Due.BEYOND, "richest(-1)", x -> x.richest(-1));
        finds(Due.BEYOND, "fewest(0, 1, 21)", x -> x.fewest(0, 1, 21));
        finds(Due.STATE, "fewest(0, 1, 20)", x -> x.fewest(0, 1, 20));
        finds(Due.SIZE, "fewest(1, 1, 20)", x -> x.fewest(1, 1, 20));
        PocketBorders x = new PocketBorders();
        Due.one(x, 0, 6, Due.set(4, 9));
        String before = Due.seen(x);
        due.is("24: fewest(0, 9, 1)", x.fewest(0, 9, 1), Due.NONE);
        due.is("21: keep(0, 15, 1)", x.keep(0, 15, 1), Due.NONE);
        due.is("16: gets(0, 0)", x.gets(0, 0), 10);
        due.same("24: behind them", Due.seen(x), before);
        due.is("38: status(3)", x.status(3), 2);
        x.set(0, 1, 70);
        due.is("16: gets(0, 0), of 70", x.gets(0, 0), Due.NONE);
        due.is("38: status(3), three", x.status(3), 3);
    }

    private static void textAndImages() {
        finds(Due.BEYOND, "feed(1, 0)", x -> x.feed(1, 0));
        finds(Due.BEYOND, "feed(1, most)", x -> x.feed(1, MOST));
        finds(Due.NONE, "undo()", x -> x.undo());
        finds(Due.BEYOND, "count(4)", x -> x.count(4));
        finds(Due.BEYOND, "status(7)", x -> x.status(7));
        PocketBorders x = new PocketBorders();
        for (int i = 0; i < 30; i++) {
            x.feed(0, 4);
        }
        due.is("25: feed(1, 4)", x.feed(1, 4), Due.FULL);
        due.is("25: count(1)", x.count(1), 120);
        due.is("38: status(1)", x.status(1), 1);
    }

    private static void sheets() {
        finds(Due.BEYOND, "sheet(4, 8, 1)", x -> x.sheet(4, 8, 1));
        finds(Due.BEYOND, "sheet(0, 9, 1)", x -> x.sheet(0, 9, 1));
        finds(Due.SIZE, "sheet(0, 8, -1)", x -> x.sheet(0, 8, -1));
        finds(Due.SIZE, "sheet(0, 0, -1)", x -> x.sheet(0, 0, -1));
        finds(Due.BEYOND, "sheet(0, 16, 41)", x -> x.sheet(0, 16, 41));
        finds(Due.BEYOND, "sheet(0, 0, 41)", x -> x.sheet(0, 0, 41));
        finds(Due.BEYOND, "write(4, 0, 1)", x -> x.write(4, 0, 1));
        finds(Due.MISSING, "write(3, 0, 1)", x -> x.write(3, 0, 1));
        finds(Due.BEYOND, "write(0, 3, 1)", x -> x.write(0, 3, 1));
        finds(Due.BEYOND, "copy(0, 0, 4, 0, 1)", x -> x.copy(0, 0, 4, 0, 1));
        finds(Due.MISSING, "copy(0, 0, 3, 0, 1)", x -> x.copy(0, 0, 3, 0, 1));
        finds(Due.KIND, "copy(0, 0, 1, 0, 1)", x -> x.copy(0, 0, 1, 0, 1));
        finds(Due.BEYOND, "copy(1, 0, 2, 0, 1)", x -> x.copy(1, 0, 2, 0, 1));
        finds(Due.BEYOND, "copy(0, 1, 0, 0, 3)", x -> x.copy(0, 1, 0, 0, 3));
        finds(Due.BEYOND, "lays(4)", x -> x.lays(4));
        finds(Due.MISSING, "lays(3)", x -> x.lays(3));
        finds(Due.BEYOND, "book(4, 0)", x -> x.book(4, 0));
        finds(Due.MISSING, "book(3, 2)", x -> x.book(3, 2));
        finds(Due.BEYOND, "book(0, 2)", x -> x.book(0, 2));
        finds(Due.BEYOND, "read(4, 0)", x -> x.read(4, 0));
        finds(Due.MISSING, "read(3, 2)", x -> x.read(3, 2));
        finds(Due.BEYOND, "read(0, 2)", x -> x.read(0, 2));
    }
}
