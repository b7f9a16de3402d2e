import java.util.function.Consumer;
import java.util.function.ToLongFunction;

/**
 * What a call that answers no finding leaves as it was: one that asks changes nothing at all, one that acts changes
 * just what its promise says, as other calls would do it.
 */
public final class LeavesTest {
    private static final Due due = new Due();

    public static void main(String[] args) {
        askingOfThings();
        askingOfYears();
        askingWhatIsBest();
        askingTheRest();
        actingOnPeople();
        actingOnTheRest();
        due.end();
    }

    private static void asks(String name, ToLongFunction<PocketBorders> call) {
        acts(name, call, x -> { });
    }

    /** The call does what the other calls do, and nothing more. */
    private static void acts(String name, ToLongFunction<PocketBorders> call, Consumer<PocketBorders> others) {
        PocketBorders x = Crowd.of(7);
        boolean finding = call.applyAsLong(x) < -1000000000L;
        due.is(name + " answers a finding", finding ? 1 : 0, 0);
        due.is("38: status(-1) behind " + name, x.status(-1), 0);
        PocketBorders twin = Crowd.of(7);
        others.accept(twin);
        due.same("behind " + name, Crowd.whole(x), Crowd.whole(twin));
    }

    private static void askingOfThings() {
        asks("3: worthOf(0)", x -> x.worthOf(0));
        asks("3: worthOf(15)", x -> x.worthOf(15));
        asks("4: who(0)", x -> x.who(0));
        asks("4: who(15)", x -> x.who(15));
        for (int w = 0; w <= 8; w++) {
            int what = w;
            asks("6: of(0, " + w + ")", x -> x.of(0, what));
            asks("6: of(6, " + w + ")", x -> x.of(6, what));
        }
        asks("9: as(6, 0)", x -> x.as(6, 0));
        asks("9: as(5, 2)", x -> x.as(5, 2));
    }

    private static void askingOfYears() {
        for (int w = 0; w <= 5; w++) {
            int what = w;
            asks("14: now(" + w + ")", x -> x.now(what));
        }
        asks("15: on(0, 0, 0)", x -> x.on(0, 0, 0));
        asks("15: on(6, 80, 0)", x -> x.on(6, 80, 0));
        asks("15: on(6, 80, 1)", x -> x.on(6, 80, 1));
        asks("16: gets(0, 11)", x -> x.gets(0, 11));
        asks("17: loses(2, 4)", x -> x.loses(2, 4));
        asks("18: burns(11)", x -> x.burns(11));
    }

    private static void askingWhatIsBest() {
        asks("19: cousin(0, 80)", x -> x.cousin(0, 80));
        asks("20: kind(0, 80)", x -> x.kind(0, 80));
        asks("21: keep(0, 8, 80)", x -> x.keep(0, 8, 80));
        asks("22: best(0, 80)", x -> x.best(0, 80));
        asks("23: richest(80)", x -> x.richest(80));
        asks("24: fewest(1, 1, 20)", x -> x.fewest(1, 1, 20));
    }

    private static void askingTheRest() {
        asks("33: read(0, 6)", x -> x.read(0, 6));
        asks("33: read(1, 0)", x -> x.read(1, 0));
        for (int w = 0; w <= 3; w++) {
            int what = w;
            asks("37: count(" + w + ")", x -> x.count(what));
        }
        for (int w = -1; w <= 6; w++) {
            int which = w;
            asks("38: status(" + w + ")", x -> x.status(which));
        }
        asks("30: copy(1, 5, 2, 2, 0)", x -> x.copy(1, 5, 2, 2, 0));
        asks("30: copy(1, 0, 1, 0, 5)", x -> x.copy(1, 0, 1, 0, 5));
        asks("2: worth(1, 98), as it is", x -> x.worth(1, 98));
        asks("8: turn(1, 1), as it is", x -> x.turn(1, 1));
        asks("7: set(6, 3, 0), as it is", x -> x.set(6, 3, 0));
    }

    private static void actingOnPeople() {
        acts("5: person(4)", x -> x.person(4), x -> {
            x.wipe();
            Due.family(x, "swallower");
            Due.feedText(x, "worth 3 4");
        });
        acts("10: give(3, 0)", x -> x.give(3, 0), x -> x.set(3, 2, x.of(3, 2) | 1));
        acts("10: give(3, 15)", x -> x.give(3, 15), x -> x.set(3, 2, x.of(3, 2) | 32768));
        acts("11: hand(0, 6, 0)", x -> x.hand(0, 6, 0), x -> {
            x.set(0, 2, x.of(0, 2) - 1);
            x.set(6, 2, x.of(6, 2) | 1);
        });
        // 0 is the cousin of 6, who has what it takes.
        acts("12: border(6)", x -> x.border(6), x -> {
            int taken = x.of(6, 6);
            x.set(6, 2, x.of(6, 2) - (1 << taken));
            x.set(0, 2, x.of(0, 2) | 1 << taken);
            x.set(6, 4, x.of(6, 4) + 1);
        });
        asks("12: border(5), an uncle of 48", x -> x.border(5));
    }

    private static void actingOnTheRest() {
        acts("31: lays(1)", x -> x.lays(1), x -> {
            for (int thing = 0; thing < 5; thing++) {
                x.worth(thing, 81 + thing);
            }
        });
        acts("30: copy(1, 3, 2, 0, 2)", x -> x.copy(1, 3, 2, 0, 2), x -> {
            x.write(2, 0, 84);
            x.write(2, 1, 85);
        });
        acts("32: book(2, 0)", x -> x.book(2, 0), x -> {
            x.write(2, 0, Integer.bitCount(x.on(0, 0, 0)));
            x.write(2, 1, Integer.bitCount(x.on(0, 1, 0)));
        });
        acts("35: undo(), of what is kept just now", x -> x.image() + x.undo(), x -> x.image());
        acts("36: tear(), and image()", x -> x.tear() + x.image(), x -> x.image());
        acts("28: sheet(0, 0, 3) and (0, 8, 3)", x -> x.sheet(0, 0, 3) + x.sheet(0, 8, 3), x -> {
            for (int i = 0; i < 3; i++) {
                x.write(0, i, 0);
            }
        });
        acts("25: feed of four", x -> x.feed(0x20202020, 4), x -> Due.feedText(x, "    "));
        acts("26: wipe(), and the same fed", x -> {
            int had = x.wipe();
            Due.feedText(x, "worth 3 4");
            return had;
        }, x -> { });
    }
}
