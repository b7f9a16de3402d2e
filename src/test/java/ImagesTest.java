import java.util.List;
import java.util.function.Consumer;
import java.util.function.ToLongFunction;

/** Promises 34 to 38: images, counts, status. */
public final class ImagesTest {
    private static final Due due = new Due();

    public static void main(String[] args) {
        image();
        latest();
        count();
        status();
        statusOutlivesUndo();
        eachThatIsKept();
        whatIsNotKept();
        keptOfNobodyAndOfEight();
        theLatestAlone();
        countsAtTheirEdges();
        statusOfEach();
        due.end();
    }

    private static void image() {
        PocketBorders x = new PocketBorders();
        due.is("35: undo(), nothing kept", x.undo(), Due.NONE);
        due.is("36: tear(), nothing kept", x.tear(), 0);
        Due.one(x, 2, 6, Due.set(3, 5));
        Due.one(x, 4, 20, Due.set(7));
        x.set(0, 3, 1);
        x.set(1, 4, 8);
        x.worth(7, 70);
        Due.family(x, "burned 12");
        x.years(2);
        String before = Due.seen(x);
        due.is("34: image()", x.image(), 1);
        x.person(5);
        x.turn(0, 1);
        x.set(1, 3, 2);
        x.set(0, 1, 60);
        x.set(0, 4, 99);
        x.give(0, 15);
        x.worth(7, 1);
        Due.family(x, "burned 1;worth 2 3");
        x.years(20);
        due.is("35: undo()", x.undo(), 2);
        due.same("35: as it was", Due.seen(x), before);
        x.years(30);
        due.is("35: undo() again", x.undo(), 2);
        due.same("35: as it was again", Due.seen(x), before);
        due.is("36: tear()", x.tear(), 1);
        due.is("36: tear() again", x.tear(), 0);
        due.is("35: undo(), torn", x.undo(), Due.NONE);
        due.same("35: as it is", Due.seen(x), before);
    }

    private static void latest() {
        PocketBorders x = new PocketBorders();
        x.image();
        x.person(0);
        x.image();
        x.person(0);
        x.sheet(0, 8, 1);
        x.write(0, 0, 9);
        x.feed(0, 3);
        due.is("35: undo(), the latest", x.undo(), 1);
        due.is("35: count(1), the tape stays", x.count(1), 3);
        due.is("35: write(0, 0, 0), sheets stay", x.write(0, 0, 0), 9);
        due.is("36: tear(), all of them", x.tear(), 1);
        due.is("35: undo(), none left", x.undo(), Due.NONE);
        due.is("35: count(0)", x.count(0), 1);
        x.image();
        x.worth(1, 9);
        due.is("35: undo(), kept anew", x.undo(), 1);
        due.is("35: worthOf(1)", x.worthOf(1), 1);
        x.person(3);
        due.is("35: of(1, 3), one anew", x.of(1, 3), -1);
    }

    private static void count() {
        PocketBorders x = new PocketBorders();
        Due.one(x, 0, 33, Due.set(1, 2));
        Due.one(x, 0, 70, Due.set(2));
        Due.one(x, 0, 1, 0);
        x.feed(0, 4);
        due.is("37: count(0)", x.count(0), 3);
        due.is("37: count(1)", x.count(1), 4);
        due.is("37: count(2)", x.count(2), 104);
        due.is("37: count(3)", x.count(3), 3);
        due.is("37: count(-1)", x.count(-1), Due.BEYOND);
        due.is("37: count(4)", x.count(4), Due.BEYOND);
    }

    private static void status() {
        PocketBorders x = new PocketBorders();
        x.person(9);
        for (int p = 0; p < 8; p++) {
            x.person(0);
        }
        x.person(0);
        x.person(0);
        x.as(0, 1);
        x.as(0, 1);
        x.as(0, 1);
        for (int i = 0; i < 4; i++) {
            x.undo();
        }
        for (int i = 0; i < 5; i++) {
            x.hand(0, 1, 2);
        }
        for (int i = 0; i < 6; i++) {
            x.write(0, 0, 0);
        }
        for (int i = 0; i < 7; i++) {
            x.sheet(0, 8, -1);
        }
        for (int which = 0; which < 7; which++) {
            due.is("38: status(" + which + ")", x.status(which), which + 1);
        }
        due.is("38: status(-1)", x.status(-1), 28);
        due.is("38: status(-2)", x.status(-2), Due.BEYOND);
        due.is("38: status(7)", x.status(7), Due.BEYOND);
        due.is("38: status(0), counted", x.status(0), 3);
        due.is("38: status(-1), counted", x.status(-1), 30);
        due.is("38: status(most)", x.status(Integer.MAX_VALUE), Due.BEYOND);
        due.is("38: status(0), once more", x.status(0), 4);
    }

    private static void statusOutlivesUndo() {
        PocketBorders x = new PocketBorders();
        x.image();
        x.person(6);
        x.undo();
        due.is("38: status(0)", x.status(0), 1);
        Due.family(x, "nobody");
        due.is("38: status(-1), a fault is none", x.status(-1), 1);
    }

    private static void undone(String name, Consumer<PocketBorders> change) {
        PocketBorders x = Crowd.of(7);
        x.image();
        String before = Due.seen(x);
        change.accept(x);
        due.is("35: " + name + " changes something", Due.seen(x).equals(before) ? 1 : 0, 0);
        due.is("35: undo() of " + name, x.undo(), 7);
        // Once more, as what is kept stays, and the change is not one of what is kept.
        change.accept(x);
        due.is("35: undo() of " + name + " again", x.undo(), 7);
        due.same("35: behind undo() of " + name, Due.seen(x), before);
    }

    private static void eachThatIsKept() {
        undone("worth 0", x -> x.worth(0, 77));
        undone("worth 15", x -> x.worth(15, 77));
        undone("burned", x -> x.border(2));
        undone("year", x -> x.years(1));
        undone("person", x -> x.person(5));
        for (int p = 0; p < 7; p += 6) {
            int one = p;
            undone("kind of " + p, x -> x.turn(one, 5));
            undone("age of " + p, x -> x.set(one, 1, 5));
            undone("pocket of " + p, x -> x.set(one, 2, 5));
            undone("cousin of " + p, x -> x.set(one, 3, 5));
            undone("lost of " + p, x -> x.set(one, 4, 5));
        }
    }

    private static void whatIsNotKept() {
        PocketBorders x = new PocketBorders();
        Due.feedText(x, "aunt");
        x.sheet(0, 8, 2);
        x.write(0, 0, 5);
        x.image();
        x.person(9);
        x.wipe();
        Due.feedText(x, "uncle age 7");
        x.write(0, 0, 6);
        x.sheet(1, 16, 3);
        due.is("35: undo(), nobody", x.undo(), 0);
        due.is("34: count(1), the tape is not kept", x.count(1), 11);
        due.is("34: family(), the tape is not kept", x.family(), 1);
        due.is("34: of(0, 1)", x.of(0, 1), 7);
        due.is("34: number 0, sheets are not kept", x.write(0, 0, 0), 6);
        due.is("34: lays(1), sheets are not kept", x.lays(1), 3);
        due.is("38: status(0), undo takes none back", x.status(0), 1);
        due.is("38: status(-1), undo takes none back", x.status(-1), 1);
    }

    private static void keptOfNobodyAndOfEight() {
        PocketBorders x = new PocketBorders();
        due.is("34: image(), nobody", x.image(), 1);
        String before = Due.seen(x);
        for (int p = 0; p < 8; p++) {
            x.person(p % 6);
        }
        x.years(80);
        due.is("35: undo(), nobody", x.undo(), 0);
        due.same("35: nobody", Due.seen(x), before);
        due.is("35: of(0, 0), nobody", x.of(0, 0), Due.BEYOND);
        for (int p = 0; p < 8; p++) {
            due.is("35: person, places are free again", x.person(0), p);
            due.is("35: of(" + p + ", 1)", x.of(p, 1), 0);
            due.is("35: of(" + p + ", 2)", x.of(p, 2), 0);
        }
        due.is("35: person, a 9th", x.person(0), Due.FULL);
        due.is("34: image(), eight", x.image(), 1);
        x.worth(0, 5);
        due.is("35: undo(), eight", x.undo(), 8);
        due.is("35: worthOf(0)", x.worthOf(0), 0);
    }

    private static void theLatestAlone() {
        PocketBorders x = new PocketBorders();
        for (int p = 0; p < 4; p++) {
            x.person(p);
            due.is("34: image() again", x.image(), 1);
        }
        x.person(4);
        due.is("35: undo(), the latest", x.undo(), 4);
        due.is("35: undo(), it stays", x.undo(), 4);
        due.is("36: tear()", x.tear(), 1);
        due.is("36: tear(), nothing", x.tear(), 0);
        due.is("36: tear(), still nothing", x.tear(), 0);
        due.is("35: undo(), nothing", x.undo(), Due.NONE);
        due.is("35: count(0)", x.count(0), 4);
        due.is("36: status(-1), tear finds none", x.status(-1), 1);
        due.is("34: image(), anew", x.image(), 1);
        due.is("36: tear(), anew", x.tear(), 1);
    }

    private static void countsAtTheirEdges() {
        PocketBorders x = new PocketBorders();
        for (int what = 0; what < 4; what++) {
            due.is("37: count(" + what + "), nothing", x.count(what), 0);
        }
        for (int p = 0; p < 8; p++) {
            Due.one(x, p % 6, 70, 65535);
            due.is("37: count(0)", x.count(0), p + 1);
            due.is("37: count(2)", x.count(2), 70 * (p + 1));
            due.is("37: count(3)", x.count(3), 16 * (p + 1));
        }
        for (int i = 1; i <= 30; i++) {
            x.feed(0, 4);
            due.is("37: count(1)", x.count(1), 4 * i);
        }
        x.set(7, 2, 0);
        x.set(7, 1, 0);
        due.is("37: count(2), seven", x.count(2), 490);
        due.is("37: count(3), seven", x.count(3), 112);
        due.is("37: status(-1)", x.status(-1), 0);
    }

    /** Which finding an act answers is counted, and no other one; status counts its own wrong calls. */
    private static void statusOfEach() {
        for (int f = 0; f < 7; f++) {
            PocketBorders x = new PocketBorders();
            x.person(0);
            x.set(0, 2, 65535);
            for (int times = 1; times <= 3; times++) {
                due.is("38: finding " + f, acts().get(f).applyAsLong(x), Due.BEYOND - f);
                due.is("38: status(-1)", x.status(-1), times);
                for (int which = 0; which < 7; which++) {
                    due.is("38: status(" + which + ")", x.status(which), which == f ? times : 0);
                }
            }
            due.is("38: status(-2)", x.status(-2), Due.BEYOND);
            due.is("38: status(-1), counted from then on", x.status(-1), 4);
            due.is("38: status(7)", x.status(7), Due.BEYOND);
            due.is("38: status(0), counted from then on", x.status(0), f == 0 ? 5 : 2);
            due.is("38: status(-1), and again", x.status(-1), 5);
        }
    }

    /** An act for each finding, from BEYOND to SIZE. */
    private static List<ToLongFunction<PocketBorders>> acts() {
        return List.of(
            x -> x.now(6),
            x -> {
                Due.feedText(x, " ".repeat(120 - x.count(1)));
                return x.feed(0, 1);
            },
            x -> x.as(0, 1),
            x -> x.undo(),
            x -> {
                x.set(0, 2, 0);
                return x.fewest(0, 1, 1);
            },
            x -> x.write(0, 0, 1),
            x -> x.fewest(0, 1, 1));
    }
}
