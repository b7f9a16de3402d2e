/** Promises 34 to 38: images, counts, status. */
public final class ImagesTest {
    private static final Due due = new Due();

    public static void main(String[] args) {
        image();
        latest();
        count();
        status();
        statusOutlivesUndo();
        due.end();
    }

    private static void image() {
        PocketBorders x = new PocketBorders();
        due.is("35: undo(), nothing kept", x.undo(), Due.NONE);
        due.is("36: tear(), nothing kept", x.tear(), 0);
        Due.one(x, 2, 6, Due.set(3, 5));
        Due.one(x, 4, 20, Due.set(7));
        x.set(0, 3, 1);
        x.set(1, 4, 8);
        x.worth(7, 70);
        Due.family(x, "burned 12");
        x.years(2);
        String before = Due.seen(x);
        due.is("34: image()", x.image(), 1);
        x.person(5);
        x.turn(0, 1);
        x.set(1, 3, 2);
        x.set(0, 1, 60);
        x.set(0, 4, 99);
        x.give(0, 15);
        x.worth(7, 1);
        Due.family(x, "burned 1;worth 2 3");
        x.years(20);
        due.is("35: undo()", x.undo(), 2);
        due.same("35: as it was", Due.seen(x), before);
        x.years(30);
        due.is("35: undo() again", x.undo(), 2);
        due.same("35: as it was again", Due.seen(x), before);
        due.is("36: tear()", x.tear(), 1);
        due.is("36: tear() again", x.tear(), 0);
        due.is("35: undo(), torn", x.undo(), Due.NONE);
        due.same("35: as it is", Due.seen(x), before);
    }

    private static void latest() {
        PocketBorders x = new PocketBorders();
        x.image();
        x.person(0);
        x.image();
        x.person(0);
        x.sheet(0, 8, 1);
        x.write(0, 0, 9);
        x.feed(0, 3);
        due.is("35: undo(), the latest", x.undo(), 1);
        due.is("35: count(1), the tape stays", x.count(1), 3);
        due.is("35: write(0, 0, 0), sheets stay", x.write(0, 0, 0), 9);
        due.is("36: tear(), all of them", x.tear(), 1);
        due.is("35: undo(), none left", x.undo(), Due.NONE);
        due.is("35: count(0)", x.count(0), 1);
        x.image();
        x.worth(1, 9);
        due.is("35: undo(), kept anew", x.undo(), 1);
        due.is("35: worthOf(1)", x.worthOf(1), 1);
        x.person(3);
        due.is("35: of(1, 3), one anew", x.of(1, 3), -1);
    }

    private static void count() {
        PocketBorders x = new PocketBorders();
        Due.one(x, 0, 33, Due.set(1, 2));
        Due.one(x, 0, 70, Due.set(2));
        Due.one(x, 0, 1, 0);
        x.feed(0, 4);
        due.is("37: count(0)", x.count(0), 3);
        due.is("37: count(1)", x.count(1), 4);
        due.is("37: count(2)", x.count(2), 104);
        due.is("37: count(3)", x.count(3), 3);
        due.is("37: count(-1)", x.count(-1), Due.BEYOND);
        due.is("37: count(4)", x.count(4), Due.BEYOND);
    }

    private static void status() {
        PocketBorders x = new PocketBorders();
        x.person(9);
        for (int p = 0; p < 8; p++) {
            x.person(0);
        }
        x.person(0);
        x.person(0);
        x.as(0, 1);
        x.as(0, 1);
        x.as(0, 1);
        for (int i = 0; i < 4; i++) {
            x.undo();
        }
        for (int i = 0; i < 5; i++) {
            x.hand(0, 1, 2);
        }
        for (int i = 0; i < 6; i++) {
            x.write(0, 0, 0);
        }
        for (int i = 0; i < 7; i++) {
            x.sheet(0, 8, -1);
        }
        for (int which = 0; which < 7; which++) {
            due.is("38: status(" + which + ")", x.status(which), which + 1);
        }
        due.is("38: status(-1)", x.status(-1), 28);
        due.is("38: status(-2)", x.status(-2), Due.BEYOND);
        due.is("38: status(7)", x.status(7), Due.BEYOND);
        due.is("38: status(0), counted", x.status(0), 3);
        due.is("38: status(-1), counted", x.status(-1), 30);
        due.is("38: status(most)", x.status(Integer.MAX_VALUE), Due.BEYOND);
        due.is("38: status(0), once more", x.status(0), 4);
    }

    private static void statusOutlivesUndo() {
        PocketBorders x = new PocketBorders();
        x.image();
        x.person(6);
        x.undo();
        due.is("38: status(0)", x.status(0), 1);
        Due.family(x, "nobody");
        due.is("38: status(-1), a fault is none", x.status(-1), 1);
    }
}
