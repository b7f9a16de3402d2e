/** Promises 1 to 12: a new object, things, people. */
public final class PeopleTest {
    private static final Due due = new Due();
    private static final int PERSON = 0;
    private static final int HIDER = 1;
    private static final int SERIOUS = 2;
    private static final int AUNT = 3;
    private static final int SWALLOWER = 4;
    private static final int UNCLE = 5;

    public static void main(String[] args) {
        newObject();
        worth();
        who();
        person();
        ofOne();
        showsAndTaken();
        bestAndWorstOfEqualWorth();
        thingZero();
        finds();
        set();
        turn();
        as();
        give();
        hand();
        border();
        eachThingByItself();
        allPlacesTaken();
        turnKeepsTheRest();
        burnedStaysBurned();
        fullPockets();
        due.end();
    }

    private static void newObject() {
        PocketBorders x = new PocketBorders();
        for (int what = 0; what < 6; what++) {
            due.is("1: now(" + what + ")", x.now(what), 0);
        }
        for (int what = 0; what < 4; what++) {
            due.is("1: count(" + what + ")", x.count(what), 0);
        }
        for (int thing = 0; thing < 16; thing++) {
            due.is("1: worthOf(" + thing + ")", x.worthOf(thing), thing);
            due.is("1: who(" + thing + ")", x.who(thing), 0);
        }
        for (int which = -1; which < 7; which++) {
            due.is("1: status(" + which + ")", x.status(which), 0);
        }
        due.is("1: of(0, 0)", x.of(0, 0), Due.BEYOND);
        due.is("1: wipe()", x.wipe(), 0);
        due.is("1: tear()", x.tear(), 0);
        due.is("1: undo()", x.undo(), Due.NONE);
        for (int s = 0; s < 4; s++) {
            due.is("1: lays(" + s + ")", x.lays(s), Due.MISSING);
        }
        PocketBorders y = new PocketBorders();
        x.worth(3, 50);
        x.person(0);
        due.is("1: worthOf(3) of another", y.worthOf(3), 3);
        due.is("1: count(0) of another", y.count(0), 0);
    }

    private static void worth() {
        PocketBorders x = new PocketBorders();
        due.is("2: worth(3, 99)", x.worth(3, 99), 3);
        due.is("2: worth(3, 0)", x.worth(3, 0), 99);
        due.is("3: worthOf(3)", x.worthOf(3), 0);
        due.is("2: worth(15, 7)", x.worth(15, 7), 15);
        due.is("3: worthOf(15)", x.worthOf(15), 7);
        due.is("2: worth(0, 1)", x.worth(0, 1), 0);
        due.is("2: worth(-1, 0)", x.worth(-1, 0), Due.BEYOND);
        due.is("2: worth(16, 0)", x.worth(16, 0), Due.BEYOND);
        due.is("2: worth(5, -1)", x.worth(5, -1), Due.BEYOND);
        due.is("2: worth(5, 100)", x.worth(5, 100), Due.BEYOND);
        due.is("3: worthOf(5)", x.worthOf(5), 5);
        due.is("3: worthOf(-1)", x.worthOf(-1), Due.BEYOND);
        due.is("3: worthOf(16)", x.worthOf(16), Due.BEYOND);
        due.is("3: worthOf(least)", x.worthOf(Integer.MIN_VALUE), Due.BEYOND);
        due.is("3: status(0)", x.status(0), 7);
    }

    private static void who() {
        PocketBorders x = new PocketBorders();
        for (int p = 0; p < 8; p++) {
            x.person(0);
        }
        x.give(0, 5);
        x.give(2, 5);
        x.give(7, 5);
        x.give(1, 15);
        due.is("4: who(5)", x.who(5), Due.set(0, 2, 7));
        due.is("4: who(15)", x.who(15), Due.set(1));
        due.is("4: who(0)", x.who(0), 0);
        due.is("4: who(-1)", x.who(-1), Due.BEYOND);
        due.is("4: who(16)", x.who(16), Due.BEYOND);
    }

    private static void person() {
        PocketBorders x = new PocketBorders();
        due.is("5: person(-1)", x.person(-1), Due.BEYOND);
        due.is("5: person(6)", x.person(6), Due.BEYOND);
        for (int p = 0; p < 8; p++) {
            due.is("5: person(" + p % 6 + ")", x.person(p % 6), p);
        }
        due.is("5: person(0), a 9th", x.person(0), Due.FULL);
        due.is("5: person(6), a 9th", x.person(6), Due.BEYOND);
        due.is("5: count(0)", x.count(0), 8);
        due.is("5: of(7, 0)", x.of(7, 0), 1);
        due.is("5: of(7, 1)", x.of(7, 1), 0);
        due.is("5: of(7, 2)", x.of(7, 2), 0);
        due.is("5: of(7, 3)", x.of(7, 3), -1);
        due.is("5: of(7, 4)", x.of(7, 4), 0);
    }

    private static void ofOne() {
        PocketBorders x = new PocketBorders();
        x.person(0);
        int p = Due.one(x, HIDER, 20, Due.set(1, 4, 9));
        x.set(p, 3, 0);
        x.set(p, 4, 12);
        x.worth(4, 90);
        due.is("6: of(1, 0)", x.of(p, 0), HIDER);
        due.is("6: of(1, 1)", x.of(p, 1), 20);
        due.is("6: of(1, 2)", x.of(p, 2), Due.set(1, 4, 9));
        due.is("6: of(1, 3)", x.of(p, 3), 0);
        due.is("6: of(1, 4)", x.of(p, 4), 12);
        due.is("6: of(1, 5)", x.of(p, 5), Due.set(1, 9));
        due.is("6: of(1, 6)", x.of(p, 6), 9);
        due.is("6: of(1, 7)", x.of(p, 7), 5 * 21 % 16);
        due.is("6: of(1, 8)", x.of(p, 8), 100);
        due.is("6: of(1, -1)", x.of(p, -1), Due.BEYOND);
        due.is("6: of(1, 9)", x.of(p, 9), Due.BEYOND);
        due.is("6: of(-1, 0)", x.of(-1, 0), Due.BEYOND);
        due.is("6: of(2, 0)", x.of(2, 0), Due.BEYOND);
    }

    private static void showsAndTaken() {
        int pocket = Due.set(1, 4, 9);
        shows(PERSON, 0, pocket, pocket, 9);
        shows(HIDER, 0, pocket, Due.set(1, 4), 4);
        shows(SERIOUS, 0, pocket, pocket, 1);
        shows(AUNT, 0, pocket, pocket, 9);
        shows(SWALLOWER, 0, pocket, Due.set(1), 1);
        shows(UNCLE, 0, pocket, 0, -1);
        shows(UNCLE, 48, pocket, 0, -1);
        shows(UNCLE, 49, pocket, pocket, 4);
        shows(UNCLE, 70, pocket, pocket, 4);
        shows(UNCLE, 49, Due.set(1, 9), Due.set(1, 9), 9);
        shows(UNCLE, 49, Due.set(9), Due.set(9), 9);
        shows(HIDER, 0, Due.set(9), 0, -1);
        shows(SWALLOWER, 0, Due.set(9), 0, -1);
        shows(SWALLOWER, 0, Due.set(1, 9), 0, -1);
        for (int kind = 0; kind < 6; kind++) {
            shows(kind, 49, 0, 0, -1);
        }
        shows(PERSON, 0, 65535, 65535, 15);
        shows(SERIOUS, 0, 65535, 65535, 0);
        shows(SWALLOWER, 0, 65535, 16383, 13);
        shows(UNCLE, 49, 65535, 65535, 1);
    }

    private static void shows(int kind, int age, int pocket, int shown, int taken) {
        PocketBorders x = new PocketBorders();
        Due.one(x, kind, age, pocket);
        String one = "kind " + kind + " of " + age + " with " + pocket;
        due.is("6: of(0, 5), " + one, x.of(0, 5), shown);
        due.is("6: of(0, 6), " + one, x.of(0, 6), taken);
    }

    private static void bestAndWorstOfEqualWorth() {
        PocketBorders x = new PocketBorders();
        Due.one(x, PERSON, 49, Due.set(2, 5, 11));
        x.worth(2, 30);
        x.worth(5, 30);
        x.worth(11, 30);
        int[] taken = {2, 5, 2, 11, 11, 5};
        for (int kind = 0; kind < 6; kind++) {
            x.turn(0, kind);
            due.is("6: of(0, 6) of kind " + kind + ", all of one worth", x.of(0, 6), taken[kind]);
        }
        x.worth(5, 40);
        x.worth(11, 40);
        int[] takenThen = {5, 11, 2, 11, 2, 5};
        for (int kind = 0; kind < 6; kind++) {
            x.turn(0, kind);
            due.is("6: of(0, 6) of kind " + kind + ", the first of less worth", x.of(0, 6), takenThen[kind]);
        }
    }

    private static void thingZero() {
        PocketBorders x = new PocketBorders();
        Due.one(x, PERSON, 49, Due.set(0, 1));
        x.worth(0, 50);
        due.is("6: of(0, 8), with thing 0", x.of(0, 8), 51);
        int[] taken = {0, 1, 1, 1, -1, 0};
        for (int kind = 0; kind < 6; kind++) {
            x.turn(0, kind);
            due.is("6: of(0, 6) of kind " + kind + ", 0 of most worth", x.of(0, 6), taken[kind]);
        }
        x.turn(0, AUNT);
        x.set(0, 2, Due.set(0));
        due.is("6: of(0, 6), an aunt with 0 alone", x.of(0, 6), 0);
        due.is("12: border(0), with 0 alone", x.border(0), 0);
        due.is("12: of(0, 2)", x.of(0, 2), 0);
        due.is("12: of(0, 4)", x.of(0, 4), 1);
        due.is("12: now(1)", x.now(1), Due.set(0));
    }

    private static void finds() {
        PocketBorders x = new PocketBorders();
        for (int kind = 0; kind < 6; kind++) {
            x.person(kind);
        }
        int[] ages = {0, 1, 2, 12, 68, 69, 70};
        int[][] found = {
            {5, 5, -1, 6, 5, -1}, {10, 10, 10, 11, 10, -1}, {15, 15, -1, 0, 15, -1}, {1, 1, -1, 2, 1, -1},
            {9, 9, -1, 10, 9, -1}, {14, 14, 14, 15, 14, -1}, {-1, -1, -1, -1, -1, -1}
        };
        for (int i = 0; i < ages.length; i++) {
            for (int p = 0; p < 6; p++) {
                x.set(p, 1, ages[i]);
                due.is("6: of(" + p + ", 7) at " + ages[i], x.of(p, 7), found[i][p]);
            }
        }
    }

    private static void set() {
        PocketBorders x = new PocketBorders();
        x.person(0);
        x.person(0);
        due.is("7: set(0, 1, 70)", x.set(0, 1, 70), 0);
        due.is("7: set(0, 1, 0)", x.set(0, 1, 0), 70);
        due.is("7: set(0, 1, -1)", x.set(0, 1, -1), Due.BEYOND);
        due.is("7: set(0, 1, 71)", x.set(0, 1, 71), Due.BEYOND);
        due.is("7: set(0, 2, 65535)", x.set(0, 2, 65535), 0);
        due.is("7: set(0, 2, 1)", x.set(0, 2, 1), 65535);
        due.is("7: set(0, 2, -1)", x.set(0, 2, -1), Due.BEYOND);
        due.is("7: set(0, 2, 65536)", x.set(0, 2, 65536), Due.BEYOND);
        due.is("7: set(0, 3, 0)", x.set(0, 3, 0), -1);
        due.is("7: set(0, 3, 1)", x.set(0, 3, 1), 0);
        due.is("7: set(0, 3, -1)", x.set(0, 3, -1), 1);
        due.is("7: set(0, 3, -2)", x.set(0, 3, -2), Due.BEYOND);
        due.is("7: set(0, 3, 2)", x.set(0, 3, 2), Due.BEYOND);
        due.is("7: set(0, 4, 999)", x.set(0, 4, 999), 0);
        due.is("7: set(0, 4, 0)", x.set(0, 4, 0), 999);
        due.is("7: set(0, 4, 5)", x.set(0, 4, 5), 0);
        due.is("7: set(0, 4, -1)", x.set(0, 4, -1), Due.BEYOND);
        due.is("7: set(0, 4, 1000)", x.set(0, 4, 1000), Due.BEYOND);
        due.is("7: set(0, 0, 1)", x.set(0, 0, 1), Due.BEYOND);
        due.is("7: set(0, 5, 1)", x.set(0, 5, 1), Due.BEYOND);
        due.is("7: set(-1, 1, 1)", x.set(-1, 1, 1), Due.BEYOND);
        due.is("7: set(2, 1, 1)", x.set(2, 1, 1), Due.BEYOND);
        due.is("7: of(0, 0)", x.of(0, 0), 0);
        due.is("7: of(0, 1)", x.of(0, 1), 0);
        due.is("7: of(0, 2)", x.of(0, 2), 1);
        due.is("7: of(0, 3)", x.of(0, 3), -1);
        due.is("7: of(0, 4)", x.of(0, 4), 5);
        due.is("7: of(1, 4)", x.of(1, 4), 0);
    }

    private static void turn() {
        PocketBorders x = new PocketBorders();
        x.person(AUNT);
        due.is("8: turn(0, 5)", x.turn(0, UNCLE), AUNT);
        due.is("8: turn(0, 5) again", x.turn(0, UNCLE), UNCLE);
        due.is("8: turn(0, 0)", x.turn(0, PERSON), UNCLE);
        due.is("8: turn(0, -1)", x.turn(0, -1), Due.BEYOND);
        due.is("8: turn(0, 6)", x.turn(0, 6), Due.BEYOND);
        due.is("8: turn(-1, 0)", x.turn(-1, 0), Due.BEYOND);
        due.is("8: turn(1, 0)", x.turn(1, 0), Due.BEYOND);
        due.is("8: of(0, 0)", x.of(0, 0), PERSON);
    }

    private static void as() {
        PocketBorders x = new PocketBorders();
        // Row: the kind of the one; column: the kind asked for.
        String[] under = {"1.....", "11....", "1.1...", "1..1..", "11..1.", "1.1..1"};
        for (int p = 0; p < 6; p++) {
            Due.one(x, p, 30 + p, 0);
            for (int kind = 0; kind < 6; kind++) {
                int want = under[p].charAt(kind) == '1' ? 30 + p : Due.KIND;
                due.is("9: as(" + p + ", " + kind + ")", x.as(p, kind), want);
            }
        }
        due.is("9: as(0, -1)", x.as(0, -1), Due.BEYOND);
        due.is("9: as(0, 6)", x.as(0, 6), Due.BEYOND);
        due.is("9: as(-1, 0)", x.as(-1, 0), Due.BEYOND);
        due.is("9: as(6, 1)", x.as(6, 1), Due.BEYOND);
    }

    private static void give() {
        PocketBorders x = new PocketBorders();
        x.person(0);
        due.is("10: give(0, 0)", x.give(0, 0), 1);
        due.is("10: give(0, 0) again", x.give(0, 0), 0);
        due.is("10: give(0, 15)", x.give(0, 15), 1);
        due.is("10: give(0, -1)", x.give(0, -1), Due.BEYOND);
        due.is("10: give(0, 16)", x.give(0, 16), Due.BEYOND);
        due.is("10: give(-1, 1)", x.give(-1, 1), Due.BEYOND);
        due.is("10: give(1, 1)", x.give(1, 1), Due.BEYOND);
        due.is("10: of(0, 2)", x.of(0, 2), Due.set(0, 15));
    }

    private static void hand() {
        PocketBorders x = new PocketBorders();
        Due.one(x, 0, 0, Due.set(2, 3));
        Due.one(x, 0, 0, Due.set(3));
        due.is("11: hand(0, 1, 2)", x.hand(0, 1, 2), 1);
        due.is("11: of(0, 2)", x.of(0, 2), Due.set(3));
        due.is("11: of(1, 2)", x.of(1, 2), Due.set(2, 3));
        due.is("11: hand(0, 1, 3)", x.hand(0, 1, 3), 1);
        due.is("11: of(0, 2) then", x.of(0, 2), 0);
        due.is("11: of(1, 2) then", x.of(1, 2), Due.set(2, 3));
        due.is("11: hand(0, 1, 3) again", x.hand(0, 1, 3), Due.STATE);
        due.is("11: hand(1, 1, 3)", x.hand(1, 1, 3), Due.BEYOND);
        due.is("11: hand(0, 0, 3)", x.hand(0, 0, 3), Due.BEYOND);
        due.is("11: hand(-1, 1, 3)", x.hand(-1, 1, 3), Due.BEYOND);
        due.is("11: hand(2, 1, 3)", x.hand(2, 1, 3), Due.BEYOND);
        due.is("11: hand(0, -1, 3)", x.hand(0, -1, 3), Due.BEYOND);
        due.is("11: hand(0, 2, 3)", x.hand(0, 2, 3), Due.BEYOND);
        due.is("11: hand(0, 1, -1)", x.hand(0, 1, -1), Due.BEYOND);
        due.is("11: hand(0, 1, 16)", x.hand(0, 1, 16), Due.BEYOND);
        due.is("11: of(1, 2) last", x.of(1, 2), Due.set(2, 3));
    }

    private static void border() {
        PocketBorders x = new PocketBorders();
        Due.one(x, PERSON, 3, Due.set(1, 4, 9));
        Due.one(x, PERSON, 70, 0);
        due.is("12: border(0), nobody is cousin", x.border(0), 9);
        due.is("12: now(1)", x.now(1), Due.set(9));
        due.is("12: of(0, 2)", x.of(0, 2), Due.set(1, 4));
        due.is("12: of(0, 4)", x.of(0, 4), 1);
        due.is("12: of(0, 1)", x.of(0, 1), 3);
        x.set(0, 3, 1);
        due.is("12: border(0), to 1", x.border(0), 4);
        due.is("12: of(1, 2)", x.of(1, 2), Due.set(4));
        due.is("12: now(1), no more", x.now(1), Due.set(9));
        x.set(0, 3, 0);
        due.is("12: border(0), to itself", x.border(0), 1);
        due.is("12: of(0, 2), itself", x.of(0, 2), Due.set(1));
        due.is("12: of(0, 4), itself", x.of(0, 4), 3);
        due.is("12: border(1), of 70", x.border(1), 4);
        due.is("12: now(1), two", x.now(1), Due.set(4, 9));
        due.is("12: border(1), none left", x.border(1), -1);
        due.is("12: of(1, 4)", x.of(1, 4), 1);
        x.set(0, 4, 999);
        due.is("12: border(0), 999 lost", x.border(0), 1);
        due.is("12: of(0, 4), held", x.of(0, 4), 999);
        due.is("12: now(0)", x.now(0), 0);
        due.is("12: border(-1)", x.border(-1), Due.BEYOND);
        due.is("12: border(2)", x.border(2), Due.BEYOND);
    }

    private static void eachThingByItself() {
        PocketBorders x = new PocketBorders();
        for (int thing = 0; thing < 16; thing++) {
            due.is("2: worth(" + thing + ", 99)", x.worth(thing, 99), thing);
            for (int other = 0; other < 16; other++) {
                due.is("3: worthOf(" + other + ")", x.worthOf(other), other > thing ? other : 99);
            }
        }
        due.is("2: worth(15, 99), the same", x.worth(15, 99), 99);
        due.is("2: worth(15, 0)", x.worth(15, 0), 99);
        due.is("2: worth(15, 15)", x.worth(15, 15), 0);
    }

    private static void allPlacesTaken() {
        PocketBorders x = new PocketBorders();
        for (int p = 0; p < 8; p++) {
            due.is("7: set(0, 3, " + p + "), not there yet", x.set(0, 3, p), Due.BEYOND);
            due.is("5: person(5)", x.person(UNCLE), p);
            due.is("7: set(" + p + ", 3, itself)", x.set(p, 3, p), -1);
            due.is("7: set(0, 3, " + p + ")", x.set(0, 3, p), p == 0 ? 0 : p - 1);
            due.is("7: set(0, 3, " + (p + 1) + "), not there", x.set(0, 3, p + 1), Due.BEYOND);
        }
        due.is("5: person(5), a 9th", x.person(UNCLE), Due.FULL);
        due.is("7: set(0, 3, 8), not there", x.set(0, 3, 8), Due.BEYOND);
        due.is("7: set(7, 3, -1)", x.set(7, 3, -1), 7);
        due.is("4: who(9), nobody", x.who(9), 0);
        for (int p = 0; p < 8; p++) {
            due.is("10: give(" + p + ", 9)", x.give(p, 9), 1);
            due.is("4: who(9)", x.who(9), (1 << p + 1) - 1);
        }
        due.is("11: hand(0, 7, 9), who has it", x.hand(0, 7, 9), 1);
        due.is("4: who(9), 0 no more", x.who(9), 254);
        due.is("4: who(8)", x.who(8), 0);
        due.is("4: who(10)", x.who(10), 0);
    }

    private static void turnKeepsTheRest() {
        PocketBorders x = new PocketBorders();
        Due.one(x, PERSON, 70, 65535);
        x.set(0, 3, 0);
        x.set(0, 4, 999);
        for (int kind = 5; kind >= 0; kind--) {
            due.is("8: turn(0, " + kind + ")", x.turn(0, kind), kind == 5 ? PERSON : kind + 1);
            int[] one = {kind, 70, 65535, 0, 999};
            for (int what = 0; what < 5; what++) {
                due.is("8: of(0, " + what + ") as " + kind, x.of(0, what), one[what]);
            }
            due.is("9: as(0, 0), of 70", x.as(0, 0), 70);
        }
    }

    private static void fullPockets() {
        PocketBorders x = new PocketBorders();
        Due.one(x, PERSON, 0, 0);
        Due.one(x, PERSON, 0, 65535);
        due.is("6: of(0, 8), nothing", x.of(0, 8), 0);
        due.is("6: of(1, 8), all", x.of(1, 8), 120);
        for (int thing = 0; thing < 16; thing++) {
            x.worth(thing, 99);
            due.is("10: give(1, " + thing + "), all there", x.give(1, thing), 0);
        }
        due.is("6: of(1, 2)", x.of(1, 2), 65535);
        due.is("6: of(1, 8), all of 99", x.of(1, 8), 1584);
        for (int thing = 0; thing < 16; thing++) {
            due.is("11: hand(0, 1, " + thing + "), nothing there", x.hand(0, 1, thing), Due.STATE);
            due.is("11: hand(1, 0, " + thing + ")", x.hand(1, 0, thing), 1);
            due.is("11: of(1, 2)", x.of(1, 2), 65536 - (2 << thing));
            due.is("11: of(0, 2)", x.of(0, 2), (2 << thing) - 1);
        }
        due.is("6: of(1, 8), none left", x.of(1, 8), 0);
        for (int thing = 0; thing < 16; thing++) {
            due.is("10: give(1, " + thing + ")", x.give(1, thing), 1);
        }
        due.is("11: hand(0, 1, 15), to one who has all", x.hand(0, 1, 15), 1);
        due.is("11: of(1, 2), all", x.of(1, 2), 65535);
        due.is("11: of(0, 2), 15 less", x.of(0, 2), 32767);
    }

    private static void burnedStaysBurned() {
        PocketBorders x = new PocketBorders();
        Due.one(x, PERSON, 0, Due.set(5));
        Due.one(x, PERSON, 0, 0);
        due.is("12: border(0), 5 is burned", x.border(0), 5);
        due.is("10: give(0, 5), burned", x.give(0, 5), 1);
        due.is("14: now(1), given", x.now(1), Due.set(5));
        due.is("11: hand(0, 1, 5), burned", x.hand(0, 1, 5), 1);
        due.is("14: now(1), handed", x.now(1), Due.set(5));
        x.set(0, 2, Due.set(5));
        due.is("14: now(1), set", x.now(1), Due.set(5));
        x.set(0, 2, 0);
        x.years(1);
        due.is("13: of(0, 2), 5 is found again", x.of(0, 2), Due.set(5));
        due.is("14: now(1), found", x.now(1), Due.set(5));
        x.set(0, 3, 1);
        due.is("12: border(0), to 1", x.border(0), 5);
        due.is("14: now(1), to 1", x.now(1), Due.set(5));
        due.is("2: worth(5, 9), burned", x.worth(5, 9), 5);
        due.is("14: now(1), of another worth", x.now(1), Due.set(5));
    }
}
