/** Section 1: what the kinds show, lose and find at the edges, and how a year goes (promises 6, 12 and 13). */
public final class KindsTest {
    private static final Due due = new Due();
    private static final int PERSON = 0;
    private static final int HIDER = 1;
    private static final int SERIOUS = 2;
    private static final int AUNT = 3;
    private static final int SWALLOWER = 4;
    private static final int UNCLE = 5;

    public static void main(String[] args) {
        findsAtEveryAge();
        behindFifteenComesZero();
        fewThingsToHide();
        hidesTheLeastOfTheBest();
        takesTheLeastOfEqualWorth();
        auntsGoByNumbers();
        unclesFromFortyNine();
        uncleWithOneTwoThree();
        bordersBySevenAlone();
        nothingTakenNothingLost();
        foundAheadOfTheBorder();
        nothingFound();
        alreadyThere();
        fromOneToTheNext();
        theCousinItself();
        thoseOfSeventy();
        yearsOfNobody();
        due.end();
    }

    /** What a person finds goes up by 5 a year, and starts anew behind 15. */
    private static void findsAtEveryAge() {
        for (int kind = 0; kind < 6; kind++) {
            PocketBorders x = new PocketBorders();
            x.person(kind);
            int plain = 0;
            for (int age = 1; age <= 70; age++) {
                plain += plain + 5 > 15 ? 5 - 16 : 5;
                int[] found = {plain, plain, age % 2 == 1 ? -1 : plain, plain == 15 ? 0 : plain + 1, plain, -1};
                x.set(0, 1, age - 1);
                due.is("6: of(0, 7) of kind " + kind + " ahead of " + age, x.of(0, 7), found[kind]);
                x.set(0, 2, 0);
                x.years(1);
                // At a border it goes at once, but from those who hide the one thing they have.
                boolean goes = age % 7 == 0 && kind != HIDER && kind != SWALLOWER;
                int pocket = found[kind] < 0 || goes ? 0 : 1 << found[kind];
                due.is("13: of(0, 2) of kind " + kind + " at " + age, x.of(0, 2), pocket);
            }
            x.set(0, 1, 70);
            due.is("6: of(0, 7) of kind " + kind + " of 70", x.of(0, 7), -1);
        }
    }

    private static void behindFifteenComesZero() {
        PocketBorders x = new PocketBorders();
        for (int age : new int[] {3, 19, 35, 51, 67}) {
            Due.one(x, AUNT, age - 1, 0);
            due.is("6: an aunt finds 0 at " + age, x.of(x.count(0) - 1, 7), 0);
        }
        Due.one(x, PERSON, 15, 0);
        due.is("6: a person finds 0 at 16", x.of(5, 7), 0);
        Due.one(x, AUNT, 69, 0);
        due.is("6: an aunt finds 15 at 70", x.of(6, 7), 15);
        x.years(1);
        due.is("13: of(0, 2), 0 came", x.of(0, 2), Due.set(0));
        due.is("13: of(1, 2), 0 came", x.of(1, 2), Due.set(0));
        due.is("13: of(2, 2), 0 came at 35 and went", x.of(2, 2), 0);
        due.is("13: of(2, 4)", x.of(2, 4), 1);
        due.is("13: of(5, 2), 0 came", x.of(5, 2), Due.set(0));
        due.is("13: of(6, 2), 15 came at 70 and went", x.of(6, 2), 0);
        due.is("13: now(1)", x.now(1), Due.set(0, 15));
    }

    private static void shows(String why, PocketBorders x, int kind, int pocket, int shown, int taken) {
        x.turn(0, kind);
        x.set(0, 2, pocket);
        due.is("6: of(0, 5), " + why, x.of(0, 5), shown);
        due.is("6: of(0, 6), " + why, x.of(0, 6), taken);
        int burned = x.now(1);
        int lost = x.of(0, 4);
        due.is("12: border(0), " + why, x.border(0), taken);
        due.is("12: of(0, 2), " + why, x.of(0, 2), taken < 0 ? pocket : pocket - Due.set(taken));
        due.is("12: of(0, 4), " + why, x.of(0, 4), taken < 0 ? lost : lost + 1);
        due.is("12: now(1), " + why, x.now(1), taken < 0 ? burned : burned | Due.set(taken));
    }

    private static void fewThingsToHide() {
        PocketBorders x = new PocketBorders();
        Due.one(x, PERSON, 49, 0);
        shows("a person with nothing", x, PERSON, 0, 0, -1);
        shows("a person with 0", x, PERSON, Due.set(0), Due.set(0), 0);
        shows("a person with 15", x, PERSON, Due.set(15), Due.set(15), 15);
        shows("a hider with nothing", x, HIDER, 0, 0, -1);
        shows("a hider with one", x, HIDER, Due.set(0), 0, -1);
        shows("a hider with another one", x, HIDER, Due.set(15), 0, -1);
        shows("a hider with two", x, HIDER, Due.set(0, 15), Due.set(0), 0);
        shows("a hider with all", x, HIDER, 65535, 32767, 14);
        shows("a swallower with nothing", x, SWALLOWER, 0, 0, -1);
        shows("a swallower with one", x, SWALLOWER, Due.set(15), 0, -1);
        shows("a swallower with two", x, SWALLOWER, Due.set(0, 15), 0, -1);
        shows("a swallower with three", x, SWALLOWER, Due.set(0, 14, 15), Due.set(0), 0);
        shows("a swallower with four", x, SWALLOWER, Due.set(0, 1, 14, 15), Due.set(0, 1), 1);
        shows("a swallower with all", x, SWALLOWER, 65535, 16383, 13);
        shows("a serious one with nothing", x, SERIOUS, 0, 0, -1);
        shows("a serious one with 15", x, SERIOUS, Due.set(15), Due.set(15), 15);
        shows("a serious one with all", x, SERIOUS, 65535, 65535, 0);
        shows("an aunt with nothing", x, AUNT, 0, 0, -1);
        shows("an aunt with 0", x, AUNT, Due.set(0), Due.set(0), 0);
        shows("an aunt with all", x, AUNT, 65535, 65535, 15);
    }

    private static void hidesTheLeastOfTheBest() {
        PocketBorders x = new PocketBorders();
        Due.one(x, HIDER, 49, 0);
        for (int thing = 0; thing < 16; thing++) {
            x.worth(thing, 99);
        }
        shows("a hider, all of 99", x, HIDER, 65535, 65534, 1);
        shows("a swallower, all of 99", x, SWALLOWER, 65535, 65532, 2);
        shows("a hider, two of 99", x, HIDER, Due.set(7, 15), Due.set(15), 15);
        for (int thing = 0; thing < 16; thing++) {
            x.worth(thing, 0);
        }
        shows("a hider, all of 0", x, HIDER, 65535, 65534, 1);
        shows("a swallower, all of 0", x, SWALLOWER, 65535, 65532, 2);
        x.worth(9, 1);
        shows("a hider, one of 1", x, HIDER, 65535, 65535 - Due.set(9), 0);
        shows("a swallower, one of 1", x, SWALLOWER, 65535, 65534 - Due.set(9), 1);
        x.worth(4, 2);
        shows("a swallower, of 2, 1 and 0", x, SWALLOWER, 65535, 65535 - Due.set(4, 9), 0);
    }

    private static void takesTheLeastOfEqualWorth() {
        PocketBorders x = new PocketBorders();
        Due.one(x, PERSON, 70, 0);
        for (int thing = 0; thing < 16; thing++) {
            x.worth(thing, 50);
        }
        shows("a person, all of 50", x, PERSON, 65535, 65535, 0);
        shows("a person, 14 and 15 of 50", x, PERSON, Due.set(14, 15), Due.set(14, 15), 14);
        shows("a serious one, all of 50", x, SERIOUS, 65535, 65535, 0);
        shows("a serious one, 14 and 15 of 50", x, SERIOUS, Due.set(14, 15), Due.set(14, 15), 14);
        shows("an uncle, all of 50", x, UNCLE, 65535, 65535, 1);
        x.worth(15, 51);
        x.worth(13, 49);
        shows("a person, 15 of 51", x, PERSON, 65535, 65535, 15);
        shows("a serious one, 13 of 49", x, SERIOUS, 65535, 65535, 13);
        shows("an uncle, 13 of 49", x, UNCLE, 65535, 65535, 0);
    }

    private static void auntsGoByNumbers() {
        PocketBorders x = new PocketBorders();
        Due.one(x, AUNT, 0, 0);
        for (int thing = 0; thing < 16; thing++) {
            x.worth(thing, 15 - thing);
        }
        shows("an aunt, all, 15 of no worth", x, AUNT, 65535, 65535, 15);
        shows("an aunt, 0 to 14", x, AUNT, 32767, 32767, 14);
        shows("an aunt, 0 and 1", x, AUNT, 3, 3, 1);
    }

    private static void unclesFromFortyNine() {
        PocketBorders x = new PocketBorders();
        Due.one(x, UNCLE, 0, 0);
        for (int age : new int[] {0, 7, 42, 48}) {
            x.set(0, 1, age);
            shows("an uncle of " + age, x, UNCLE, 65535, 0, -1);
        }
        for (int age : new int[] {49, 50, 69, 70}) {
            x.set(0, 1, age);
            shows("an uncle of " + age, x, UNCLE, 65535, 65535, 1);
        }
        x.set(0, 1, 48);
        shows("a serious one of 48", x, SERIOUS, 65535, 65535, 0);
    }

    private static void uncleWithOneTwoThree() {
        PocketBorders x = new PocketBorders();
        Due.one(x, UNCLE, 49, 0);
        shows("an uncle with nothing", x, UNCLE, 0, 0, -1);
        shows("an uncle with 0", x, UNCLE, Due.set(0), Due.set(0), 0);
        shows("an uncle with 15", x, UNCLE, Due.set(15), Due.set(15), 15);
        shows("an uncle with two", x, UNCLE, Due.set(0, 15), Due.set(0, 15), 15);
        shows("an uncle with three", x, UNCLE, Due.set(0, 7, 15), Due.set(0, 7, 15), 7);
        x.worth(0, 99);
        shows("an uncle with two, 0 of 99", x, UNCLE, Due.set(0, 15), Due.set(0, 15), 0);
        shows("an uncle with three, 0 of 99", x, UNCLE, Due.set(0, 7, 15), Due.set(0, 7, 15), 15);
    }

    private static void bordersBySevenAlone() {
        PocketBorders x = new PocketBorders();
        Due.one(x, PERSON, 0, 65535);
        Due.one(x, UNCLE, 0, 65535);
        Due.one(x, AUNT, 0, 65535);
        for (int age = 1; age <= 72; age++) {
            x.years(1);
            int at = Math.min(age, 70);
            due.is("13: of(0, 1) in year " + age, x.of(0, 1), at);
            due.is("13: of(0, 4) at " + at, x.of(0, 4), at / 7);
            due.is("13: of(1, 4), an uncle at " + at, x.of(1, 4), Math.max(0, at / 7 - 6));
            due.is("13: of(2, 4), an aunt at " + at, x.of(2, 4), at / 7);
        }
        due.is("13: of(1, 2), an uncle's last", x.of(1, 2), 65535 - Due.set(1, 2, 3, 4));
    }

    private static void nothingTakenNothingLost() {
        PocketBorders x = new PocketBorders();
        Due.one(x, UNCLE, 41, Due.set(3, 8));
        Due.one(x, SWALLOWER, 6, Due.set(8));
        Due.one(x, HIDER, 20, Due.set(9));
        Due.one(x, SERIOUS, 6, 0);
        due.is("13: years(1), nobody shows anything", x.years(1), 0);
        due.is("13: of(0, 2), an uncle of 42", x.of(0, 2), Due.set(3, 8));
        due.is("13: of(1, 2), a swallower with 3 and 8", x.of(1, 2), Due.set(3, 8));
        due.is("13: of(2, 2), a hider who finds what it has", x.of(2, 2), Due.set(9));
        due.is("13: of(3, 2), a serious one", x.of(3, 2), 0);
        due.is("13: now(1)", x.now(1), 0);
        for (int p = 0; p < 4; p++) {
            due.is("13: of(" + p + ", 4)", x.of(p, 4), 0);
        }
    }

    private static void foundAheadOfTheBorder() {
        PocketBorders x = new PocketBorders();
        Due.one(x, PERSON, 6, Due.set(2));
        Due.one(x, HIDER, 6, Due.set(2));
        Due.one(x, SERIOUS, 13, Due.set(7));
        Due.one(x, AUNT, 6, Due.set(1));
        due.is("13: years(1)", x.years(1), 4);
        due.is("13: of(0, 2), 3 is the best", x.of(0, 2), Due.set(2));
        due.is("13: of(1, 2), 3 is hidden", x.of(1, 2), Due.set(3));
        due.is("13: of(2, 2), 6 is the worst", x.of(2, 2), Due.set(7));
        due.is("13: of(3, 2), 4 is the greatest", x.of(3, 2), Due.set(1));
        due.is("13: now(1)", x.now(1), Due.set(2, 3, 4, 6));
    }

    private static void nothingFound() {
        PocketBorders x = new PocketBorders();
        Due.one(x, SERIOUS, 0, 0);
        Due.one(x, UNCLE, 0, 0);
        x.years(1);
        due.is("13: of(0, 2), serious at 1", x.of(0, 2), 0);
        x.years(1);
        due.is("13: of(0, 2), serious at 2", x.of(0, 2), Due.set(10));
        x.years(68);
        due.is("13: of(1, 2), an uncle at 70", x.of(1, 2), 0);
        due.is("13: of(1, 4), an uncle at 70", x.of(1, 4), 0);
        due.is("13: of(1, 1)", x.of(1, 1), 70);
    }

    private static void alreadyThere() {
        PocketBorders x = new PocketBorders();
        Due.one(x, PERSON, 5, Due.set(9, 14));
        Due.one(x, PERSON, 70, Due.set(9));
        x.set(0, 3, 1);
        due.is("13: years(1), finds 14, which it has", x.years(1), 0);
        due.is("13: of(0, 2)", x.of(0, 2), Due.set(9, 14));
        x.worth(9, 90);
        due.is("12: border(0), 9 to one who has it", x.border(0), 9);
        due.is("12: of(0, 2)", x.of(0, 2), Due.set(14));
        due.is("12: of(1, 2)", x.of(1, 2), Due.set(9));
        due.is("12: count(3)", x.count(3), 2);
        x.set(0, 3, -1);
        due.is("12: border(0), 14 is burned", x.border(0), 14);
        x.give(0, 14);
        due.is("12: border(0), 14 is burned again", x.border(0), 14);
        due.is("12: now(1)", x.now(1), Due.set(14));
        due.is("12: of(0, 4)", x.of(0, 4), 3);
        due.is("12: of(1, 4), who got it", x.of(1, 4), 0);
    }

    /** By numbers: what 0 gives to 1 may go on to 2 in the same year, what 2 gives to 1 may not. */
    private static void fromOneToTheNext() {
        PocketBorders x = new PocketBorders();
        for (int p = 0; p < 8; p++) {
            Due.one(x, PERSON, 6, p == 0 ? Due.set(15) : 0);
        }
        for (int p = 0; p < 7; p++) {
            x.set(p, 3, p + 1);
        }
        due.is("13: years(1), from 0 to 7", x.years(1), 8);
        due.is("13: now(1), 15 is burned by 7", x.now(1), Due.set(15));
        due.is("13: who(3)", x.who(3), 255);

        PocketBorders y = new PocketBorders();
        for (int p = 0; p < 8; p++) {
            Due.one(y, PERSON, 6, p == 7 ? Due.set(15) : 0);
        }
        for (int p = 1; p < 8; p++) {
            y.set(p, 3, p - 1);
        }
        due.is("13: years(1), from 7 to 6", y.years(1), 8);
        due.is("13: who(15)", y.who(15), Due.set(6));
        due.is("13: now(1), 3 is burned by 0", y.now(1), Due.set(3));
    }

    private static void theCousinItself() {
        PocketBorders x = new PocketBorders();
        Due.one(x, PERSON, 6, Due.set(9));
        x.set(0, 3, 0);
        due.is("13: years(1), its own cousin", x.years(1), 1);
        due.is("13: of(0, 2)", x.of(0, 2), Due.set(3, 9));
        due.is("13: now(1)", x.now(1), 0);
        x.set(0, 4, 998);
        due.is("12: border(0), to 999", x.border(0), 9);
        due.is("12: of(0, 4)", x.of(0, 4), 999);
        due.is("12: border(0), held to 999", x.border(0), 9);
        due.is("12: of(0, 4), held", x.of(0, 4), 999);
    }

    private static void thoseOfSeventy() {
        PocketBorders x = new PocketBorders();
        for (int kind = 0; kind < 6; kind++) {
            Due.one(x, kind, 70, 65535);
        }
        Due.one(x, PERSON, 62, 0);
        x.set(6, 3, 0);
        String old = Due.seen(x);
        due.is("13: years(1), six of 70", x.years(1), 1);
        due.is("13: years(7), six of 70", x.years(7), 2);
        for (int p = 0; p < 6; p++) {
            due.is("13: of(" + p + ", 1)", x.of(p, 1), 70);
            due.is("13: of(" + p + ", 2)", x.of(p, 2), 65535);
            due.is("13: of(" + p + ", 4)", x.of(p, 4), 0);
        }
        due.is("13: of(6, 1)", x.of(6, 1), 70);
        due.is("13: years(80), all of 70", x.years(80), 2);
        due.is("13: now(0)", x.now(0), 88);
        due.is("13: something changed", Due.seen(x).equals(old) ? 1 : 0, 0);
    }

    private static void yearsOfNobody() {
        PocketBorders x = new PocketBorders();
        due.is("13: years(1), nobody", x.years(1), 0);
        due.is("14: now(0), nobody", x.now(0), 1);
        due.is("13: years(80), nobody", x.years(80), 0);
        due.is("14: now(0), nobody, later", x.now(0), 81);
        due.is("14: now(1), nobody", x.now(1), 0);
        due.is("5: person(0)", x.person(PERSON), 0);
        due.is("5: of(0, 1), of that year", x.of(0, 1), 0);
    }
}
