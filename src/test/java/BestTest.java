/** Promises 19 to 24: what is best. */
public final class BestTest {
    private static final Due due = new Due();

    public static void main(String[] args) {
        cousin();
        kind();
        keep();
        best();
        richest();
        fewest();
        fewestEdges();
        cousinOfEight();
        kindOfSeveral();
        keepEdges();
        bestEdges();
        richestOfEight();
        fewestOfTwo();
        fewestAheadOfLeast();
        takenOutIsGivenToNobody();
        due.end();
    }

    private static void cousin() {
        PocketBorders x = new PocketBorders();
        Due.one(x, 0, 70, 0);
        Due.one(x, 0, 6, 0);
        x.set(1, 3, 0);
        String before = Due.seen(x);
        due.is("19: cousin(1, 1), itself", x.cousin(1, 1), 2);
        due.is("19: cousin(0, 80), all the same", x.cousin(0, 80), 0);
        due.is("19: cousin(1, 0)", x.cousin(1, 0), Due.BEYOND);
        due.is("19: cousin(1, 81)", x.cousin(1, 81), Due.BEYOND);
        due.is("19: cousin(-1, 1)", x.cousin(-1, 1), Due.BEYOND);
        due.is("19: cousin(2, 1)", x.cousin(2, 1), Due.BEYOND);
        due.same("19: nothing changes", Due.seen(x), before);

        // 1 has its border behind 0 in the same year and gives 15 back: as good as keeping it.
        PocketBorders y = new PocketBorders();
        Due.one(y, 0, 6, Due.set(15));
        Due.one(y, 0, 6, 0);
        y.set(1, 3, 0);
        due.is("19: cousin(0, 1), the least of two", y.cousin(0, 1), 1);
        y.set(1, 3, -1);
        due.is("19: cousin(0, 1), 1 burns it", y.cousin(0, 1), 1);

        // 0 is a year behind 1 and gives 15 back: as good as keeping it, and of a lesser number.
        PocketBorders z = new PocketBorders();
        Due.one(z, 0, 5, Due.set(14));
        Due.one(z, 0, 6, Due.set(15));
        z.set(0, 3, 1);
        due.is("19: cousin(1, 1), 0 has it still", z.cousin(1, 1), 2);
        z.set(0, 2, 0);
        z.worth(14, 0);
        z.worth(3, 0);
        due.is("19: cousin(1, 2), 0 gives it back", z.cousin(1, 2), 1);
        due.is("19: of(1, 3)", z.of(1, 3), -1);
    }

    private static void kind() {
        PocketBorders x = new PocketBorders();
        Due.one(x, 5, 0, 0);
        String before = Due.seen(x);
        due.is("20: kind(0, 1), an aunt finds 6", x.kind(0, 1), 3);
        due.is("20: kind(0, 2), 5 and 10, or 6 and 11", x.kind(0, 2), 3);
        due.is("20: kind(0, 0)", x.kind(0, 0), Due.BEYOND);
        due.is("20: kind(0, 81)", x.kind(0, 81), Due.BEYOND);
        due.is("20: kind(-1, 1)", x.kind(-1, 1), Due.BEYOND);
        due.is("20: kind(1, 1)", x.kind(1, 1), Due.BEYOND);
        due.same("20: nothing changes", Due.seen(x), before);
        x.set(0, 1, 2);
        due.is("20: kind(0, 1), 15 for three of them", x.kind(0, 1), 0);
        x.set(0, 1, 70);
        due.is("20: kind(0, 80), all the same", x.kind(0, 80), 0);
        x.set(0, 1, 6);
        x.set(0, 2, Due.set(0, 8, 15));
        // 3 comes: person -15, hider -8, serious -0 without 3, aunt -15 with 4, swallower -3, uncle keeps 23.
        due.is("20: kind(0, 1), at 7", x.kind(0, 1), 2);
        x.set(0, 2, Due.set(1, 8, 15));
        due.is("20: kind(0, 1), at 7, with 1", x.kind(0, 1), 4);
        x.set(0, 2, Due.set(1, 3, 15));
        due.is("20: kind(0, 1), at 7, with 1 3 15", x.kind(0, 1), 5);
    }

    private static void keep() {
        PocketBorders x = new PocketBorders();
        Due.one(x, 2, 6, Due.set(4, 9));
        String before = Due.seen(x);
        due.is("21: keep(0, 4, 1), above 9", x.keep(0, 4, 1), 10);
        due.is("21: keep(0, 9, 1), as 4 goes first", x.keep(0, 9, 1), 4);
        due.is("21: keep(0, 5, 1)", x.keep(0, 5, 1), Due.NONE);
        due.is("21: keep(0, 4, 0)", x.keep(0, 4, 0), Due.BEYOND);
        due.is("21: keep(0, 4, 81)", x.keep(0, 4, 81), Due.BEYOND);
        due.is("21: keep(0, -1, 1)", x.keep(0, -1, 1), Due.BEYOND);
        due.is("21: keep(0, 16, 1)", x.keep(0, 16, 1), Due.BEYOND);
        due.is("21: keep(-1, 4, 1)", x.keep(-1, 4, 1), Due.BEYOND);
        due.is("21: keep(1, 4, 1)", x.keep(1, 4, 1), Due.BEYOND);
        due.same("21: nothing changes", Due.seen(x), before);
        x.worth(9, 98);
        due.is("21: keep(0, 4, 1), above 98", x.keep(0, 4, 1), 99);
        x.worth(9, 99);
        due.is("21: keep(0, 4, 1), above 99", x.keep(0, 4, 1), Due.NONE);
        x.set(0, 1, 70);
        due.is("21: keep(0, 4, 80)", x.keep(0, 4, 80), 0);
    }

    private static void best() {
        PocketBorders x = new PocketBorders();
        Due.one(x, 0, 6, 0);
        String before = Due.seen(x);
        due.is("22: best(0, 1), so that 3 stays", x.best(0, 1), 4);
        due.is("22: best(0, 0)", x.best(0, 0), Due.BEYOND);
        due.is("22: best(0, 81)", x.best(0, 81), Due.BEYOND);
        due.is("22: best(-1, 1)", x.best(-1, 1), Due.BEYOND);
        due.is("22: best(1, 1)", x.best(1, 1), Due.BEYOND);
        due.same("22: nothing changes", Due.seen(x), before);
        x.set(0, 1, 70);
        due.is("22: best(0, 80), none goes", x.best(0, 80), 15);
        x.set(0, 2, Due.set(15, 13));
        due.is("22: best(0, 80), not what it has", x.best(0, 80), 14);
        x.worth(2, 14);
        due.is("22: best(0, 80), the least of two", x.best(0, 80), 2);
        x.set(0, 2, 65535 - Due.set(11));
        due.is("22: best(0, 80), the last", x.best(0, 80), 11);
        x.set(0, 2, 65535);
        due.is("22: best(0, 80), has all", x.best(0, 80), Due.NONE);
        due.is("22: best(0, 81), has all", x.best(0, 81), Due.BEYOND);
        x.set(0, 2, 65534);
        x.worth(0, 0);
        due.is("22: best(0, 1), worth nothing", x.best(0, 1), 0);
    }

    private static void richest() {
        PocketBorders x = new PocketBorders();
        due.is("23: richest(0), nobody", x.richest(0), Due.NONE);
        due.is("23: richest(81), nobody", x.richest(81), Due.BEYOND);
        due.is("23: richest(-1), nobody", x.richest(-1), Due.BEYOND);
        Due.one(x, 0, 70, 0);
        Due.one(x, 0, 70, 0);
        due.is("23: richest(0), none has anything", x.richest(0), 0);
        x.set(1, 2, Due.set(4));
        due.is("23: richest(0)", x.richest(0), 1);
        Due.one(x, 0, 6, Due.set(3, 5));
        String before = Due.seen(x);
        due.is("23: richest(0), three", x.richest(0), 2);
        due.is("23: richest(1), 5 went", x.richest(1), 1);
        due.is("23: richest(80)", x.richest(80), 2);
        due.is("23: richest(81)", x.richest(81), Due.BEYOND);
        due.same("23: nothing changes", Due.seen(x), before);
        x.set(0, 2, Due.set(1, 3));
        due.is("23: richest(1), the least of two", x.richest(1), 0);
    }

    private static void fewest() {
        PocketBorders x = new PocketBorders();
        Due.one(x, 1, 6, Due.set(5, 9));
        String before = Due.seen(x);
        due.is("24: fewest(0, 5, 1), a hider hides it then", x.fewest(0, 5, 1), Due.set(9));
        due.is("24: fewest(0, 9, 1)", x.fewest(0, 9, 1), 0);
        due.is("24: fewest(0, 3, 1), not there", x.fewest(0, 3, 1), Due.STATE);
        due.same("24: nothing changes", Due.seen(x), before);

        PocketBorders y = new PocketBorders();
        Due.one(y, 4, 6, Due.set(5, 9, 12));
        due.is("24: fewest(0, 5, 1), the least of two", y.fewest(0, 5, 1), Due.set(9));
        y.set(0, 2, Due.set(0, 4, 5, 9, 12, 13));
        due.is("24: fewest(0, 5, 1), stays so", y.fewest(0, 5, 1), 0);
        due.is("24: fewest(0, 9, 1), one", y.fewest(0, 9, 1), Due.set(12));
        y.turn(0, 1);
        due.is("24: fewest(0, 9, 1), a hider, stays so", y.fewest(0, 9, 1), 0);
        due.is("24: fewest(0, 12, 1), a hider", y.fewest(0, 12, 1), Due.set(13));

        PocketBorders z = new PocketBorders();
        Due.one(z, 2, 6, Due.set(4, 9));
        due.is("24: fewest(0, 4, 1), serious", z.fewest(0, 4, 1), Due.NONE);
        due.is("24: fewest(0, 9, 1), serious", z.fewest(0, 9, 1), 0);
        z.turn(0, 0);
        due.is("24: fewest(0, 9, 1), person", z.fewest(0, 9, 1), Due.NONE);
        due.is("24: fewest(0, 9, 20), found again", z.fewest(0, 9, 20), 0);
        due.is("24: fewest(0, 4, 1), person", z.fewest(0, 4, 1), 0);
    }

    private static void fewestEdges() {
        PocketBorders x = new PocketBorders();
        Due.one(x, 0, 69, 511);
        due.is("24: fewest(0, 8, 20), eight others", x.fewest(0, 8, 20), 0);
        due.is("24: fewest(0, 9, 1)", x.fewest(0, 9, 1), Due.STATE);
        x.set(0, 2, 1023);
        due.is("24: fewest(0, 8, 20), nine others", x.fewest(0, 8, 20), Due.SIZE);
        due.is("24: fewest(0, 10, 20), nine others", x.fewest(0, 10, 20), Due.STATE);
        due.is("24: fewest(0, 8, 21)", x.fewest(0, 8, 21), Due.BEYOND);
        due.is("24: fewest(0, 8, 0)", x.fewest(0, 8, 0), Due.BEYOND);
        due.is("24: fewest(0, -1, 1)", x.fewest(0, -1, 1), Due.BEYOND);
        due.is("24: fewest(0, 16, 1)", x.fewest(0, 16, 1), Due.BEYOND);
        due.is("24: fewest(-1, 8, 1)", x.fewest(-1, 8, 1), Due.BEYOND);
        due.is("24: fewest(1, 8, 1)", x.fewest(1, 8, 1), Due.BEYOND);
        x.set(0, 2, 1);
        due.is("24: fewest(0, 0, 1), no others", x.fewest(0, 0, 1), 0);
        x.set(0, 1, 70);
        due.is("24: fewest(0, 0, 20), of 70", x.fewest(0, 0, 20), 0);
    }

    /** 7 gives 5 to 0 if it gets 8 to hide; and 0 finds 8 again in the next year. */
    private static void cousinOfEight() {
        PocketBorders x = new PocketBorders();
        Due.one(x, 0, 6, Due.set(8));
        for (int p = 1; p < 7; p++) {
            Due.one(x, 0, 70, 0);
        }
        Due.one(x, 1, 6, Due.set(5));
        x.set(7, 3, 0);
        String before = Due.seen(x);
        due.is("19: cousin(0, 1), itself", x.cousin(0, 1), 1);
        due.is("19: cousin(0, 2), the last of eight", x.cousin(0, 2), 8);
        due.is("19: cousin(1, 80), of 70, nobody", x.cousin(1, 80), 0);
        due.is("19: cousin(0, 80)", x.cousin(0, 80) >= 0 ? 1 : 0, 1);
        due.same("19: nothing changes", Due.seen(x), before);
        x.set(0, 3, 3);
        due.is("19: cousin(0, 2), whoever it is now", x.cousin(0, 2), 8);
        due.is("19: of(0, 3)", x.of(0, 3), 3);
        x.set(7, 1, 70);
        due.is("19: cousin(0, 2), nobody gives", x.cousin(0, 2), 0);
        x.set(0, 2, 0);
        due.is("19: cousin(0, 1), 3 is worth something", x.cousin(0, 1), 1);
        x.worth(3, 0);
        due.is("19: cousin(0, 1), 3 is worth nothing", x.cousin(0, 1), 0);
    }

    private static void kindOfSeveral() {
        PocketBorders x = new PocketBorders();
        Due.one(x, 0, 48, Due.set(1, 9, 10));
        x.worth(1, 50);
        x.worth(9, 20);
        x.worth(10, 20);
        x.worth(6, 0);
        // person 20 20 5, hider 50 20 5, serious 50 20, aunt 50 20 0, swallower 50 20 5, uncle 50 20.
        due.is("20: kind(0, 1), the lesser of two", x.kind(0, 1), 1);
        x.worth(6, 5);
        due.is("20: kind(0, 1), the least of three", x.kind(0, 1), 1);
        x.worth(6, 6);
        due.is("20: kind(0, 1), the aunt", x.kind(0, 1), 3);
        x.worth(9, 19);
        due.is("20: kind(0, 1), aunt 50 19 6, swallower 50 20 5", x.kind(0, 1), 3);
        x.worth(6, 5);
        due.is("20: kind(0, 1), aunt 50 19 5, swallower 50 20 5", x.kind(0, 1), 4);
        due.is("20: of(0, 0)", x.of(0, 0), 0);
        x.set(0, 1, 70);
        for (int kind = 0; kind < 6; kind++) {
            x.turn(0, kind);
            due.is("20: kind(0, 80), of 70, as " + kind, x.kind(0, 80), 0);
        }
    }

    private static void keepEdges() {
        PocketBorders x = new PocketBorders();
        Due.one(x, 0, 6, Due.set(4, 9));
        due.is("21: keep(0, 4, 1), a person, 9 goes", x.keep(0, 4, 1), 0);
        due.is("21: keep(0, 9, 1), a person, 4 goes", x.keep(0, 9, 1), 0);
        due.is("21: keep(0, 8, 2), found behind the border", x.keep(0, 8, 2), 0);
        due.is("21: keep(0, 8, 1), not found yet", x.keep(0, 8, 1), Due.NONE);
        x.worth(4, 0);
        x.worth(9, 0);
        due.is("21: keep(0, 9, 1), 3 goes as it is", x.keep(0, 9, 1), 0);
        due.is("21: keep(0, 3, 1), found and gone with any worth", x.keep(0, 3, 1), Due.NONE);
        due.is("21: worthOf(3)", x.worthOf(3), 3);

        // A hider's best stays; 0 is the best if it is of as much worth as 11, and 2 if it is of more than 1.
        PocketBorders y = new PocketBorders();
        Due.one(y, 1, 6, Due.set(0, 11));
        y.worth(3, 0);
        y.worth(11, 98);
        due.is("21: keep(0, 0, 1), as much as 98", y.keep(0, 0, 1), 98);
        y.worth(11, 99);
        due.is("21: keep(0, 0, 1), as much as 99", y.keep(0, 0, 1), 99);
        y.worth(11, 1);
        due.is("21: keep(0, 0, 1), as much as 1", y.keep(0, 0, 1), 1);
        y.worth(11, 0);
        due.is("21: keep(0, 0, 1), as much as 0", y.keep(0, 0, 1), 0);
        y.set(0, 2, Due.set(1, 2));
        y.worth(1, 98);
        due.is("21: keep(0, 2, 1), more than 98", y.keep(0, 2, 1), 99);
        y.worth(1, 99);
        due.is("21: keep(0, 2, 1), more than 99", y.keep(0, 2, 1), Due.NONE);
        due.is("21: worthOf(2)", y.worthOf(2), 2);
    }

    private static void bestEdges() {
        PocketBorders x = new PocketBorders();
        Due.one(x, 0, 70, 0);
        due.is("22: best(0, 1), nothing there", x.best(0, 1), 15);
        for (int thing = 0; thing < 16; thing++) {
            x.worth(thing, 0);
        }
        due.is("22: best(0, 1), all of no worth", x.best(0, 1), 0);
        x.set(0, 2, Due.set(0, 1));
        due.is("22: best(0, 80), the first it hasn't got", x.best(0, 80), 2);
        x.set(0, 2, 32767);
        due.is("22: best(0, 80), 15 is left", x.best(0, 80), 15);
        x.set(0, 2, 65534);
        due.is("22: best(0, 80), 0 is left", x.best(0, 80), 0);
        due.is("22: of(0, 2)", x.of(0, 2), 65534);
        x.set(0, 2, 65535);
        due.is("22: best(0, 1), none is left", x.best(0, 1), Due.NONE);
        x.set(0, 1, 6);
        due.is("22: best(0, 80), none is left, though one will go", x.best(0, 80), Due.NONE);

        // It comes to what is there: with 9, and 3 at 7, 8 stays but 9 goes, and of 10 to 15 each goes by itself.
        PocketBorders y = new PocketBorders();
        Due.one(y, 0, 6, Due.set(9));
        due.is("22: best(0, 1), goes itself, so that 9 stays", y.best(0, 1), 10);
        y.worth(8, 9);
        due.is("22: best(0, 1), as good as 9, and goes first", y.best(0, 1), 8);
        y.turn(0, 1);
        // A hider with 15 hides it and loses 9: 15 and 3 are left.
        due.is("22: best(0, 1), a hider", y.best(0, 1), 15);
    }

    private static void richestOfEight() {
        PocketBorders x = new PocketBorders();
        for (int p = 0; p < 8; p++) {
            Due.one(x, 0, 70, 0);
            due.is("23: richest(0), none has anything", x.richest(0), 0);
        }
        x.set(7, 2, Due.set(1));
        due.is("23: richest(0), the last", x.richest(0), 7);
        due.is("23: richest(80), the last", x.richest(80), 7);
        for (int p = 6; p >= 0; p--) {
            x.set(p, 2, Due.set(1));
            due.is("23: richest(0), the least of several", x.richest(0), p);
        }
        x.set(3, 2, Due.set(1, 2));
        due.is("23: richest(80)", x.richest(80), 3);
        x.set(5, 2, Due.set(15));
        x.worth(15, 0);
        x.worth(1, 0);
        x.worth(2, 0);
        due.is("23: richest(0), things of no worth", x.richest(0), 0);
    }

    private static void fewestOfTwo() {
        // A swallower hides two, and has borders at 7 and 14: 10, the fourth best, stays if two of the three go.
        PocketBorders x = new PocketBorders();
        for (int thing = 0; thing < 16; thing++) {
            x.worth(thing, 0);
        }
        x.worth(4, 20);
        x.worth(5, 30);
        x.worth(9, 40);
        x.worth(10, 10);
        Due.one(x, 4, 6, Due.set(4, 5, 9, 10));
        String before = Due.seen(x);
        due.is("24: fewest(0, 10, 8), two, the least of three sets", x.fewest(0, 10, 8), Due.set(4, 5));
        due.is("24: fewest(0, 10, 1), one border alone", x.fewest(0, 10, 1), 0);
        due.is("24: fewest(0, 10, 7), one border alone", x.fewest(0, 10, 7), 0);
        due.is("24: fewest(0, 4, 1), one, the lesser", x.fewest(0, 4, 1), Due.set(5));
        due.is("24: fewest(0, 5, 8)", x.fewest(0, 5, 8), 0);
        due.same("24: nothing changes", Due.seen(x), before);

        // An uncle loses the second worst at 49, 56 and 63.
        PocketBorders y = new PocketBorders();
        Due.one(y, 5, 43, Due.set(0, 1, 6, 8, 9, 10, 15));
        due.is("24: fewest(0, 8, 20), three", y.fewest(0, 8, 20), Due.set(0, 1, 6));
        due.is("24: fewest(0, 8, 13), borders at 49 and 56", y.fewest(0, 8, 13), 0);
        due.is("24: fewest(0, 6, 13), borders at 49 and 56", y.fewest(0, 6, 13), Due.set(0, 1));
        due.is("24: fewest(0, 0, 20), the worst", y.fewest(0, 0, 20), 0);
    }

    /**
     * A swallower of 19 has borders at 21 and 28, and finds 14 at 22 and 8 at 24. Without 14, 8 goes and comes again,
     * and 10 goes behind it; without 10 and 11, a set of a lesser number, 8 is hidden both times.
     */
    private static void fewestAheadOfLeast() {
        PocketBorders x = new PocketBorders();
        for (int thing : new int[] {4, 9, 12, 13}) {
            x.worth(thing, 0);
        }
        Due.one(x, 4, 19, Due.set(8, 10, 11, 14));
        due.is("24: fewest(0, 8, 9), one of a greater number", x.fewest(0, 8, 9), Due.set(14));
        x.set(0, 2, Due.set(8, 14));
        due.is("15: on(0, 9, 0) without 10 and 11", x.on(0, 9, 0) & Due.set(8), Due.set(8));
        x.set(0, 2, Due.set(8, 10, 11));
        due.is("15: on(0, 9, 0) without 14", x.on(0, 9, 0) & Due.set(8), Due.set(8));
        x.set(0, 2, Due.set(8, 10, 14));
        due.is("15: on(0, 9, 0) without 11", x.on(0, 9, 0) & Due.set(8), 0);
        x.set(0, 2, Due.set(8, 11, 14));
        due.is("15: on(0, 9, 0) without 10", x.on(0, 9, 0) & Due.set(8), 0);
    }

    /** If 9 came to 1, who is the cousin, 1 would hide it and give 8, which 0 would hide instead of 6. */
    private static void takenOutIsGivenToNobody() {
        PocketBorders x = new PocketBorders();
        x.worth(13, 0);
        Due.one(x, 1, 40, Due.set(6, 9));
        Due.one(x, 4, 41, Due.set(8, 10, 13));
        x.set(0, 3, 1);
        x.set(1, 3, 0);
        due.is("24: fewest(0, 6, 2), 9 is taken out", x.fewest(0, 6, 2), Due.set(9));
        x.hand(0, 1, 9);
        due.is("24: fewest(0, 6, 2), 9 is given to 1", x.fewest(0, 6, 2), Due.NONE);
    }
}
