/** Promises 13 to 18: years, and what comes ON. */
public final class YearsTest {
    private static final Due due = new Due();

    public static void main(String[] args) {
        aYear();
        whoComesFirst();
        theOldest();
        lastYear();
        yearsBeyond();
        now();
        on();
        gets();
        loses();
        burns();
        oneByOne();
        toTheLastYear();
        allOfThem();
        onAsYearsGo();
        theLastBorder();
        foundAndBackAgain();
        due.end();
    }

    private static void aYear() {
        PocketBorders x = new PocketBorders();
        Due.one(x, 0, 5, 0);
        due.is("13: years(1), to 6", x.years(1), 0);
        due.is("13: of(0, 1)", x.of(0, 1), 6);
        due.is("13: of(0, 2), 30 by 16", x.of(0, 2), Due.set(14));
        due.is("13: years(1), to 7", x.years(1), 1);
        due.is("13: of(0, 2), 3 came and 14 went", x.of(0, 2), Due.set(3));
        due.is("13: now(1)", x.now(1), Due.set(14));
        due.is("13: now(0)", x.now(0), 2);
        due.is("13: years(7), to 14", x.years(7), 2);
        due.is("13: of(0, 2), 8 13 2 7 12 1 6 came and 13 went", x.of(0, 2), Due.set(1, 2, 3, 6, 7, 8, 12));

        PocketBorders y = new PocketBorders();
        due.is("13: years(80), nobody", y.years(80), 0);
        due.is("13: now(0), nobody", y.now(0), 80);

        PocketBorders z = new PocketBorders();
        Due.one(z, 5, 48, Due.set(3, 5, 8));
        Due.one(z, 2, 6, Due.set(3, 5, 8));
        Due.one(z, 3, 6, 0);
        due.is("13: years(1), an uncle, a serious one, an aunt", z.years(1), 3);
        due.is("13: of(0, 2), uncle of 49", z.of(0, 2), Due.set(3, 8));
        due.is("13: of(1, 2), serious", z.of(1, 2), Due.set(5, 8));
        due.is("13: of(2, 2), aunt found 4", z.of(2, 2), 0);
        due.is("13: now(1)", z.now(1), Due.set(3, 4, 5));
    }

    private static void whoComesFirst() {
        PocketBorders x = new PocketBorders();
        Due.one(x, 0, 6, 0);
        Due.one(x, 0, 6, 0);
        x.set(0, 3, 1);
        due.is("13: years(1), 0 gives to 1 first", x.years(1), 2);
        due.is("13: of(0, 2)", x.of(0, 2), 0);
        due.is("13: of(1, 2)", x.of(1, 2), 0);
        due.is("13: now(1)", x.now(1), Due.set(3));

        PocketBorders y = new PocketBorders();
        Due.one(y, 0, 6, 0);
        Due.one(y, 0, 6, 0);
        y.set(1, 3, 0);
        due.is("13: years(1), 1 gives to 0 later", y.years(1), 2);
        due.is("13: of(0, 2), later", y.of(0, 2), Due.set(3));
        due.is("13: of(1, 2), later", y.of(1, 2), 0);
    }

    private static void theOldest() {
        PocketBorders x = new PocketBorders();
        Due.one(x, 0, 69, 0);
        Due.one(x, 0, 70, Due.set(2));
        due.is("13: years(1), to 70", x.years(1), 1);
        due.is("13: now(1), 14 found at 70 went", x.now(1), Due.set(14));
        due.is("13: years(20), nothing more", x.years(20), 1);
        due.is("13: of(0, 1)", x.of(0, 1), 70);
        due.is("13: of(1, 2)", x.of(1, 2), Due.set(2));
        x.set(0, 4, 999);
        x.set(0, 1, 6);
        due.is("13: years(1), LOST held", x.years(1), 999);
    }

    private static void lastYear() {
        PocketBorders x = new PocketBorders();
        Due.one(x, 0, 6, 0);
        for (int i = 0; i < 124; i++) {
            x.years(80);
        }
        due.is("14: now(0)", x.now(0), 9920);
        due.is("13: years(80) to 10000", x.years(80), Due.STATE);
        due.is("14: now(0) still", x.now(0), 9920);
        due.is("13: years(79) to 9999", x.years(79), x.now(5));
        due.is("14: now(0) last", x.now(0), 9999);
        x.set(0, 1, 6);
        due.is("13: years(1) to 10000", x.years(1), Due.STATE);
        due.is("13: years(0) at 9999", x.years(0), Due.BEYOND);
        due.is("13: years(81) at 9999", x.years(81), Due.BEYOND);
        due.is("13: of(0, 1)", x.of(0, 1), 6);
        due.is("15: on(0, 1, 1) at 9999", x.on(0, 1, 1), x.of(0, 4) + 1);
        due.is("16: burns(3) at 9999", x.burns(3), 0);
    }

    private static void yearsBeyond() {
        PocketBorders x = new PocketBorders();
        due.is("13: years(0)", x.years(0), Due.BEYOND);
        due.is("13: years(81)", x.years(81), Due.BEYOND);
        due.is("13: years(-1)", x.years(-1), Due.BEYOND);
        due.is("13: years(most)", x.years(Integer.MAX_VALUE), Due.BEYOND);
        due.is("13: now(0)", x.now(0), 0);
    }

    private static void now() {
        PocketBorders x = new PocketBorders();
        Due.one(x, 0, 70, Due.set(1, 4));
        Due.one(x, 5, 69, Due.set(4, 15));
        Due.one(x, 1, 70, 0);
        x.set(0, 4, 7);
        x.set(2, 4, 30);
        x.years(3);
        due.is("14: now(0)", x.now(0), 3);
        due.is("14: now(1)", x.now(1), Due.set(15));
        due.is("14: now(2)", x.now(2), Due.set(0, 1, 2));
        x.set(1, 1, 69);
        due.is("14: now(2), not of 69", x.now(2), Due.set(0, 2));
        due.is("14: now(3)", x.now(3), 1 + 4 + 4);
        x.worth(4, 50);
        due.is("14: now(3), each counted", x.now(3), 101);
        due.is("14: now(4)", x.now(4), Due.set(1, 4));
        due.is("14: now(5)", x.now(5), 38);
        due.is("14: now(-1)", x.now(-1), Due.BEYOND);
        due.is("14: now(6)", x.now(6), Due.BEYOND);
    }

    private static void on() {
        PocketBorders x = new PocketBorders();
        Due.one(x, 0, 5, 0);
        Due.one(x, 0, 70, 0);
        x.set(0, 3, 1);
        String before = Due.seen(x);
        due.is("15: on(0, 0, 0)", x.on(0, 0, 0), 0);
        due.is("15: on(0, 1, 0)", x.on(0, 1, 0), Due.set(14));
        due.is("15: on(0, 2, 0)", x.on(0, 2, 0), Due.set(3));
        due.is("15: on(0, 2, 1)", x.on(0, 2, 1), 1);
        due.is("15: on(0, 80, 1)", x.on(0, 80, 1), 10);
        due.is("15: on(1, 2, 0)", x.on(1, 2, 0), Due.set(14));
        due.is("15: on(1, 80, 1)", x.on(1, 80, 1), 0);
        due.is("15: on(0, -1, 0)", x.on(0, -1, 0), Due.BEYOND);
        due.is("15: on(0, 81, 0)", x.on(0, 81, 0), Due.BEYOND);
        due.is("15: on(0, 0, -1)", x.on(0, 0, -1), Due.BEYOND);
        due.is("15: on(0, 0, 2)", x.on(0, 0, 2), Due.BEYOND);
        due.is("15: on(-1, 0, 0)", x.on(-1, 0, 0), Due.BEYOND);
        due.is("15: on(2, 0, 0)", x.on(2, 0, 0), Due.BEYOND);
        due.same("15: nothing changes", Due.seen(x), before);
    }

    private static void gets() {
        PocketBorders x = new PocketBorders();
        Due.one(x, 0, 6, 0);
        Due.one(x, 0, 70, 0);
        String before = Due.seen(x);
        due.is("16: gets(0, 8)", x.gets(0, 8), 2);
        due.is("16: gets(0, 3), found and taken in 1", x.gets(0, 3), 17);
        due.is("16: gets(1, 3)", x.gets(1, 3), Due.NONE);
        due.is("16: gets(0, -1)", x.gets(0, -1), Due.BEYOND);
        due.is("16: gets(0, 16)", x.gets(0, 16), Due.BEYOND);
        due.is("16: gets(-1, 0)", x.gets(-1, 0), Due.BEYOND);
        due.is("16: gets(2, 0)", x.gets(2, 0), Due.BEYOND);
        due.same("16: nothing changes", Due.seen(x), before);
        x.give(1, 3);
        due.is("16: gets(1, 3), there", x.gets(1, 3), 0);
        x.set(0, 3, 1);
        x.set(1, 2, 0);
        due.is("16: gets(1, 3), of 0", x.gets(1, 3), 1);

        PocketBorders y = new PocketBorders();
        Due.one(y, 0, 0, 0);
        Due.one(y, 5, 70, 0);
        y.set(0, 3, 1);
        y.worth(14, 99);
        due.is("16: gets(1, 14)", y.gets(1, 14), 7);
    }

    private static void loses() {
        PocketBorders x = new PocketBorders();
        Due.one(x, 0, 0, Due.set(15, 2));
        Due.one(x, 0, 70, Due.set(3));
        String before = Due.seen(x);
        due.is("17: loses(0, 15)", x.loses(0, 15), 7);
        due.is("17: loses(0, 4)", x.loses(0, 4), 0);
        due.is("17: loses(1, 3)", x.loses(1, 3), Due.NONE);
        due.is("17: loses(0, -1)", x.loses(0, -1), Due.BEYOND);
        due.is("17: loses(0, 16)", x.loses(0, 16), Due.BEYOND);
        due.is("17: loses(-1, 0)", x.loses(-1, 0), Due.BEYOND);
        due.is("17: loses(2, 0)", x.loses(2, 0), Due.BEYOND);
        due.same("17: nothing changes", Due.seen(x), before);
        x.set(0, 3, 0);
        due.is("17: loses(0, 15), given back", x.loses(0, 15), Due.NONE);

        PocketBorders y = new PocketBorders();
        Due.one(y, 5, 0, Due.set(3, 5));
        due.is("17: loses(0, 5), an uncle's at 49", y.loses(0, 5), 49);
        due.is("17: loses(0, 3), an uncle's at 56", y.loses(0, 3), 56);
    }

    private static void burns() {
        PocketBorders x = new PocketBorders();
        due.is("18: burns(3), nobody", x.burns(3), Due.NONE);
        Due.one(x, 0, 6, 0);
        String before = Due.seen(x);
        due.is("18: burns(3)", x.burns(3), 1);
        due.is("18: burns(13), best of seven years", x.burns(13), 8);
        due.is("18: burns(-1)", x.burns(-1), Due.BEYOND);
        due.is("18: burns(16)", x.burns(16), Due.BEYOND);
        due.same("18: nothing changes", Due.seen(x), before);
        x.set(0, 3, 0);
        due.is("18: burns(3), its own cousin", x.burns(3), Due.NONE);
        Due.family(x, "burned 3");
        due.is("18: burns(3), burned now", x.burns(3), 0);
    }

    private static void oneByOne() {
        PocketBorders x = Crowd.of(8);
        PocketBorders y = Crowd.of(8);
        int lost = 0;
        for (int i = 0; i < 80; i++) {
            lost = x.years(1);
        }
        due.is("13: years(80) and 80 times years(1)", y.years(80), lost);
        due.same("13: all as by years(1)", Due.seen(y), Due.seen(x));
        due.is("14: now(0)", y.now(0), 83);
    }

    private static void toTheLastYear() {
        PocketBorders x = new PocketBorders();
        for (int i = 0; i < 124; i++) {
            x.years(80);
        }
        due.is("13: years(79) in 9920", x.years(79), 0);
        due.is("14: now(0)", x.now(0), 9999);
        due.is("13: years(1) in 9999", x.years(1), Due.STATE);
        due.is("13: years(80) in 9999", x.years(80), Due.STATE);
        x.person(0);
        due.is("15: on(0, 80, 1) in 9999, all go ON", x.on(0, 80, 1), 10);
        due.is("16: gets(0, 5) in 9999", x.gets(0, 5), 1);
        due.is("23: richest(80) in 9999", x.richest(80), 0);
        due.is("22: best(0, 80) in 9999", x.best(0, 80) >= 0 ? 1 : 0, 1);
        due.is("14: now(0) still", x.now(0), 9999);
        due.is("13: status(4)", x.status(4), 2);

        PocketBorders y = new PocketBorders();
        for (int i = 0; i < 124; i++) {
            y.years(80);
        }
        y.years(78);
        due.is("13: years(2) in 9998", y.years(2), Due.STATE);
        due.is("14: now(0) in 9998", y.now(0), 9998);
        due.is("13: years(1) in 9998", y.years(1), 0);
        due.is("14: now(0) in the last", y.now(0), 9999);
    }

    private static void allOfThem() {
        PocketBorders x = new PocketBorders();
        for (int p = 0; p < 8; p++) {
            Due.one(x, p % 6, 70, 65535);
            x.set(p, 4, 999);
            due.is("14: now(2), all of " + p, x.now(2), (2 << p) - 1);
        }
        for (int thing = 0; thing < 16; thing++) {
            x.worth(thing, 99);
        }
        due.is("14: now(3), all of 99", x.now(3), 8 * 1584);
        due.is("14: now(4), all", x.now(4), 65535);
        due.is("14: now(5), 999 of each", x.now(5), 7992);
        due.is("13: years(1), held", x.years(1), 7992);
        for (int p = 0; p < 8; p++) {
            x.set(p, 1, 69);
            due.is("14: now(2), " + p + " is of 69", x.now(2), 254 << p & 255);
        }
        due.is("13: years(1), all at once, held", x.years(1), 7992);
        due.is("14: now(2), all again", x.now(2), 255);
        for (int p = 0; p < 8; p++) {
            x.set(p, 2, 0);
        }
        due.is("14: now(3), none", x.now(3), 0);
        due.is("14: now(4), none", x.now(4), 0);
        x.give(7, 15);
        due.is("14: now(4), 15 of the last one", x.now(4), 32768);
        due.is("14: now(3), 15 of the last one", x.now(3), 99);
    }

    private static void onAsYearsGo() {
        for (int n : new int[] {0, 1, 6, 7, 14, 42, 49, 70, 79, 80}) {
            PocketBorders x = Crowd.of(8);
            PocketBorders y = Crowd.of(8);
            if (n > 0) {
                y.years(n);
            }
            for (int p = 0; p < 8; p++) {
                due.is("15: on(" + p + ", " + n + ", 0)", x.on(p, n, 0), y.of(p, 2));
                due.is("15: on(" + p + ", " + n + ", 1)", x.on(p, n, 1), y.of(p, 4));
            }
            due.same("15: nothing changes", Crowd.whole(x), Crowd.whole(Crowd.of(8)));
        }
        PocketBorders z = new PocketBorders();
        Due.one(z, 0, 6, Due.set(9));
        z.set(0, 4, 999);
        due.is("15: on(0, 1, 1), held", z.on(0, 1, 1), 999);
        z.set(0, 4, 998);
        due.is("15: on(0, 1, 1), to 999", z.on(0, 1, 1), 999);
        due.is("15: on(0, 80, 1), held to 999", z.on(0, 80, 1), 999);
    }

    /** An uncle's four things go at 49, 56, 63 and 70: the least of them last. */
    private static void theLastBorder() {
        PocketBorders x = new PocketBorders();
        Due.one(x, 5, 0, Due.set(1, 2, 3, 4, 5));
        Due.one(x, 0, 70, 0);
        int[] goes = {0, 80, 49, 56, 63, 70};
        for (int thing = 2; thing <= 5; thing++) {
            due.is("17: loses(0, " + thing + ")", x.loses(0, thing), goes[thing]);
            due.is("18: burns(" + thing + ")", x.burns(thing), goes[thing]);
        }
        due.is("17: loses(0, 1), never", x.loses(0, 1), Due.NONE);
        due.is("17: loses(0, 0), now", x.loses(0, 0), 0);
        due.is("18: burns(1), never", x.burns(1), Due.NONE);
        due.is("16: gets(1, 5), never", x.gets(1, 5), Due.NONE);
        x.set(0, 3, 1);
        due.is("18: burns(5), given to 1", x.burns(5), Due.NONE);
        for (int thing = 2; thing <= 5; thing++) {
            due.is("16: gets(1, " + thing + ")", x.gets(1, thing), goes[thing]);
        }
        due.is("16: gets(1, 1), never", x.gets(1, 1), Due.NONE);
        due.is("16: gets(0, 1), now", x.gets(0, 1), 0);
        x.set(0, 1, 69);
        due.is("16: gets(1, 2), at once", x.gets(1, 2), 1);
        due.is("17: loses(0, 2), at once", x.loses(0, 2), 1);
        x.set(0, 3, -1);
        due.is("18: burns(2), at once", x.burns(2), 1);
        x.years(1);
        due.is("18: burns(2), burned now", x.burns(2), 0);
        due.is("18: burns(3), not behind 70", x.burns(3), Due.NONE);
    }

    private static void foundAndBackAgain() {
        // At 7 the person finds 3 and loses 9, at 21 it finds 9 again: what comes first counts.
        PocketBorders x = new PocketBorders();
        Due.one(x, 0, 6, Due.set(9));
        due.is("16: gets(0, 9), though it will go", x.gets(0, 9), 0);
        due.is("17: loses(0, 9), though it comes again", x.loses(0, 9), 1);
        due.is("15: on(0, 1, 0)", x.on(0, 1, 0), Due.set(3));
        due.is("15: on(0, 15, 0) has 9", x.on(0, 15, 0) & Due.set(9), Due.set(9));
        due.is("18: burns(9)", x.burns(9), 1);
        x.years(1);
        due.is("16: gets(0, 9), again", x.gets(0, 9), 14);
        due.is("17: loses(0, 9), gone", x.loses(0, 9), 0);
        due.is("18: burns(9), burned", x.burns(9), 0);
    }
}
