/** Promises 28 to 33: sheets. */
public final class SheetsTest {
    private static final Due due = new Due();

    public static void main(String[] args) {
        sheet();
        write();
        bits();
        copy();
        copyFindings();
        lays();
        book();
        read();
        howManyNumbers();
        allZeroAnew();
        eachSheetByItself();
        lowestBits();
        copyEdges();
        copyOverItself();
        copyOfEachKind();
        laysEdges();
        bookEdges();
        readEdges();
        due.end();
    }

    private static void sheet() {
        PocketBorders x = new PocketBorders();
        due.is("28: sheet(0, 8, 40)", x.sheet(0, 8, 40), 40);
        due.is("28: sheet(3, 64, 0)", x.sheet(3, 64, 0), 0);
        due.is("28: lays(3)", x.lays(3), 0);
        due.is("28: sheet(1, 16, 2)", x.sheet(1, 16, 2), 2);
        x.write(1, 1, 7);
        due.is("28: sheet(1, 16, 2) anew", x.sheet(1, 16, 2), 2);
        due.is("28: write(1, 1, 0), all 0", x.write(1, 1, 0), 0);
        x.write(1, 1, 7);
        x.sheet(1, 16, 1);
        x.sheet(1, 16, 2);
        due.is("28: write(1, 1, 0), all 0 again", x.write(1, 1, 0), 0);
        due.is("28: sheet(-1, 8, 1)", x.sheet(-1, 8, 1), Due.BEYOND);
        due.is("28: sheet(4, 8, 1)", x.sheet(4, 8, 1), Due.BEYOND);
        due.is("28: sheet(4, 8, -1)", x.sheet(4, 8, -1), Due.BEYOND);
        due.is("28: sheet(1, 32, 1)", x.sheet(1, 32, 1), Due.BEYOND);
        due.is("28: sheet(1, 7, -1)", x.sheet(1, 7, -1), Due.BEYOND);
        due.is("28: sheet(1, -8, 1)", x.sheet(1, -8, 1), Due.BEYOND);
        due.is("28: sheet(1, 8, -1)", x.sheet(1, 8, -1), Due.SIZE);
        due.is("28: sheet(1, 8, least)", x.sheet(1, 8, Integer.MIN_VALUE), Due.SIZE);
        due.is("28: sheet(1, 8, 41)", x.sheet(1, 8, 41), Due.BEYOND);
        due.is("28: sheet(1, 0, -1)", x.sheet(1, 0, -1), Due.SIZE);
        due.is("28: sheet(1, 0, 41)", x.sheet(1, 0, 41), Due.BEYOND);
        due.is("28: lays(1), there still", x.lays(1), 2);
        due.is("28: sheet(1, 0, 40)", x.sheet(1, 0, 40), 0);
        due.is("28: lays(1)", x.lays(1), Due.MISSING);
        due.is("28: sheet(1, 0, 0)", x.sheet(1, 0, 0), 0);
        due.is("28: write(0, 39, 1), another one", x.write(0, 39, 1), 0);
    }

    private static void write() {
        PocketBorders x = new PocketBorders();
        due.is("29: write(0, 0, 1), missing", x.write(0, 0, 1), Due.MISSING);
        due.is("29: write(0, 50, 1), missing", x.write(0, 50, 1), Due.MISSING);
        x.sheet(0, 64, 3);
        due.is("29: write(0, 0, 5)", x.write(0, 0, 5), 0);
        due.is("29: write(0, 0, 6)", x.write(0, 0, 6), 5);
        due.is("29: write(0, 2, 7)", x.write(0, 2, 7), 0);
        due.is("29: write(0, 1, 8)", x.write(0, 1, 8), 0);
        due.is("29: write(0, 2, 9)", x.write(0, 2, 9), 7);
        due.is("29: write(0, 3, 1)", x.write(0, 3, 1), Due.BEYOND);
        due.is("29: write(0, -1, 1)", x.write(0, -1, 1), Due.BEYOND);
        due.is("29: write(-1, 0, 1)", x.write(-1, 0, 1), Due.BEYOND);
        due.is("29: write(4, 0, 1)", x.write(4, 0, 1), Due.BEYOND);
        due.is("29: status(0)", x.status(0), 4);
        due.is("29: status(5)", x.status(5), 2);
        x.write(0, 0, Due.BEYOND);
        due.is("29: write(0, 0, 0), a number like a finding", x.write(0, 0, 0), Due.BEYOND);
        due.is("29: status(0), it is none", x.status(0), 4);
        x.sheet(1, 8, 0);
        due.is("29: write(1, 0, 1), no numbers", x.write(1, 0, 1), Due.BEYOND);
    }

    private static void bits() {
        long[] given = {127, 128, 255, 256, -1, -128, -129, 32767, 32768, 65535, 65536, 0x123456789abcdefL,
            Long.MIN_VALUE};
        PocketBorders x = new PocketBorders();
        x.sheet(0, 8, 1);
        x.sheet(1, 16, 1);
        x.sheet(2, 64, 1);
        for (long v : given) {
            x.write(0, 0, v);
            x.write(1, 0, v);
            x.write(2, 0, v);
            due.is("29: the 8 lowest bits of " + v, x.write(0, 0, 0), (byte) v);
            due.is("29: the 16 lowest bits of " + v, x.write(1, 0, 0), (short) v);
            due.is("29: the 64 lowest bits of " + v, x.write(2, 0, 0), v);
        }
    }

    private static void row(PocketBorders x, int s, int... numbers) {
        for (int i = 0; i < numbers.length; i++) {
            long was = x.write(s, i, numbers[i]);
            due.is("30: number " + i + " of sheet " + s, was, numbers[i]);
        }
    }

    private static PocketBorders rows() {
        PocketBorders x = new PocketBorders();
        x.sheet(0, 16, 5);
        x.sheet(1, 16, 3);
        for (int i = 0; i < 5; i++) {
            x.write(0, i, 10 + i);
        }
        for (int i = 0; i < 3; i++) {
            x.write(1, i, 20 + i);
        }
        return x;
    }

    private static void copy() {
        PocketBorders x = rows();
        due.is("30: copy(0, 3, 1, 1, 2)", x.copy(0, 3, 1, 1, 2), 2);
        row(x, 1, 20, 13, 14);
        row(x, 0, 10, 11, 12, 13, 14);
        due.is("30: copy(0, 0, 0, 1, 4), to the right", x.copy(0, 0, 0, 1, 4), 4);
        row(x, 0, 10, 10, 11, 12, 13);
        due.is("30: copy(0, 1, 0, 0, 4), to the left", x.copy(0, 1, 0, 0, 4), 4);
        row(x, 0, 10, 11, 12, 13, 13);
        due.is("30: copy(0, 5, 1, 3, 0), none", x.copy(0, 5, 1, 3, 0), 0);
        due.is("30: copy(0, 0, 0, 0, 5), itself", x.copy(0, 0, 0, 0, 5), 5);
        row(x, 0, 10, 11, 12, 13, 13);
        due.is("30: copy(1, 0, 0, 2, 3)", x.copy(1, 0, 0, 2, 3), 3);
        row(x, 0, 10, 11, 20, 13, 14);
    }

    private static void copyFindings() {
        PocketBorders x = rows();
        x.sheet(2, 8, 5);
        due.is("30: copy(4, 0, 3, 0, 1)", x.copy(4, 0, 3, 0, 1), Due.BEYOND);
        due.is("30: copy(3, 0, -1, 0, 1)", x.copy(3, 0, -1, 0, 1), Due.BEYOND);
        due.is("30: copy(3, 0, 2, 0, 1)", x.copy(3, 0, 2, 0, 1), Due.MISSING);
        due.is("30: copy(2, 0, 3, -1, 1)", x.copy(2, 0, 3, -1, 1), Due.MISSING);
        due.is("30: copy(0, 0, 2, 0, 1)", x.copy(0, 0, 2, 0, 1), Due.KIND);
        due.is("30: copy(0, 0, 2, 0, 9)", x.copy(0, 0, 2, 0, 9), Due.KIND);
        due.is("30: copy(0, -1, 2, 0, 0)", x.copy(0, -1, 2, 0, 0), Due.KIND);
        due.is("30: copy(0, 4, 1, 0, 2)", x.copy(0, 4, 1, 0, 2), Due.BEYOND);
        due.is("30: copy(0, 0, 1, 2, 2)", x.copy(0, 0, 1, 2, 2), Due.BEYOND);
        due.is("30: copy(0, -1, 1, 0, 1)", x.copy(0, -1, 1, 0, 1), Due.BEYOND);
        due.is("30: copy(0, 0, 1, -1, 1)", x.copy(0, 0, 1, -1, 1), Due.BEYOND);
        due.is("30: copy(0, 0, 1, 0, -1)", x.copy(0, 0, 1, 0, -1), Due.BEYOND);
        due.is("30: copy(0, 6, 1, 0, 0)", x.copy(0, 6, 1, 0, 0), Due.BEYOND);
        int most = Integer.MAX_VALUE;
        int least = Integer.MIN_VALUE;
        due.is("30: copy(0, most, 1, 0, most)", x.copy(0, most, 1, 0, most), Due.BEYOND);
        due.is("30: copy(0, 1, 1, 1, most)", x.copy(0, 1, 1, 1, most), Due.BEYOND);
        due.is("30: copy(0, most, 1, most, 1)", x.copy(0, most, 1, most, 1), Due.BEYOND);
        due.is("30: copy(0, least, 1, 0, least)", x.copy(0, least, 1, 0, least), Due.BEYOND);
        row(x, 0, 10, 11, 12, 13, 14);
        row(x, 1, 20, 21, 22);
        // The room that a sheet once had is not there any more.
        x.sheet(0, 16, 1);
        due.is("30: copy(0, 0, 1, 0, 2)", x.copy(0, 0, 1, 0, 2), Due.BEYOND);
    }

    private static void lays() {
        PocketBorders x = new PocketBorders();
        due.is("31: lays(-1)", x.lays(-1), Due.BEYOND);
        due.is("31: lays(4)", x.lays(4), Due.BEYOND);
        due.is("31: lays(0)", x.lays(0), Due.MISSING);
        x.sheet(0, 64, 5);
        x.write(0, 0, 99);
        x.write(0, 1, 100);
        x.write(0, 2, -1);
        x.write(0, 3, 1L << 32);
        due.is("31: lays(0), two came", x.lays(0), 2);
        int[] worths = {99, 1, 2, 3, 0, 5};
        for (int thing = 0; thing < 6; thing++) {
            due.is("31: worthOf(" + thing + ")", x.worthOf(thing), worths[thing]);
        }
        x.sheet(1, 8, 40);
        for (int i = 0; i < 40; i++) {
            x.write(1, i, 40 + i);
        }
        due.is("31: lays(1), the others stand for none", x.lays(1), 16);
        due.is("31: worthOf(0) then", x.worthOf(0), 40);
        due.is("31: worthOf(15) then", x.worthOf(15), 55);
    }

    private static void book() {
        PocketBorders x = new PocketBorders();
        Due.one(x, 0, 5, 0);
        due.is("32: book(-1, 0)", x.book(-1, 0), Due.BEYOND);
        due.is("32: book(4, 9)", x.book(4, 9), Due.BEYOND);
        due.is("32: book(0, 9)", x.book(0, 9), Due.MISSING);
        x.sheet(0, 8, 10);
        x.write(0, 0, 77);
        due.is("32: book(0, -1)", x.book(0, -1), Due.BEYOND);
        due.is("32: book(0, 1)", x.book(0, 1), Due.BEYOND);
        String before = Due.seen(x);
        due.is("32: write(0, 0, 78)", x.write(0, 0, 78), 77);
        due.is("32: book(0, 0)", x.book(0, 0), 10);
        int[] sizes = {0, 1, 1, 2, 3, 4, 5, 6, 7, 7};
        for (int i = 0; i < 10; i++) {
            due.is("32: number " + i, x.write(0, i, 0), sizes[i]);
        }
        due.same("32: nothing changes", Due.seen(x), before);
        x.sheet(1, 64, 40);
        due.is("32: book(1, 0)", x.book(1, 0), 40);
        due.is("32: number 39", x.write(1, 39, 0), Integer.bitCount(x.on(0, 39, 0)));
        x.sheet(2, 16, 0);
        due.is("32: book(2, 0)", x.book(2, 0), 0);
    }

    private static void read() {
        PocketBorders x = new PocketBorders();
        Due.one(x, 3, 69, Due.set(15));
        due.is("33: read(-1, 0)", x.read(-1, 0), Due.BEYOND);
        due.is("33: read(4, 9)", x.read(4, 9), Due.BEYOND);
        due.is("33: read(0, 9)", x.read(0, 9), Due.MISSING);
        x.sheet(0, 8, 1);
        due.is("33: read(0, -1)", x.read(0, -1), Due.BEYOND);
        due.is("33: read(0, 1)", x.read(0, 1), Due.BEYOND);
        due.is("33: read(0, 0), not of 1 thing", x.read(0, 0), 0);
        x.write(0, 0, 1);
        String before = Due.seen(x);
        due.is("33: read(0, 0), all pairs", x.read(0, 0), 426);
        x.sheet(1, 16, 0);
        due.is("33: read(1, 0), an empty one", x.read(1, 0), 426);
        x.sheet(2, 64, 2);
        x.write(2, 0, 1);
        x.write(2, 1, 0);
        // With 15 alone: serious ones at odd borders (7, 21, 35, 49, 63), and uncles from 49 on (49, 56, 63, 70);
        // others lose it when what they find is 15 itself: person 5a by 16 is 15 at 35 = 3 and 2 times 16;
        // hiders and swallowers keep what they have; an aunt finds 15 where 5a is 14: at 70 = 6 and 4 times 16.
        due.is("33: read(2, 0), 1 and then 0", x.read(2, 0), 5 + 4 + 1 + 1);
        due.same("33: nothing changes", Due.seen(x), before);
        x.write(2, 0, (1L << 32) + 1);
        due.is("33: read(2, 0), a number far above", x.read(2, 0), 0);
    }

    private static final int[] BITS = {8, 16, 64};

    private static void howManyNumbers() {
        for (int s = 0; s < 4; s++) {
            for (int bits : BITS) {
                for (int n : new int[] {0, 1, 2, 39, 40}) {
                    PocketBorders x = new PocketBorders();
                    String told = "(" + s + ", " + bits + ", " + n + ")";
                    due.is("28: sheet" + told, x.sheet(s, bits, n), n);
                    for (int i = 0; i < n; i++) {
                        due.is("29: number " + i + " of sheet" + told, x.write(s, i, 1 + i), 0);
                    }
                    for (int i = 0; i < n; i++) {
                        due.is("29: number " + i + " then", x.write(s, i, 0), 1 + i);
                    }
                    due.is("29: behind the last of sheet" + told, x.write(s, n, 1), Due.BEYOND);
                    due.is("29: ahead of the first of sheet" + told, x.write(s, -1, 1), Due.BEYOND);
                    due.is("28: sheet(.., 0, " + n + ")", x.sheet(s, 0, n), 0);
                    due.is("29: write, missing", x.write(s, 0, 1), Due.MISSING);
                }
            }
        }
    }

    private static void allZeroAnew() {
        for (int bits : BITS) {
            for (int again : new int[] {0, 8, 16, 64}) {
                PocketBorders x = new PocketBorders();
                x.sheet(1, bits, 40);
                for (int i = 0; i < 40; i++) {
                    x.write(1, i, 100 - i);
                }
                due.is("28: sheet(1, " + again + ", 5)", x.sheet(1, again, 5), again == 0 ? 0 : 5);
                due.is("28: sheet(1, " + bits + ", 40)", x.sheet(1, bits, 40), 40);
                for (int i = 0; i < 40; i++) {
                    due.is("28: number " + i + ", all 0", x.write(1, i, 0), 0);
                }
            }
        }
    }

    private static void eachSheetByItself() {
        PocketBorders x = new PocketBorders();
        for (int s = 0; s < 4; s++) {
            due.is("28: sheet(" + s + ", 8, 40)", x.sheet(s, 8, 40), 40);
            x.write(s, 0, 50 + s);
            x.write(s, 39, 60 + s);
            for (int t = s + 1; t < 4; t++) {
                due.is("28: lays(" + t + "), missing", x.lays(t), Due.MISSING);
            }
        }
        x.sheet(2, 0, 0);
        x.sheet(1, 64, 1);
        due.is("28: number 0 of 0", x.write(0, 0, 0), 50);
        due.is("28: number 39 of 0", x.write(0, 39, 0), 60);
        due.is("28: number 0 of 3", x.write(3, 0, 0), 53);
        due.is("28: number 39 of 3", x.write(3, 39, 0), 63);
        due.is("28: number 0 of 1", x.write(1, 0, 0), 0);
        due.is("28: number 1 of 1", x.write(1, 1, 0), Due.BEYOND);
        due.is("28: number 0 of 2", x.write(2, 0, 0), Due.MISSING);
    }

    private static void lowestBits() {
        long[][] of8 = {{127, 127}, {128, -128}, {255, -1}, {256, 0}, {257, 1}, {-128, -128}, {-129, 127}, {-256, 0},
            {Long.MAX_VALUE, -1}, {Long.MIN_VALUE, 0}};
        long[][] of16 = {{128, 128}, {32767, 32767}, {32768, -32768}, {65535, -1}, {65536, 0}, {65537, 1},
            {-32768, -32768}, {-32769, 32767}, {Long.MAX_VALUE, -1}, {Long.MIN_VALUE, 0}};
        long[][] of64 = {{32768, 32768}, {1L << 32, 1L << 32}, {Long.MAX_VALUE, Long.MAX_VALUE},
            {Long.MIN_VALUE, Long.MIN_VALUE}, {-1, -1}};
        long[][][] all = {of8, of16, of64};
        for (int k = 0; k < 3; k++) {
            for (long[] row : all[k]) {
                PocketBorders x = new PocketBorders();
                x.sheet(0, BITS[k], 3);
                due.is("29: what it was ahead of " + row[0], x.write(0, 1, row[0]), 0);
                due.is("29: number 0 beside it", x.write(0, 0, 0), 0);
                due.is("29: number 2 beside it", x.write(0, 2, 0), 0);
                due.is("29: " + row[0] + " in " + BITS[k] + " bits", x.write(0, 1, 0), row[1]);
            }
        }
    }

    private static PocketBorders counted(int bits, int n, int m) {
        PocketBorders x = new PocketBorders();
        x.sheet(0, bits, n);
        x.sheet(1, bits, m);
        for (int i = 0; i < n; i++) {
            x.write(0, i, 1 + i);
        }
        for (int i = 0; i < m; i++) {
            x.write(1, i, 51 + i);
        }
        return x;
    }

    /** Of 5 numbers and 3: all froms, tos and ns near the edges. */
    private static void copyEdges() {
        for (int from = -1; from <= 6; from++) {
            for (int to = -1; to <= 4; to++) {
                for (int n = -1; n <= 6; n++) {
                    PocketBorders x = counted(16, 5, 3);
                    boolean may = from >= 0 && to >= 0 && n >= 0 && from + n <= 5 && to + n <= 3;
                    String told = "30: copy(0, " + from + ", 1, " + to + ", " + n + ")";
                    due.is(told, x.copy(0, from, 1, to, n), may ? n : Due.BEYOND);
                    for (int i = 0; i < 5; i++) {
                        due.is(told + ": number " + i + " of 0", x.write(0, i, 0), 1 + i);
                    }
                    for (int i = 0; i < 3; i++) {
                        boolean came = may && i >= to && i < to + n;
                        due.is(told + ": number " + i + " of 1", x.write(1, i, 0), came ? 1 + from + i - to : 51 + i);
                    }
                }
            }
        }
    }

    private static void copyOverItself() {
        for (int bits : BITS) {
            for (int[] a : new int[][] {{0, 0, 40}, {0, 1, 39}, {1, 0, 39}, {0, 39, 1}, {39, 0, 1}, {0, 20, 20},
                {5, 7, 30}, {7, 5, 30}, {40, 0, 0}, {0, 40, 0}, {40, 40, 0}}) {
                PocketBorders x = counted(bits, 40, 0);
                String told = "30: copy(0, " + a[0] + ", 0, " + a[1] + ", " + a[2] + ")";
                due.is(told, x.copy(0, a[0], 0, a[1], a[2]), a[2]);
                for (int i = 0; i < 40; i++) {
                    boolean came = i >= a[1] && i < a[1] + a[2];
                    due.is(told + ": number " + i, x.write(0, i, 0), came ? 1 + a[0] + i - a[1] : 1 + i);
                }
            }
        }
    }

    private static void copyOfEachKind() {
        long[] least = {-128, -32768, Long.MIN_VALUE};
        for (int k = 0; k < 3; k++) {
            for (int l = 0; l < 3; l++) {
                PocketBorders x = new PocketBorders();
                x.sheet(2, BITS[k], 40);
                x.sheet(3, BITS[l], 40);
                x.write(2, 0, least[k]);
                x.write(2, 39, -1 - least[k]);
                int due40 = k == l ? 40 : Due.KIND;
                due.is("30: copy of " + BITS[k] + " to " + BITS[l] + " bits", x.copy(2, 0, 3, 0, 40), due40);
                due.is("30: number 0", x.write(3, 0, 0), k == l ? least[k] : 0);
                due.is("30: number 39", x.write(3, 39, 0), k == l ? -1 - least[k] : 0);
                int none = k == l ? 0 : Due.KIND;
                due.is("30: none of " + BITS[k] + " to " + BITS[l] + " bits", x.copy(2, 0, 3, 0, 0), none);
            }
        }
        PocketBorders x = new PocketBorders();
        x.sheet(0, 8, 0);
        x.sheet(1, 8, 0);
        due.is("30: copy(0, 0, 1, 0, 0), both empty", x.copy(0, 0, 1, 0, 0), 0);
        due.is("30: copy(0, 0, 1, 0, 1), both empty", x.copy(0, 0, 1, 0, 1), Due.BEYOND);
        due.is("30: copy(0, 1, 1, 0, 0), both empty", x.copy(0, 1, 1, 0, 0), Due.BEYOND);
        due.is("30: copy(0, 0, 1, 1, 0), both empty", x.copy(0, 0, 1, 1, 0), Due.BEYOND);
    }

    private static void laysEdges() {
        for (int bits : BITS) {
            for (int n : new int[] {0, 1, 15, 16, 17, 40}) {
                PocketBorders x = new PocketBorders();
                x.sheet(0, bits, n);
                for (int i = 0; i < n; i++) {
                    x.write(0, i, 99 - i);
                }
                due.is("31: lays of " + n, x.lays(0), Math.min(n, 16));
                for (int thing = 0; thing < 16; thing++) {
                    due.is("31: worthOf(" + thing + ")", x.worthOf(thing), thing < n ? 99 - thing : thing);
                }
                due.is("31: the sheet stays", n == 0 ? 99 : x.write(0, 0, 0), 99);
            }
            long[] row = {-1, 0, 99, 100, 127, -128, 1};
            int[] worths = {0, 0, 99, 3, 4, 5, 1, 7};
            PocketBorders x = new PocketBorders();
            x.sheet(0, bits, 7);
            for (int i = 0; i < 7; i++) {
                x.write(0, i, row[i]);
            }
            due.is("31: lays, three of seven", x.lays(0), 3);
            for (int thing = 0; thing < 8; thing++) {
                due.is("31: worthOf(" + thing + "), of seven", x.worthOf(thing), worths[thing]);
            }
        }
        PocketBorders x = new PocketBorders();
        x.sheet(0, 64, 4);
        x.write(0, 0, Long.MIN_VALUE);
        x.write(0, 1, Long.MAX_VALUE);
        x.write(0, 2, (1L << 32) + 5);
        x.write(0, 3, (1L << 63) + 5);
        due.is("31: lays, none of four", x.lays(0), 0);
        for (int thing = 0; thing < 4; thing++) {
            due.is("31: worthOf(" + thing + "), as it was", x.worthOf(thing), thing);
        }
    }

    private static void bookEdges() {
        for (int bits : BITS) {
            for (int n : new int[] {0, 1, 39, 40}) {
                PocketBorders x = Crowd.of(8);
                x.sheet(3, bits, n);
                due.is("32: book(3, 7) of " + n, x.book(3, 7), n);
                due.is("32: book(3, 0) of " + n, x.book(3, 0), n);
                for (int i = 0; i < n; i++) {
                    due.is("32: number " + i, x.write(3, i, 0), Integer.bitCount(x.on(0, i, 0)));
                }
                x.sheet(3, 0, 0);
                due.same("32: nothing else changes", Crowd.whole(x), Crowd.whole(Crowd.of(8)));
            }
        }
        PocketBorders x = new PocketBorders();
        Due.one(x, 0, 70, 65535);
        Due.one(x, 0, 70, 0);
        x.sheet(0, 8, 2);
        x.book(0, 0);
        due.is("32: number 0, all things", x.write(0, 0, 5), 16);
        due.is("32: number 1, all things", x.write(0, 1, 5), 16);
        x.book(0, 1);
        due.is("32: number 0, nothing", x.write(0, 0, 5), 0);
        due.is("32: number 1, nothing", x.write(0, 1, 5), 0);
    }

    private static void readEdges() {
        PocketBorders x = new PocketBorders();
        Due.one(x, 0, 30, Due.set(15));
        x.sheet(0, 16, 40);
        for (int i = 0; i < 40; i++) {
            x.write(0, i, 1);
        }
        // With 15, one thing for 39 years: all six of 70; uncles of 0 to 9; at 69 a person (finds 14, loses 15), a
        // hider and a serious one (find 14, lose it); at 68 a serious one (finds nothing, then 14 that goes).
        due.is("33: read(0, 0), 40 times 1", x.read(0, 0), 6 + 10 + 3 + 1);
        x.write(0, 39, 0);
        // Uncles of 10 lose it at 49 just then.
        due.is("33: read(0, 0), 39 times 1 and 0", x.read(0, 0), 1);
        x.write(0, 39, 2);
        due.is("33: read(0, 0), 39 times 1 and 2", x.read(0, 0), 0);
        x.write(0, 39, -1);
        due.is("33: read(0, 0), 39 times 1 and -1", x.read(0, 0), 0);
        due.is("33: of(0, 0), still", x.of(0, 0), 0);
        due.is("33: of(0, 1), still", x.of(0, 1), 30);
        due.is("33: the sheet stays", x.write(0, 38, 7), 1);

        PocketBorders y = new PocketBorders();
        Due.one(y, 0, 0, 0);
        y.sheet(0, 8, 1);
        due.is("33: read(0, 0), nothing there", y.read(0, 0), 6 * 71);
        y.set(0, 2, 65535);
        due.is("33: read(0, 0), not 0", y.read(0, 0), 0);
        y.write(0, 0, 16);
        due.is("33: read(0, 0), all there", y.read(0, 0), 6 * 71);
        y.sheet(1, 8, 0);
        due.is("33: read(1, 0), no numbers", y.read(1, 0), 6 * 71);
        y.sheet(1, 8, 2);
        y.write(1, 0, 16);
        y.write(1, 1, 16);
        // One goes at 7, 14, .. 70, ten times; from uncles at 49, 56, 63 and 70.
        due.is("33: read(1, 0), two years of all", y.read(1, 0), 5 * 61 + 67);
        y.write(1, 1, 15);
        due.is("33: read(1, 0), one goes", y.read(1, 0), 5 * 10 + 4);
    }
}
