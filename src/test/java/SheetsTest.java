/** Promises 28 to 33: sheets. */
public final class SheetsTest {
    private static final Due due = new Due();

    public static void main(String[] args) {
        sheet();
        write();
        bits();
        copy();
        copyFindings();
        lays();
        book();
        read();
        due.end();
    }

    private static void sheet() {
        PocketBorders x = new PocketBorders();
        due.is("28: sheet(0, 8, 40)", x.sheet(0, 8, 40), 40);
        due.is("28: sheet(3, 64, 0)", x.sheet(3, 64, 0), 0);
        due.is("28: lays(3)", x.lays(3), 0);
        due.is("28: sheet(1, 16, 2)", x.sheet(1, 16, 2), 2);
        x.write(1, 1, 7);
        due.is("28: sheet(1, 16, 2) anew", x.sheet(1, 16, 2), 2);
        due.is("28: write(1, 1, 0), all 0", x.write(1, 1, 0), 0);
        x.write(1, 1, 7);
        x.sheet(1, 16, 1);
        x.sheet(1, 16, 2);
        due.is("28: write(1, 1, 0), all 0 again", x.write(1, 1, 0), 0);
        due.is("28: sheet(-1, 8, 1)", x.sheet(-1, 8, 1), Due.BEYOND);
        due.is("28: sheet(4, 8, 1)", x.sheet(4, 8, 1), Due.BEYOND);
        due.is("28: sheet(4, 8, -1)", x.sheet(4, 8, -1), Due.BEYOND);
        due.is("28: sheet(1, 32, 1)", x.sheet(1, 32, 1), Due.BEYOND);
        due.is("28: sheet(1, 7, -1)", x.sheet(1, 7, -1), Due.BEYOND);
        due.is("28: sheet(1, -8, 1)", x.sheet(1, -8, 1), Due.BEYOND);
        due.is("28: sheet(1, 8, -1)", x.sheet(1, 8, -1), Due.SIZE);
        due.is("28: sheet(1, 8, least)", x.sheet(1, 8, Integer.MIN_VALUE), Due.SIZE);
        due.is("28: sheet(1, 8, 41)", x.sheet(1, 8, 41), Due.BEYOND);
        due.is("28: sheet(1, 0, -1)", x.sheet(1, 0, -1), Due.SIZE);
        due.is("28: sheet(1, 0, 41)", x.sheet(1, 0, 41), Due.BEYOND);
        due.is("28: lays(1), there still", x.lays(1), 2);
        due.is("28: sheet(1, 0, 40)", x.sheet(1, 0, 40), 0);
        due.is("28: lays(1)", x.lays(1), Due.MISSING);
        due.is("28: sheet(1, 0, 0)", x.sheet(1, 0, 0), 0);
        due.is("28: write(0, 39, 1), another one", x.write(0, 39, 1), 0);
    }

    private static void write() {
        PocketBorders x = new PocketBorders();
        due.is("29: write(0, 0, 1), missing", x.write(0, 0, 1), Due.MISSING);
        due.is("29: write(0, 50, 1), missing", x.write(0, 50, 1), Due.MISSING);
        x.sheet(0, 64, 3);
        due.is("29: write(0, 0, 5)", x.write(0, 0, 5), 0);
        due.is("29: write(0, 0, 6)", x.write(0, 0, 6), 5);
        due.is("29: write(0, 2, 7)", x.write(0, 2, 7), 0);
        due.is("29: write(0, 1, 8)", x.write(0, 1, 8), 0);
        due.is("29: write(0, 2, 9)", x.write(0, 2, 9), 7);
        due.is("29: write(0, 3, 1)", x.write(0, 3, 1), Due.BEYOND);
        due.is("29: write(0, -1, 1)", x.write(0, -1, 1), Due.BEYOND);
        due.is("29: write(-1, 0, 1)", x.write(-1, 0, 1), Due.BEYOND);
        due.is("29: write(4, 0, 1)", x.write(4, 0, 1), Due.BEYOND);
        due.is("29: status(0)", x.status(0), 4);
        due.is("29: status(5)", x.status(5), 2);
        x.write(0, 0, Due.BEYOND);
        due.is("29: write(0, 0, 0), a number like a finding", x.write(0, 0, 0), Due.BEYOND);
        due.is("29: status(0), it is none", x.status(0), 4);
        x.sheet(1, 8, 0);
        due.is("29: write(1, 0, 1), no numbers", x.write(1, 0, 1), Due.BEYOND);
    }

    private static void bits() {
        long[] given = {127, 128, 255, 256, -1, -128, -129, 32767, 32768, 65535, 65536, 0x123456789abcdefL, Long.MIN_VALUE};
        PocketBorders x = new PocketBorders();
        x.sheet(0, 8, 1);
        x.sheet(1, 16, 1);
        x.sheet(2, 64, 1);
        for (long v : given) {
            x.write(0, 0, v);
            x.write(1, 0, v);
            x.write(2, 0, v);
            due.is("29: the 8 lowest bits of " + v, x.write(0, 0, 0), (byte) v);
            due.is("29: the 16 lowest bits of " + v, x.write(1, 0, 0), (short) v);
            due.is("29: the 64 lowest bits of " + v, x.write(2, 0, 0), v);
        }
    }

    private static void row(PocketBorders x, int s, int... numbers) {
        for (int i = 0; i < numbers.length; i++) {
            long was = x.write(s, i, numbers[i]);
            due.is("30: number " + i + " of sheet " + s, was, numbers[i]);
        }
    }

    private static PocketBorders rows() {
        PocketBorders x = new PocketBorders();
        x.sheet(0, 16, 5);
        x.sheet(1, 16, 3);
        for (int i = 0; i < 5; i++) {
            x.write(0, i, 10 + i);
        }
        for (int i = 0; i < 3; i++) {
            x.write(1, i, 20 + i);
        }
        return x;
    }

    private static void copy() {
        PocketBorders x = rows();
        due.is("30: copy(0, 3, 1, 1, 2)", x.copy(0, 3, 1, 1, 2), 2);
        row(x, 1, 20, 13, 14);
        row(x, 0, 10, 11, 12, 13, 14);
        due.is("30: copy(0, 0, 0, 1, 4), to the right", x.copy(0, 0, 0, 1, 4), 4);
        row(x, 0, 10, 10, 11, 12, 13);
        due.is("30: copy(0, 1, 0, 0, 4), to the left", x.copy(0, 1, 0, 0, 4), 4);
        row(x, 0, 10, 11, 12, 13, 13);
        due.is("30: copy(0, 5, 1, 3, 0), none", x.copy(0, 5, 1, 3, 0), 0);
        due.is("30: copy(0, 0, 0, 0, 5), itself", x.copy(0, 0, 0, 0, 5), 5);
        row(x, 0, 10, 11, 12, 13, 13);
        due.is("30: copy(1, 0, 0, 2, 3)", x.copy(1, 0, 0, 2, 3), 3);
        row(x, 0, 10, 11, 20, 13, 14);
    }

    private static void copyFindings() {
        PocketBorders x = rows();
        x.sheet(2, 8, 5);
        due.is("30: copy(4, 0, 3, 0, 1)", x.copy(4, 0, 3, 0, 1), Due.BEYOND);
        due.is("30: copy(3, 0, -1, 0, 1)", x.copy(3, 0, -1, 0, 1), Due.BEYOND);
        due.is("30: copy(3, 0, 2, 0, 1)", x.copy(3, 0, 2, 0, 1), Due.MISSING);
        due.is("30: copy(2, 0, 3, -1, 1)", x.copy(2, 0, 3, -1, 1), Due.MISSING);
        due.is("30: copy(0, 0, 2, 0, 1)", x.copy(0, 0, 2, 0, 1), Due.KIND);
        due.is("30: copy(0, 0, 2, 0, 9)", x.copy(0, 0, 2, 0, 9), Due.KIND);
        due.is("30: copy(0, -1, 2, 0, 0)", x.copy(0, -1, 2, 0, 0), Due.KIND);
        due.is("30: copy(0, 4, 1, 0, 2)", x.copy(0, 4, 1, 0, 2), Due.BEYOND);
        due.is("30: copy(0, 0, 1, 2, 2)", x.copy(0, 0, 1, 2, 2), Due.BEYOND);
        due.is("30: copy(0, -1, 1, 0, 1)", x.copy(0, -1, 1, 0, 1), Due.BEYOND);
        due.is("30: copy(0, 0, 1, -1, 1)", x.copy(0, 0, 1, -1, 1), Due.BEYOND);
        due.is("30: copy(0, 0, 1, 0, -1)", x.copy(0, 0, 1, 0, -1), Due.BEYOND);
        due.is("30: copy(0, 6, 1, 0, 0)", x.copy(0, 6, 1, 0, 0), Due.BEYOND);
        int most = Integer.MAX_VALUE;
        int least = Integer.MIN_VALUE;
        due.is("30: copy(0, most, 1, 0, most)", x.copy(0, most, 1, 0, most), Due.BEYOND);
        due.is("30: copy(0, 1, 1, 1, most)", x.copy(0, 1, 1, 1, most), Due.BEYOND);
        due.is("30: copy(0, most, 1, most, 1)", x.copy(0, most, 1, most, 1), Due.BEYOND);
        due.is("30: copy(0, least, 1, 0, least)", x.copy(0, least, 1, 0, least), Due.BEYOND);
        row(x, 0, 10, 11, 12, 13, 14);
        row(x, 1, 20, 21, 22);
        // The room that a sheet once had is not there any more.
        x.sheet(0, 16, 1);
        due.is("30: copy(0, 0, 1, 0, 2)", x.copy(0, 0, 1, 0, 2), Due.BEYOND);
    }

    private static void lays() {
        PocketBorders x = new PocketBorders();
        due.is("31: lays(-1)", x.lays(-1), Due.BEYOND);
        due.is("31: lays(4)", x.lays(4), Due.BEYOND);
        due.is("31: lays(0)", x.lays(0), Due.MISSING);
        x.sheet(0, 64, 5);
        x.write(0, 0, 99);
        x.write(0, 1, 100);
        x.write(0, 2, -1);
        x.write(0, 3, 1L << 32);
        due.is("31: lays(0), two came", x.lays(0), 2);
        int[] worths = {99, 1, 2, 3, 0, 5};
        for (int thing = 0; thing < 6; thing++) {
            due.is("31: worthOf(" + thing + ")", x.worthOf(thing), worths[thing]);
        }
        x.sheet(1, 8, 40);
        for (int i = 0; i < 40; i++) {
            x.write(1, i, 40 + i);
        }
        due.is("31: lays(1), the others stand for none", x.lays(1), 16);
        due.is("31: worthOf(0) then", x.worthOf(0), 40);
        due.is("31: worthOf(15) then", x.worthOf(15), 55);
    }

    private static void book() {
        PocketBorders x = new PocketBorders();
        Due.one(x, 0, 5, 0);
        due.is("32: book(-1, 0)", x.book(-1, 0), Due.BEYOND);
        due.is("32: book(4, 9)", x.book(4, 9), Due.BEYOND);
        due.is("32: book(0, 9)", x.book(0, 9), Due.MISSING);
        x.sheet(0, 8, 10);
        x.write(0, 0, 77);
        due.is("32: book(0, -1)", x.book(0, -1), Due.BEYOND);
        due.is("32: book(0, 1)", x.book(0, 1), Due.BEYOND);
        String before = Due.seen(x);
        due.is("32: write(0, 0, 78)", x.write(0, 0, 78), 77);
        due.is("32: book(0, 0)", x.book(0, 0), 10);
        int[] sizes = {0, 1, 1, 2, 3, 4, 5, 6, 7, 7};
        for (int i = 0; i < 10; i++) {
            due.is("32: number " + i, x.write(0, i, 0), sizes[i]);
        }
        due.same("32: nothing changes", Due.seen(x), before);
        x.sheet(1, 64, 40);
        due.is("32: book(1, 0)", x.book(1, 0), 40);
        due.is("32: number 39", x.write(1, 39, 0), Integer.bitCount(x.on(0, 39, 0)));
        x.sheet(2, 16, 0);
        due.is("32: book(2, 0)", x.book(2, 0), 0);
    }

    private static void read() {
        PocketBorders x = new PocketBorders();
        Due.one(x, 3, 69, Due.set(15));
        due.is("33: read(-1, 0)", x.read(-1, 0), Due.BEYOND);
        due.is("33: read(4, 9)", x.read(4, 9), Due.BEYOND);
        due.is("33: read(0, 9)", x.read(0, 9), Due.MISSING);
        x.sheet(0, 8, 1);
        due.is("33: read(0, -1)", x.read(0, -1), Due.BEYOND);
        due.is("33: read(0, 1)", x.read(0, 1), Due.BEYOND);
        due.is("33: read(0, 0), not of 1 thing", x.read(0, 0), 0);
        x.write(0, 0, 1);
        String before = Due.seen(x);
        due.is("33: read(0, 0), all pairs", x.read(0, 0), 426);
        x.sheet(1, 16, 0);
        due.is("33: read(1, 0), an empty one", x.read(1, 0), 426);
        x.sheet(2, 64, 2);
        x.write(2, 0, 1);
        x.write(2, 1, 0);
        // With 15 alone: serious ones at odd borders (7, 21, 35, 49, 63), and uncles from 49 on (49, 56, 63, 70);
        // others lose it when what they find is 15 itself: person 5a by 16 is 15 at 35 = 3 and 2 times 16;
        // hiders and swallowers keep what they have; an aunt finds 15 where 5a is 14: at 70 = 6 and 4 times 16.
        due.is("33: read(2, 0), 1 and then 0", x.read(2, 0), 5 + 4 + 1 + 1);
        due.same("33: nothing changes", Due.seen(x), before);
        x.write(2, 0, (1L << 32) + 1);
        due.is("33: read(2, 0), a number far above", x.read(2, 0), 0);
    }
}
