import java.util.Arrays;

/** Objects that have something of all that the document tells, and all that can be seen of such a one. */
final class Crowd {
    private static final long MANY_BITS = 0x5a5a_5a5a_5a5a_8181L;

    private Crowd() {
    }

    /**
     * So many people (0 to 8) of all kinds and ages, with a year gone, things burned, an image of another year, sheets
     * of 8, 64 and 64 bits (3, 5 and 2 numbers), sheet 3 missing, and a text on the tape that could go on. It takes 90
     * calls at the most, none of which answers a finding.
     */
    static PocketBorders of(int people) {
        PocketBorders x = new PocketBorders();
        for (int p = 0; p < people; p++) {
            x.person(p % 6);
            x.set(p, 1, 9 * p);
            x.set(p, 2, 0x2481 << p & 65535);
            x.set(p, 4, 100 + p);
        }
        for (int p = 0; p < people; p++) {
            x.set(p, 3, people - 1 - p);
        }
        x.worth(1, 98);
        x.years(1);
        Due.family(x, "burned 11");
        x.image();
        x.years(2);
        x.worth(9, 44);
        Due.family(x, "burned 6");
        sheets(x);
        Due.feedText(x, "worth 3 4");
        return x;
    }

    private static void sheets(PocketBorders x) {
        x.sheet(0, 8, 3);
        x.sheet(1, 64, 5);
        x.sheet(2, 64, 2);
        for (int i = 0; i < 3; i++) {
            x.write(0, i, 71 + i);
        }
        for (int i = 0; i < 5; i++) {
            x.write(1, i, 81 + i);
        }
        x.write(2, 0, 91);
        x.write(2, 1, 92);
    }

    /**
     * All that can be seen of an object but status(): section 1, the bytes of the tape, the sheets with their bits (to
     * six numbers), and what is kept. It changes the object and takes 270 calls at the most, so it comes last.
     */
    static String whole(PocketBorders x) {
        StringBuilder all = new StringBuilder(Due.seen(x));
        for (int s = 0; s < 4; s++) {
            for (int i = 0; i < 6; i++) {
                all.append(i == 0 ? " | sheet " : " ").append(x.write(s, i, MANY_BITS));
                all.append(' ').append(x.write(s, i, 0));
            }
        }
        // The text goes on by a digit: other bytes would make another worth, or a fault.
        all.append(" | tape ").append(x.feed('2', 1)).append(' ').append(x.family());
        all.append(' ').append(x.worthOf(3)).append(" | image ").append(x.undo());
        return all.append(' ').append(Due.seen(x)).append(' ').append(x.tear()).toString();
    }

    /** How many acts answered which finding. */
    static String findings(PocketBorders x) {
        int[] all = new int[8];
        for (int which = -1; which < 7; which++) {
            all[which + 1] = x.status(which);
        }
        return Arrays.toString(all);
    }

    /** What findings() tells when one act answered that finding, and no other one any. */
    static String oneOf(int finding) {
        int[] all = new int[8];
        all[0] = 1;
        all[1 + Due.BEYOND - finding] = 1;
        return Arrays.toString(all);
    }
}
