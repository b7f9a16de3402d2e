import java.nio.charset.StandardCharsets;

/** What the tests share: comparing answers, telling sets and texts. */
final class Due {
    static final int BEYOND = -1000000001;
    static final int FULL = -1000000002;
    static final int KIND = -1000000003;
    static final int NONE = -1000000004;
    static final int STATE = -1000000005;
    static final int MISSING = -1000000006;
    static final int SIZE = -1000000007;

    private int wrong = 0;

    void is(String call, long got, long want) {
        if (got != want) {
            wrong++;
            System.out.println(call + " answered " + got + ", due is " + want);
        }
    }

    void same(String what, String got, String want) {
        if (!got.equals(want)) {
            wrong++;
            System.out.println(what + ": is " + got + ", due is " + want);
        }
    }

    void end() {
        System.out.println(wrong == 0 ? "all answers are as due" : wrong + " answers are not as due");
        if (wrong != 0) {
            System.exit(1);
        }
    }

    static int set(int... members) {
        int set = 0;
        for (int member : members) {
            set |= 1 << member;
        }
        return set;
    }

    /** One more, with an age and a pocket. */
    static int one(PocketBorders x, int kind, int age, int pocket) {
        int p = x.person(kind);
        x.set(p, 1, age);
        x.set(p, 2, pocket);
        return p;
    }

    /** Four bytes a call, as an object is used for 512 calls alone. */
    static void feedText(PocketBorders x, String text) {
        byte[] bytes = text.getBytes(StandardCharsets.ISO_8859_1);
        for (int i = 0; i < bytes.length; i += 4) {
            int n = Math.min(4, bytes.length - i);
            int number = 0;
            for (int k = 0; k < n; k++) {
                number = number << 8 | bytes[i + k] & 255;
            }
            x.feed(number, n);
        }
    }

    static int family(PocketBorders x, String text) {
        feedText(x, text);
        return x.family();
    }

    /** All that section 1 tells and how long the tape is, in 99 calls at the most. */
    static String seen(PocketBorders x) {
        StringBuilder all = new StringBuilder();
        for (int thing = 0; thing < 16; thing++) {
            all.append(x.worthOf(thing)).append(' ');
        }
        for (int what = 0; what < 6; what++) {
            all.append(what == 0 ? "| now " : " ").append(x.now(what));
        }
        for (int what = 0; what < 4; what++) {
            all.append(what == 0 ? " | count " : " ").append(x.count(what));
        }
        int people = x.count(0);
        for (int p = 0; p < people; p++) {
            for (int what = 0; what < 9; what++) {
                all.append(what == 0 ? " | of " : " ").append(x.of(p, what));
            }
        }
        return all.toString();
    }
}
