import java.util.Arrays;

/** A family whose pockets are turned out at the border of each age. */
public final class PocketBorders {
    private static final int BEYOND = -1000000001;
    private static final int FULL = -1000000002;
    private static final int KIND = -1000000003;
    private static final int NONE = -1000000004;
    private static final int STATE = -1000000005;
    private static final int MISSING = -1000000006;
    private static final int SIZE = -1000000007;
    private static final int FINDINGS = 7;

    private static final int THINGS = 16;
    private static final int ALL_THINGS = 65535;
    private static final int MOST_WORTH = 99;
    private static final int MOST_PEOPLE = 8;
    private static final int NOBODY = -1;
    private static final int NOTHING = -1;
    private static final int OLDEST = 70;
    private static final int MOST_LOST = 999;
    private static final int LAST_YEAR = 9999;
    private static final int MOST_YEARS = 80;
    private static final int FEWEST_YEARS = 20;
    private static final int FEWEST_OTHERS = 8;
    private static final int BORDER_EVERY = 7;
    private static final int UNCLE_SHOWS_FROM = 49;

    private static final int KINDS = 6;
    private static final int[] KIND_ABOVE = {-1, 0, 0, 0, 1, 2};

    private static final int SHEETS = 4;
    private static final int MOST_NUMBERS = 40;
    private static final int MOST_BYTES = 120;

    private final Family present;
    private final Family trial;
    private final Family kept;
    private boolean isKept;
    private final Tape tape;
    private final TextReader reader;
    private final Sheet[] sheets;
    private final int[] findings;

    public PocketBorders() {
        PersonWays[] ways = {
            new PersonWays(), new HiderWays(), new SeriousWays(),
            new AuntWays(), new SwallowerWays(), new UncleWays()
        };
        present = new Family(ways);
        trial = new Family(ways);
        kept = new Family(ways);
        isKept = false;
        tape = new Tape();
        reader = new TextReader(tape, trial);
        sheets = new Sheet[SHEETS];
        for (int s = 0; s < SHEETS; s++) {
            sheets[s] = new Sheet();
        }
        findings = new int[FINDINGS];
    }

    // ---- things

    public int worth(int thing, int v) {
        if (!isThing(thing) || !isWorth(v)) {
            return found(BEYOND);
        }
        int was = present.worths[thing];
        present.worths[thing] = v;
        return was;
    }

    public int worthOf(int thing) {
        if (!isThing(thing)) {
            return found(BEYOND);
        }
        return present.worths[thing];
    }

    public int who(int thing) {
        if (!isThing(thing)) {
            return found(BEYOND);
        }
        int owners = 0;
        for (int p = 0; p < present.people; p++) {
            if (present.has(p, thing)) {
                owners |= 1 << p;
            }
        }
        return owners;
    }

    // ---- people

    public int person(int kind) {
        if (!isKind(kind)) {
            return found(BEYOND);
        }
        if (present.people >= MOST_PEOPLE) {
            return found(FULL);
        }
        return present.addPerson(kind);
    }

    public int of(int person, int what) {
        if (!isPerson(person)) {
            return found(BEYOND);
        }
        switch (what) {
            case 0: return present.kinds[person];
            case 1: return present.ages[person];
            case 2: return present.pockets[person];
            case 3: return present.cousins[person];
            case 4: return present.losts[person];
            case 5: return present.shownBy(person);
            case 6: return present.takenFrom(person);
            case 7: return present.foundNextBy(person);
            case 8: return present.pocketWorth(person);
            default: return found(BEYOND);
        }
    }

    public int set(int person, int what, int v) {
        if (!isPerson(person)) {
            return found(BEYOND);
        }
        switch (what) {
            case 1: return replace(present.ages, person, v, 0, OLDEST);
            case 2: return replace(present.pockets, person, v, 0, ALL_THINGS);
            case 3: return replace(present.cousins, person, v, NOBODY, present.people - 1);
            case 4: return replace(present.losts, person, v, 0, MOST_LOST);
            default: return found(BEYOND);
        }
    }

    public int turn(int person, int kind) {
        if (!isPerson(person)) {
            return found(BEYOND);
        }
        return replace(present.kinds, person, kind, 0, KINDS - 1);
    }

    public int as(int person, int kind) {
        if (!isPerson(person) || !isKind(kind)) {
            return found(BEYOND);
        }
        if (!isUnder(present.kinds[person], kind)) {
            return found(KIND);
        }
        return present.ages[person];
    }

    public int give(int person, int thing) {
        if (!isPerson(person) || !isThing(thing)) {
            return found(BEYOND);
        }
        if (present.has(person, thing)) {
            return 0;
        }
        present.pockets[person] |= setOf(thing);
        return 1;
    }

    public int hand(int person, int other, int thing) {
        if (!isPerson(person) || !isPerson(other) || person == other || !isThing(thing)) {
            return found(BEYOND);
        }
        if (!present.has(person, thing)) {
            return found(STATE);
        }
        present.pockets[person] &= ~setOf(thing);
        present.pockets[other] |= setOf(thing);
        return 1;
    }

    public int border(int person) {
        if (!isPerson(person)) {
            return found(BEYOND);
        }
        return present.holdBorder(person);
    }

    // ---- years

    public int years(int n) {
        if (!isWithin(n, 1, MOST_YEARS)) {
            return found(BEYOND);
        }
        if (present.year + n > LAST_YEAR) {
            return found(STATE);
        }
        present.passYears(n);
        return present.lostByAll();
    }

    public int now(int what) {
        switch (what) {
            case 0: return present.year;
            case 1: return present.burned;
            case 2: return present.theOldest();
            case 3: return present.worthOfAllPockets();
            case 4: return present.ownedThings();
            case 5: return present.lostByAll();
            default: return found(BEYOND);
        }
    }

    public int on(int person, int n, int what) {
        if (!isPerson(person) || !isWithin(n, 0, MOST_YEARS) || !isWithin(what, 0, 1)) {
            return found(BEYOND);
        }
        trial.becomes(present);
        trial.passYears(n);
        return what == 0 ? trial.pockets[person] : trial.losts[person];
    }

    public int gets(int person, int thing) {
        if (!isPerson(person) || !isThing(thing)) {
            return found(BEYOND);
        }
        return firstYear(person, thing, true);
    }

    public int loses(int person, int thing) {
        if (!isPerson(person) || !isThing(thing)) {
            return found(BEYOND);
        }
        return firstYear(person, thing, false);
    }

    public int burns(int thing) {
        if (!isThing(thing)) {
            return found(BEYOND);
        }
        trial.becomes(present);
        for (int n = 0; n <= MOST_YEARS; n++) {
            if (contains(trial.burned, thing)) {
                return n;
            }
            trial.passYears(1);
        }
        return found(NONE);
    }

    // ---- what is best

    public int cousin(int person, int n) {
        if (!isPerson(person) || !isWithin(n, 1, MOST_YEARS)) {
            return found(BEYOND);
        }
        int most = -1;
        int answer = 0;
        for (int c = NOBODY; c < present.people; c++) {
            trial.becomes(present);
            trial.cousins[person] = c;
            trial.passYears(n);
            int worth = trial.pocketWorth(person);
            if (worth > most) {
                most = worth;
                answer = 1 + c;
            }
        }
        return answer;
    }

    public int kind(int person, int n) {
        if (!isPerson(person) || !isWithin(n, 1, MOST_YEARS)) {
            return found(BEYOND);
        }
        int most = -1;
        int answer = 0;
        for (int k = 0; k < KINDS; k++) {
            trial.becomes(present);
            trial.kinds[person] = k;
            trial.passYears(n);
            int worth = trial.pocketWorth(person);
            if (worth > most) {
                most = worth;
                answer = k;
            }
        }
        return answer;
    }

    public int keep(int person, int thing, int n) {
        if (!isPerson(person) || !isThing(thing) || !isWithin(n, 1, MOST_YEARS)) {
            return found(BEYOND);
        }
        for (int v = 0; v <= MOST_WORTH; v++) {
            trial.becomes(present);
            trial.worths[thing] = v;
            trial.passYears(n);
            if (trial.has(person, thing)) {
                return v;
            }
        }
        return found(NONE);
    }

    public int best(int person, int n) {
        if (!isPerson(person) || !isWithin(n, 1, MOST_YEARS)) {
            return found(BEYOND);
        }
        int most = -1;
        int answer = NOTHING;
        for (int thing = 0; thing < THINGS; thing++) {
            if (present.has(person, thing)) {
                continue;
            }
            trial.becomes(present);
            trial.pockets[person] |= setOf(thing);
            trial.passYears(n);
            int worth = trial.pocketWorth(person);
            if (worth > most) {
                most = worth;
                answer = thing;
            }
        }
        return answer == NOTHING ? found(NONE) : answer;
    }

    public int richest(int n) {
        if (!isWithin(n, 0, MOST_YEARS)) {
            return found(BEYOND);
        }
        trial.becomes(present);
        trial.passYears(n);
        int most = -1;
        int answer = NOBODY;
        for (int p = 0; p < trial.people; p++) {
            int worth = trial.pocketWorth(p);
            if (worth > most) {
                most = worth;
                answer = p;
            }
        }
        return answer == NOBODY ? found(NONE) : answer;
    }

    public int fewest(int person, int thing, int n) {
        if (!isPerson(person) || !isThing(thing) || !isWithin(n, 1, FEWEST_YEARS)) {
            return found(BEYOND);
        }
        if (!present.has(person, thing)) {
            return found(STATE);
        }
        int others = present.pockets[person] & ~setOf(thing);
        int size = Integer.bitCount(others);
        if (size > FEWEST_OTHERS) {
            return found(SIZE);
        }
        int fewest = size + 1;
        int answer = -1;
        int out = 0;
        for (int i = 0; i < 1 << size; i++) {
            int count = Integer.bitCount(out);
            if (count < fewest && staysWithout(person, thing, n, out)) {
                fewest = count;
                answer = out;
            }
            // Borrowing through the bits that are not in others leads to its next greater subset.
            out = (out - others) & others;
        }
        return answer < 0 ? found(NONE) : answer;
    }

    // ---- the text

    public int feed(int bytes, int n) {
        if (!isWithin(n, 1, 4)) {
            return found(BEYOND);
        }
        if (tape.length + n > MOST_BYTES) {
            return found(FULL);
        }
        for (int i = n - 1; i >= 0; i--) {
            tape.append(bytes >> 8 * i & 255);
        }
        return tape.length;
    }

    public int wipe() {
        int had = tape.length;
        tape.length = 0;
        return had;
    }

    public int family() {
        // The items go to the trial first, as a fault in a late one undoes them all.
        trial.becomes(present);
        int answer = reader.readText();
        if (answer >= 0) {
            present.becomes(trial);
        }
        tape.length = 0;
        return answer;
    }

    // ---- sheets

    public int sheet(int s, int bits, int n) {
        if (!isSheet(s) || bits != 0 && bits != 8 && bits != 16 && bits != 64) {
            return found(BEYOND);
        }
        if (n < 0) {
            return found(SIZE);
        }
        if (n > MOST_NUMBERS) {
            return found(BEYOND);
        }
        sheets[s].begin(bits, n);
        return sheets[s].size;
    }

    public long write(int s, int i, long v) {
        if (!isSheet(s)) {
            return found(BEYOND);
        }
        if (sheets[s].isMissing()) {
            return found(MISSING);
        }
        if (!isWithin(i, 0, sheets[s].size - 1)) {
            return found(BEYOND);
        }
        long was = sheets[s].numbers[i];
        sheets[s].put(i, v);
        return was;
    }

    public int copy(int s, int from, int t, int to, int n) {
        if (!isSheet(s) || !isSheet(t)) {
            return found(BEYOND);
        }
        if (sheets[s].isMissing() || sheets[t].isMissing()) {
            return found(MISSING);
        }
        if (sheets[s].bits != sheets[t].bits) {
            return found(KIND);
        }
        if (!sheets[s].reaches(from, n) || !sheets[t].reaches(to, n)) {
            return found(BEYOND);
        }
        System.arraycopy(sheets[s].numbers, from, sheets[t].numbers, to, n);
        return n;
    }

    public int lays(int s) {
        if (!isSheet(s)) {
            return found(BEYOND);
        }
        if (sheets[s].isMissing()) {
            return found(MISSING);
        }
        int came = 0;
        for (int i = 0; i < sheets[s].size && i < THINGS; i++) {
            long v = sheets[s].numbers[i];
            if (v >= 0 && v <= MOST_WORTH) {
                present.worths[i] = (int) v;
                came++;
            }
        }
        return came;
    }

    public int book(int s, int person) {
        if (!isSheet(s)) {
            return found(BEYOND);
        }
        if (sheets[s].isMissing()) {
            return found(MISSING);
        }
        if (!isPerson(person)) {
            return found(BEYOND);
        }
        trial.becomes(present);
        for (int i = 0; i < sheets[s].size; i++) {
            sheets[s].put(i, Integer.bitCount(trial.pockets[person]));
            trial.passYears(1);
        }
        return sheets[s].size;
    }

    public int read(int s, int person) {
        if (!isSheet(s)) {
            return found(BEYOND);
        }
        if (sheets[s].isMissing()) {
            return found(MISSING);
        }
        if (!isPerson(person)) {
            return found(BEYOND);
        }
        int pairs = 0;
        for (int kind = 0; kind < KINDS; kind++) {
            for (int age = 0; age <= OLDEST; age++) {
                if (makes(sheets[s], person, kind, age)) {
                    pairs++;
                }
            }
        }
        return pairs;
    }

    // ---- images

    public int image() {
        kept.becomes(present);
        isKept = true;
        return 1;
    }

    public int undo() {
        if (!isKept) {
            return found(NONE);
        }
        present.becomes(kept);
        return present.people;
    }

    public int tear() {
        int was = isKept ? 1 : 0;
        isKept = false;
        return was;
    }

    public int count(int what) {
        switch (what) {
            case 0: return present.people;
            case 1: return tape.length;
            case 2: return present.agesOfAll();
            case 3: return present.thingsInPockets();
            default: return found(BEYOND);
        }
    }

    public int status(int which) {
        if (!isWithin(which, -1, FINDINGS - 1)) {
            return found(BEYOND);
        }
        if (which >= 0) {
            return findings[which];
        }
        int all = 0;
        for (int f = 0; f < FINDINGS; f++) {
            all += findings[f];
        }
        return all;
    }

    // ---- what the calls share

    private int found(int finding) {
        findings[BEYOND - finding]++;
        return finding;
    }

    private boolean isPerson(int person) {
        return isWithin(person, 0, present.people - 1);
    }

    private int replace(int[] row, int person, int v, int least, int most) {
        if (!isWithin(v, least, most)) {
            return found(BEYOND);
        }
        int was = row[person];
        row[person] = v;
        return was;
    }

    private int firstYear(int person, int thing, boolean there) {
        trial.becomes(present);
        for (int n = 0; n <= MOST_YEARS; n++) {
            if (trial.has(person, thing) == there) {
                return n;
            }
            trial.passYears(1);
        }
        return found(NONE);
    }

    private boolean staysWithout(int person, int thing, int n, int out) {
        trial.becomes(present);
        trial.pockets[person] &= ~out;
        trial.passYears(n);
        return trial.has(person, thing);
    }

    private boolean makes(Sheet sheet, int person, int kind, int age) {
        trial.becomes(present);
        trial.kinds[person] = kind;
        trial.ages[person] = age;
        for (int i = 0; i < sheet.size; i++) {
            if (sheet.numbers[i] != Integer.bitCount(trial.pockets[person])) {
                return false;
            }
            trial.passYears(1);
        }
        return true;
    }

    private static boolean isWithin(int v, int least, int most) {
        return v >= least && v <= most;
    }

    private static boolean isThing(int thing) {
        return isWithin(thing, 0, THINGS - 1);
    }

    private static boolean isWorth(int v) {
        return isWithin(v, 0, MOST_WORTH);
    }

    private static boolean isKind(int kind) {
        return isWithin(kind, 0, KINDS - 1);
    }

    private static boolean isSheet(int s) {
        return isWithin(s, 0, SHEETS - 1);
    }

    private static boolean isUnder(int kind, int above) {
        int k = kind;
        for (int step = 0; step < KINDS && k >= 0; step++) {
            if (k == above) {
                return true;
            }
            k = KIND_ABOVE[k];
        }
        return false;
    }

    private static int setOf(int thing) {
        return thing < 0 ? 0 : 1 << thing;
    }

    private static boolean contains(int set, int thing) {
        return (set & 1 << thing) != 0;
    }

    private static int bestIn(int set, int[] worths) {
        int best = NOTHING;
        for (int thing = 0; thing < THINGS; thing++) {
            if ((set & 1 << thing) != 0 && (best < 0 || worths[thing] > worths[best])) {
                best = thing;
            }
        }
        return best;
    }

    private static int worstIn(int set, int[] worths) {
        int worst = NOTHING;
        for (int thing = 0; thing < THINGS; thing++) {
            if ((set & 1 << thing) != 0 && (worst < 0 || worths[thing] < worths[worst])) {
                worst = thing;
            }
        }
        return worst;
    }

    private static int greatestIn(int set) {
        for (int thing = THINGS - 1; thing >= 0; thing--) {
            if ((set & 1 << thing) != 0) {
                return thing;
            }
        }
        return NOTHING;
    }

    // ---- the kinds: each class says only what it does unlike the kind above

    private static class PersonWays {
        int shows(int pocket, int age, int[] worths) {
            return pocket;
        }

        int taken(int shown, int[] worths) {
            return bestIn(shown, worths);
        }

        int finds(int age) {
            return 5 * age % THINGS;
        }
    }

    private static class HiderWays extends PersonWays {
        int shows(int pocket, int age, int[] worths) {
            int shown = super.shows(pocket, age, worths);
            return shown & ~setOf(bestIn(shown, worths));
        }
    }

    private static class SeriousWays extends PersonWays {
        int taken(int shown, int[] worths) {
            return worstIn(shown, worths);
        }

        int finds(int age) {
            return age % 2 != 0 ? NOTHING : super.finds(age);
        }
    }

    private static final class AuntWays extends PersonWays {
        int taken(int shown, int[] worths) {
            return greatestIn(shown);
        }

        int finds(int age) {
            return (super.finds(age) + 1) % THINGS;
        }
    }

    private static final class SwallowerWays extends HiderWays {
        int shows(int pocket, int age, int[] worths) {
            int shown = super.shows(pocket, age, worths);
            return shown & ~setOf(bestIn(shown, worths));
        }
    }

    private static final class UncleWays extends SeriousWays {
        int shows(int pocket, int age, int[] worths) {
            return age < UNCLE_SHOWS_FROM ? 0 : super.shows(pocket, age, worths);
        }

        int taken(int shown, int[] worths) {
            int first = super.taken(shown, worths);
            int rest = shown & ~setOf(first);
            return rest == 0 ? first : worstIn(rest, worths);
        }

        int finds(int age) {
            return NOTHING;
        }
    }

    /** All that an image keeps: things, people and the year. */
    private static final class Family {
        private final PersonWays[] ways;
        private final int[] worths = new int[THINGS];
        private final int[] kinds = new int[MOST_PEOPLE];
        private final int[] ages = new int[MOST_PEOPLE];
        private final int[] pockets = new int[MOST_PEOPLE];
        private final int[] cousins = new int[MOST_PEOPLE];
        private final int[] losts = new int[MOST_PEOPLE];
        private int people;
        private int burned;
        private int year;

        Family(PersonWays[] ways) {
            this.ways = ways;
            for (int thing = 0; thing < THINGS; thing++) {
                worths[thing] = thing;
            }
        }

        void becomes(Family other) {
            System.arraycopy(other.worths, 0, worths, 0, THINGS);
            System.arraycopy(other.kinds, 0, kinds, 0, MOST_PEOPLE);
            System.arraycopy(other.ages, 0, ages, 0, MOST_PEOPLE);
            System.arraycopy(other.pockets, 0, pockets, 0, MOST_PEOPLE);
            System.arraycopy(other.cousins, 0, cousins, 0, MOST_PEOPLE);
            System.arraycopy(other.losts, 0, losts, 0, MOST_PEOPLE);
            people = other.people;
            burned = other.burned;
            year = other.year;
        }

        /** The caller has seen that there is room. */
        int addPerson(int kind) {
            int p = people;
            kinds[p] = kind;
            ages[p] = 0;
            pockets[p] = 0;
            cousins[p] = NOBODY;
            losts[p] = 0;
            people++;
            return p;
        }

        boolean has(int p, int thing) {
            return contains(pockets[p], thing);
        }

        int shownBy(int p) {
            return ways[kinds[p]].shows(pockets[p], ages[p], worths);
        }

        int takenFrom(int p) {
            PersonWays way = ways[kinds[p]];
            return way.taken(way.shows(pockets[p], ages[p], worths), worths);
        }

        int foundNextBy(int p) {
            return ages[p] >= OLDEST ? NOTHING : ways[kinds[p]].finds(ages[p] + 1);
        }

        int holdBorder(int p) {
            int thing = takenFrom(p);
            if (thing < 0) {
                return NOTHING;
            }
            pockets[p] &= ~setOf(thing);
            losts[p] = Math.min(losts[p] + 1, MOST_LOST);
            if (cousins[p] == NOBODY) {
                burned |= setOf(thing);
            } else {
                pockets[cousins[p]] |= setOf(thing);
            }
            return thing;
        }

        void passYears(int n) {
            for (int y = 0; y < n; y++) {
                for (int p = 0; p < people; p++) {
                    if (ages[p] >= OLDEST) {
                        continue;
                    }
                    ages[p]++;
                    pockets[p] |= setOf(ways[kinds[p]].finds(ages[p]));
                    if (ages[p] % BORDER_EVERY == 0) {
                        holdBorder(p);
                    }
                }
                year++;
            }
        }

        int pocketWorth(int p) {
            int sum = 0;
            for (int thing = 0; thing < THINGS; thing++) {
                if (has(p, thing)) {
                    sum += worths[thing];
                }
            }
            return sum;
        }

        int worthOfAllPockets() {
            int sum = 0;
            for (int p = 0; p < people; p++) {
                sum += pocketWorth(p);
            }
            return sum;
        }

        int theOldest() {
            int set = 0;
            for (int p = 0; p < people; p++) {
                if (ages[p] >= OLDEST) {
                    set |= 1 << p;
                }
            }
            return set;
        }

        int ownedThings() {
            int set = 0;
            for (int p = 0; p < people; p++) {
                set |= pockets[p];
            }
            return set;
        }

        int lostByAll() {
            int sum = 0;
            for (int p = 0; p < people; p++) {
                sum += losts[p];
            }
            return sum;
        }

        int agesOfAll() {
            int sum = 0;
            for (int p = 0; p < people; p++) {
                sum += ages[p];
            }
            return sum;
        }

        int thingsInPockets() {
            int sum = 0;
            for (int p = 0; p < people; p++) {
                sum += Integer.bitCount(pockets[p]);
            }
            return sum;
        }
    }

    /** Bytes 0 to 255, in the order in which they were fed. */
    private static final class Tape {
        private final int[] bytes = new int[MOST_BYTES];
        private int length;

        /** The caller has seen that there is room. */
        void append(int b) {
            bytes[length] = b;
            length++;
        }
    }

    /**
     * Reads the text of a family. A method that answers false stands at the token that can't stand
     * there: its first byte is the fault, and the end's is how many bytes there are.
     */
    private static final class TextReader {
        private static final int END = 0;
        private static final int WORD = 1;
        private static final int NUMBER = 2;
        private static final int SIGN = 3;
        private static final int STRANGE = 4;
        private static final int MOST_THINGS = 4;
        private static final int MOST_NUMBER = 999;

        private final Tape tape;
        private final Family family;
        private int token;
        private int start;
        private int behind;
        private int number;

        TextReader(Tape tape, Family family) {
            this.tape = tape;
            this.family = family;
        }

        /** How many items came to the family, or -1 less the place of the fault. */
        int readText() {
            behind = 0;
            next();
            for (int items = 1; items <= MOST_BYTES; items++) {
                if (!readItem()) {
                    return -1 - start;
                }
                if (token == END) {
                    return items;
                }
                if (token != SIGN) {
                    return -1 - start;
                }
                next();
            }
            return -1 - start;
        }

        private boolean readItem() {
            int kind = kindNamed();
            if (kind >= 0) {
                return readPerson(kind);
            }
            if (isWord("worth")) {
                return readWorth();
            }
            if (isWord("burned")) {
                return readBurned();
            }
            return false;
        }

        private boolean readPerson(int kind) {
            if (family.people >= MOST_PEOPLE) {
                return false;
            }
            int p = family.addPerson(kind);
            next();
            if (isWord("age")) {
                next();
                if (!isNumber(OLDEST)) {
                    return false;
                }
                family.ages[p] = number;
                next();
            }
            if (isWord("has")) {
                next();
                if (!readThings(p)) {
                    return false;
                }
            }
            if (isWord("cousin")) {
                next();
                if (!isNumber(p)) {
                    return false;
                }
                family.cousins[p] = number;
                next();
            }
            return true;
        }

        private boolean readThings(int p) {
            for (int i = 0; i < MOST_THINGS; i++) {
                if (token != NUMBER) {
                    return i > 0;
                }
                if (!isNumber(THINGS - 1)) {
                    return false;
                }
                family.pockets[p] |= setOf(number);
                next();
            }
            return true;
        }

        private boolean readWorth() {
            next();
            if (!isNumber(THINGS - 1)) {
                return false;
            }
            int thing = number;
            next();
            if (!isNumber(MOST_WORTH)) {
                return false;
            }
            family.worths[thing] = number;
            next();
            return true;
        }

        private boolean readBurned() {
            next();
            if (!isNumber(THINGS - 1)) {
                return false;
            }
            family.burned |= setOf(number);
            next();
            return true;
        }

        private boolean isNumber(int most) {
            return token == NUMBER && number <= most;
        }

        private boolean isWord(String word) {
            if (token != WORD || behind - start != word.length()) {
                return false;
            }
            for (int i = 0; i < word.length(); i++) {
                if (tape.bytes[start + i] != word.charAt(i)) {
                    return false;
                }
            }
            return true;
        }

        private int kindNamed() {
            for (int kind = 0; kind < KINDS; kind++) {
                if (isWord(nameOfKind(kind))) {
                    return kind;
                }
            }
            return -1;
        }

        private static String nameOfKind(int kind) {
            switch (kind) {
                case 0: return "person";
                case 1: return "hider";
                case 2: return "serious";
                case 3: return "aunt";
                case 4: return "swallower";
                default: return "uncle";
            }
        }

        private void next() {
            start = behind;
            while (start < tape.length && tape.bytes[start] == ' ') {
                start++;
            }
            behind = start;
            if (start >= tape.length) {
                token = END;
            } else if (isLetter(start)) {
                token = WORD;
                passWord();
            } else if (isDigit(start)) {
                token = NUMBER;
                passNumber();
            } else {
                token = tape.bytes[start] == ';' ? SIGN : STRANGE;
                behind = start + 1;
            }
        }

        private void passWord() {
            while (behind < tape.length && isLetter(behind)) {
                behind++;
            }
        }

        private void passNumber() {
            number = 0;
            while (behind < tape.length && isDigit(behind)) {
                // Held just above the greatest number, so that many digits don't wrap around.
                number = Math.min(number * 10 + tape.bytes[behind] - '0', MOST_NUMBER + 1);
                behind++;
            }
        }

        private boolean isLetter(int place) {
            return tape.bytes[place] >= 'a' && tape.bytes[place] <= 'z';
        }

        private boolean isDigit(int place) {
            return tape.bytes[place] >= '0' && tape.bytes[place] <= '9';
        }
    }

    /** A row of signed numbers; bits 0 says that it is missing. */
    private static final class Sheet {
        private final long[] numbers = new long[MOST_NUMBERS];
        private int bits;
        private int size;

        void begin(int newBits, int n) {
            bits = newBits;
            size = newBits == 0 ? 0 : n;
            Arrays.fill(numbers, 0L);
        }

        boolean isMissing() {
            return bits == 0;
        }

        /** The caller has seen that there is such a number. */
        void put(int i, long v) {
            if (bits == 8) {
                numbers[i] = (byte) v;
            } else if (bits == 16) {
                numbers[i] = (short) v;
            } else {
                numbers[i] = v;
            }
        }

        boolean reaches(int from, int n) {
            return from >= 0 && n >= 0 && from <= size && n <= size - from;
        }
    }
}
