import java.math.BigInteger;
import java.util.ArrayList;
import java.util.Comparator;
import java.util.List;
import java.util.TreeSet;
import java.util.function.Consumer;
import java.util.function.Predicate;
import java.util.regex.Matcher;
import java.util.regex.Pattern;

/** The document once more, written with lists, sets and exceptions, to compare the class with. */
final class FamilyModel {
    private static final List<String> NAMES = List.of("person", "hider", "serious", "aunt", "swallower", "uncle");

    /** What an act answers when it answers a finding: number 0 is BEYOND. */
    private static final class Finding extends RuntimeException {
        private static final long serialVersionUID = 1L;
        private final int number;

        Finding(int number) {
            super(null, null, false, false);
            this.number = number;
        }
    }

    private static final class Fault extends RuntimeException {
        private static final long serialVersionUID = 1L;
        private final int place;

        Fault(int place) {
            super(null, null, false, false);
            this.place = place;
        }
    }

    private static final class One {
        private int kind;
        private int age = 0;
        private TreeSet<Integer> pocket = new TreeSet<>();
        private int cousin = -1;
        private int lost = 0;

        One(int kind) {
            this.kind = kind;
        }

        One(One other) {
            kind = other.kind;
            age = other.age;
            pocket = new TreeSet<>(other.pocket);
            cousin = other.cousin;
            lost = other.lost;
        }
    }

    private static final class World {
        private final int[] worths = new int[16];
        private TreeSet<Integer> burned = new TreeSet<>();
        private int year = 0;
        private final List<One> people = new ArrayList<>();

        World() {
            for (int i = 0; i < 16; i++) {
                worths[i] = i;
            }
        }

        World(World other) {
            System.arraycopy(other.worths, 0, worths, 0, 16);
            burned = new TreeSet<>(other.burned);
            year = other.year;
            for (One one : other.people) {
                people.add(new One(one));
            }
        }

        List<Integer> fromBest(Iterable<Integer> things) {
            List<Integer> sorted = new ArrayList<>();
            things.forEach(sorted::add);
            sorted.sort(Comparator.comparingInt((Integer t) -> -worths[t]).thenComparingInt(t -> t));
            return sorted;
        }

        List<Integer> fromWorst(Iterable<Integer> things) {
            List<Integer> sorted = new ArrayList<>();
            things.forEach(sorted::add);
            sorted.sort(Comparator.comparingInt((Integer t) -> worths[t]).thenComparingInt(t -> t));
            return sorted;
        }

        List<Integer> shown(One one) {
            List<Integer> all = fromBest(one.pocket);
            int hidden = switch (one.kind) {
                case 1 -> 1;
                case 4 -> 2;
                case 5 -> one.age < 49 ? 16 : 0;
                default -> 0;
            };
            return all.subList(Math.min(hidden, all.size()), all.size());
        }

        int taken(One one) {
            List<Integer> shown = shown(one);
            if (shown.isEmpty()) {
                return -1;
            }
            return switch (one.kind) {
                case 2 -> fromWorst(shown).get(0);
                case 3 -> new TreeSet<>(shown).last();
                case 5 -> fromWorst(shown).get(Math.min(1, shown.size() - 1));
                default -> fromBest(shown).get(0);
            };
        }

        static int found(int kind, int age) {
            int plain = 5 * age % 16;
            return switch (kind) {
                case 2 -> age % 2 == 1 ? -1 : plain;
                case 3 -> plain == 15 ? 0 : plain + 1;
                case 5 -> -1;
                default -> plain;
            };
        }

        int border(One one) {
            int thing = taken(one);
            if (thing >= 0) {
                one.pocket.remove(thing);
                one.lost = Math.min(999, one.lost + 1);
                (one.cousin < 0 ? burned : people.get(one.cousin).pocket).add(thing);
            }
            return thing;
        }

        World years(int n) {
            for (int i = 0; i < n; i++) {
                for (One one : people) {
                    if (one.age < 70) {
                        one.age++;
                        int thing = found(one.kind, one.age);
                        if (thing >= 0) {
                            one.pocket.add(thing);
                        }
                        if (one.age % 7 == 0) {
                            border(one);
                        }
                    }
                }
                year++;
            }
            return this;
        }

        int worth(Iterable<Integer> things) {
            int sum = 0;
            for (int thing : things) {
                sum += worths[thing];
            }
            return sum;
        }

        boolean has(int p, int thing) {
            return people.get(p).pocket.contains(thing);
        }

        int lost() {
            return people.stream().mapToInt(o -> o.lost).sum();
        }
    }

    private World world = new World();
    private World kept = null;
    private StringBuilder tape = new StringBuilder();
    private final long[][] sheets = new long[4][];
    private final int[] bits = new int[4];
    private final long[] findings = new long[7];

    /** The answer of a call, told by its name and numbers. */
    long answer(String call, long... a) {
        int[] i = new int[a.length];
        for (int k = 0; k < a.length; k++) {
            i[k] = (int) a[k];
        }
        try {
            return act(call, i, a);
        } catch (Finding finding) {
            findings[finding.number]++;
            return -1000000001L - finding.number;
        }
    }

    private long act(String call, int[] i, long[] a) {
        switch (call) {
            case "worth": ask(thing(i[0]) && within(i[1], 0, 99), 0); return swap(world.worths, i[0], i[1]);
            case "worthOf": ask(thing(i[0]), 0); return world.worths[i[0]];
            case "who": ask(thing(i[0]), 0); return people(o -> o.pocket.contains(i[0]));
            case "person": return person(i[0]);
            case "of": return of(i[0], i[1]);
            case "set": return set(i[0], i[1], i[2]);
            case "turn": return turn(i[0], i[1]);
            case "as": return as(i[0], i[1]);
            case "give": ask(one(i[0]) && thing(i[1]), 0); return at(i[0]).pocket.add(i[1]) ? 1 : 0;
            case "hand": return hand(i[0], i[1], i[2]);
            case "border": ask(one(i[0]), 0); return world.border(at(i[0]));
            case "years": return years(i[0]);
            case "now": return now(i[0]);
            case "on": return on(i[0], i[1], i[2]);
            case "gets": ask(one(i[0]) && thing(i[1]), 0); return first(w -> w.has(i[0], i[1]));
            case "loses": ask(one(i[0]) && thing(i[1]), 0); return first(w -> !w.has(i[0], i[1]));
            case "burns": ask(thing(i[0]), 0); return first(w -> w.burned.contains(i[0]));
            case "cousin": return cousin(i[0], i[1]);
            case "kind": return kind(i[0], i[1]);
            case "keep": return keep(i[0], i[1], i[2]);
            case "best": return best(i[0], i[1]);
            case "richest": return richest(i[0]);
            case "fewest": return fewest(i[0], i[1], i[2]);
            case "feed": return feed(i[0], i[1]);
            case "wipe": return wipe();
            case "family": return family();
            case "sheet": return sheet(i[0], i[1], i[2]);
            case "write": return write(i[0], i[1], a[2]);
            case "copy": return copy(i[0], i[1], i[2], i[3], i[4]);
            case "lays": return lays(i[0]);
            case "book": return book(i[0], i[1]);
            case "read": return read(i[0], i[1]);
            case "image": kept = new World(world); return 1;
            case "undo": ask(kept != null, 3); world = new World(kept); return world.people.size();
            case "tear": return tear();
            case "count": return count(i[0]);
            case "status": return status(i[0]);
            default: throw new IllegalArgumentException(call);
        }
    }

    private static void ask(boolean holds, int finding) {
        if (!holds) {
            throw new Finding(finding);
        }
    }

    private static boolean within(int v, int least, int most) {
        return least <= v && v <= most;
    }

    private static boolean thing(int t) {
        return within(t, 0, 15);
    }

    private boolean one(int p) {
        return within(p, 0, world.people.size() - 1);
    }

    private One at(int p) {
        return world.people.get(p);
    }

    private static int swap(int[] row, int i, int v) {
        int was = row[i];
        row[i] = v;
        return was;
    }

    private static int number(Iterable<Integer> set) {
        int sum = 0;
        for (int member : set) {
            sum += Math.round(Math.pow(2, member));
        }
        return sum;
    }

    private static TreeSet<Integer> things(int number) {
        TreeSet<Integer> set = new TreeSet<>();
        for (int t = 0; t < 16; t++) {
            if (BigInteger.valueOf(number).testBit(t)) {
                set.add(t);
            }
        }
        return set;
    }

    private int people(Predicate<One> which) {
        TreeSet<Integer> set = new TreeSet<>();
        for (int p = 0; p < world.people.size(); p++) {
            if (which.test(at(p))) {
                set.add(p);
            }
        }
        return number(set);
    }

    private int person(int kind) {
        ask(within(kind, 0, 5), 0);
        ask(world.people.size() < 8, 1);
        world.people.add(new One(kind));
        return world.people.size() - 1;
    }

    private int of(int p, int what) {
        ask(one(p) && within(what, 0, 8), 0);
        One o = at(p);
        int next = o.age == 70 ? -1 : World.found(o.kind, o.age + 1);
        int[] all = {o.kind, o.age, number(o.pocket), o.cousin, o.lost, number(world.shown(o)), world.taken(o), next,
            world.worth(o.pocket)};
        return all[what];
    }

    private int set(int p, int what, int v) {
        ask(one(p) && within(what, 1, 4), 0);
        One o = at(p);
        int[] least = {0, 0, 0, -1, 0};
        int[] most = {0, 70, 65535, world.people.size() - 1, 999};
        ask(within(v, least[what], most[what]), 0);
        int was = of(p, what);
        switch (what) {
            case 1 -> o.age = v;
            case 2 -> o.pocket = things(v);
            case 3 -> o.cousin = v;
            default -> o.lost = v;
        }
        return was;
    }

    private int turn(int p, int kind) {
        ask(one(p) && within(kind, 0, 5), 0);
        int was = at(p).kind;
        at(p).kind = kind;
        return was;
    }

    private int as(int p, int kind) {
        ask(one(p) && within(kind, 0, 5), 0);
        int[][] all = {{0}, {0, 1}, {0, 2}, {0, 3}, {0, 1, 4}, {0, 2, 5}};
        for (int k : all[at(p).kind]) {
            if (k == kind) {
                return at(p).age;
            }
        }
        throw new Finding(2);
    }

    private int hand(int p, int q, int t) {
        ask(one(p) && one(q) && p != q && thing(t), 0);
        ask(at(p).pocket.remove(t), 4);
        at(q).pocket.add(t);
        return 1;
    }

    private int years(int n) {
        ask(within(n, 1, 80), 0);
        ask(world.year + n <= 9999, 4);
        return world.years(n).lost();
    }

    private int now(int what) {
        ask(within(what, 0, 5), 0);
        TreeSet<Integer> had = new TreeSet<>();
        int worth = 0;
        for (One o : world.people) {
            had.addAll(o.pocket);
            worth += world.worth(o.pocket);
        }
        int[] all = {world.year, number(world.burned), people(o -> o.age == 70), worth, number(had), world.lost()};
        return all[what];
    }

    private World ahead(int n, Consumer<World> change) {
        World w = new World(world);
        change.accept(w);
        return w.years(n);
    }

    private int on(int p, int n, int what) {
        ask(one(p) && within(n, 0, 80) && within(what, 0, 1), 0);
        One o = ahead(n, w -> { }).people.get(p);
        return what == 0 ? number(o.pocket) : o.lost;
    }

    private int first(Predicate<World> holds) {
        World w = new World(world);
        for (int n = 0; n <= 80; n++) {
            if (holds.test(w)) {
                return n;
            }
            w.years(1);
        }
        throw new Finding(3);
    }

    private int pocketAhead(int p, int n, Consumer<World> change) {
        World w = ahead(n, change);
        return w.worth(w.people.get(p).pocket);
    }

    private static int firstOfMost(List<Integer> answers, List<Integer> values) {
        int at = 0;
        for (int k = 1; k < values.size(); k++) {
            if (values.get(k) > values.get(at)) {
                at = k;
            }
        }
        return answers.get(at);
    }

    private int cousin(int p, int n) {
        ask(one(p) && within(n, 1, 80), 0);
        List<Integer> who = new ArrayList<>();
        List<Integer> worths = new ArrayList<>();
        for (int c = -1; c < world.people.size(); c++) {
            int as = c;
            who.add(c);
            worths.add(pocketAhead(p, n, w -> w.people.get(p).cousin = as));
        }
        return 1 + firstOfMost(who, worths);
    }

    private int kind(int p, int n) {
        ask(one(p) && within(n, 1, 80), 0);
        List<Integer> worths = new ArrayList<>();
        for (int k = 0; k < 6; k++) {
            int as = k;
            worths.add(pocketAhead(p, n, w -> w.people.get(p).kind = as));
        }
        return firstOfMost(List.of(0, 1, 2, 3, 4, 5), worths);
    }

    private int keep(int p, int t, int n) {
        ask(one(p) && thing(t) && within(n, 1, 80), 0);
        for (int v = 0; v < 100; v++) {
            int worth = v;
            if (ahead(n, w -> w.worths[t] = worth).people.get(p).pocket.contains(t)) {
                return v;
            }
        }
        throw new Finding(3);
    }

    private int best(int p, int n) {
        ask(one(p) && within(n, 1, 80), 0);
        List<Integer> which = new ArrayList<>();
        List<Integer> worths = new ArrayList<>();
        for (int t = 0; t < 16; t++) {
            int thing = t;
            if (!at(p).pocket.contains(t)) {
                which.add(t);
                worths.add(pocketAhead(p, n, w -> w.people.get(p).pocket.add(thing)));
            }
        }
        ask(!which.isEmpty(), 3);
        return firstOfMost(which, worths);
    }

    private int richest(int n) {
        ask(within(n, 0, 80), 0);
        ask(!world.people.isEmpty(), 3);
        List<Integer> who = new ArrayList<>();
        List<Integer> worths = new ArrayList<>();
        World w = ahead(n, x -> { });
        for (One o : w.people) {
            who.add(who.size());
            worths.add(w.worth(o.pocket));
        }
        return firstOfMost(who, worths);
    }

    private int fewest(int p, int t, int n) {
        ask(one(p) && thing(t) && within(n, 1, 20), 0);
        ask(at(p).pocket.contains(t), 4);
        ask(at(p).pocket.size() <= 9, 6);
        int others = number(at(p).pocket) - number(List.of(t));
        for (int size = 0; size <= 8; size++) {
            for (int out = 0; out <= others; out++) {
                TreeSet<Integer> gone = things(out);
                if ((out | others) == others && gone.size() == size
                    && ahead(n, w -> w.people.get(p).pocket.removeAll(gone)).people.get(p).pocket.contains(t)) {
                    return out;
                }
            }
        }
        throw new Finding(3);
    }

    private int feed(int bytes, int n) {
        ask(within(n, 1, 4), 0);
        ask(tape.length() + n <= 120, 1);
        int[] all = {bytes >>> 24, bytes >>> 16 & 255, bytes >>> 8 & 255, bytes & 255};
        for (int i = 4 - n; i < 4; i++) {
            tape.append((char) all[i]);
        }
        return tape.length();
    }

    private int wipe() {
        int had = tape.length();
        tape = new StringBuilder();
        return had;
    }

    private static final Pattern TOKEN = Pattern.compile(" *([a-z]+|[0-9]+|;|[^ ])", Pattern.DOTALL);
    private final List<String> tokens = new ArrayList<>();
    private final List<Integer> places = new ArrayList<>();
    private int token;

    private int family() {
        String text = tape.toString();
        wipe();
        tokens.clear();
        places.clear();
        for (Matcher m = TOKEN.matcher(text); m.find();) {
            tokens.add(m.group(1));
            places.add(m.start(1));
        }
        tokens.add("");
        places.add(text.length());
        token = 0;
        World w = new World(world);
        try {
            int items = 0;
            do {
                item(w);
                items++;
            } while (may(";"));
            must(tokens.get(token).isEmpty());
            world = w;
            return items;
        } catch (Fault fault) {
            return -1 - fault.place;
        }
    }

    private void must(boolean holds) {
        if (!holds) {
            throw new Fault(places.get(token));
        }
    }

    private boolean may(String word) {
        boolean is = tokens.get(token).equals(word);
        token += is ? 1 : 0;
        return is;
    }

    private boolean numberNext() {
        return tokens.get(token).matches("[0-9]+");
    }

    private int number(int most) {
        must(numberNext() && new BigInteger(tokens.get(token)).compareTo(BigInteger.valueOf(most)) <= 0);
        return Integer.parseInt(tokens.get(token++));
    }

    private void item(World w) {
        if (may("worth")) {
            int t = number(15);
            w.worths[t] = number(99);
        } else if (may("burned")) {
            w.burned.add(number(15));
        } else {
            int kind = NAMES.indexOf(tokens.get(token));
            must(kind >= 0 && w.people.size() < 8);
            token++;
            One o = new One(kind);
            w.people.add(o);
            if (may("age")) {
                o.age = number(70);
            }
            if (may("has")) {
                o.pocket.add(number(15));
                for (int k = 1; k < 4 && numberNext(); k++) {
                    o.pocket.add(number(15));
                }
            }
            if (may("cousin")) {
                o.cousin = number(w.people.size() - 1);
            }
        }
    }

    private int sheet(int s, int b, int n) {
        ask(within(s, 0, 3) && List.of(0, 8, 16, 64).contains(b), 0);
        ask(n >= 0, 6);
        ask(n <= 40, 0);
        sheets[s] = b == 0 ? null : new long[n];
        bits[s] = b;
        return b == 0 ? 0 : n;
    }

    private void there(int s) {
        ask(within(s, 0, 3), 0);
        ask(sheets[s] != null, 5);
    }

    private long write(int s, int i, long v) {
        there(s);
        ask(within(i, 0, sheets[s].length - 1), 0);
        long was = sheets[s][i];
        sheets[s][i] = v << 64 - bits[s] >> 64 - bits[s];
        return was;
    }

    private int copy(int s, int from, int t, int to, int n) {
        ask(within(s, 0, 3) && within(t, 0, 3), 0);
        ask(sheets[s] != null && sheets[t] != null, 5);
        ask(bits[s] == bits[t], 2);
        ask(from >= 0 && to >= 0 && n >= 0, 0);
        ask((long) from + n <= sheets[s].length && (long) to + n <= sheets[t].length, 0);
        long[] were = sheets[s].clone();
        for (int k = 0; k < n; k++) {
            sheets[t][to + k] = were[from + k];
        }
        return n;
    }

    private int lays(int s) {
        there(s);
        int came = 0;
        for (int t = 0; t < Math.min(16, sheets[s].length); t++) {
            if (sheets[s][t] >= 0 && sheets[s][t] < 100) {
                world.worths[t] = (int) sheets[s][t];
                came++;
            }
        }
        return came;
    }

    private long[] sizes(int p, int n, Consumer<World> change) {
        World w = ahead(0, change);
        long[] sizes = new long[n];
        for (int k = 0; k < n; k++) {
            sizes[k] = w.people.get(p).pocket.size();
            w.years(1);
        }
        return sizes;
    }

    private int book(int s, int p) {
        there(s);
        ask(one(p), 0);
        sheets[s] = sizes(p, sheets[s].length, w -> { });
        return sheets[s].length;
    }

    private int read(int s, int p) {
        there(s);
        ask(one(p), 0);
        int pairs = 0;
        for (int pair = 0; pair < 6 * 71; pair++) {
            int kind = pair / 71;
            int age = pair % 71;
            long[] sizes = sizes(p, sheets[s].length, w -> {
                w.people.get(p).kind = kind;
                w.people.get(p).age = age;
            });
            pairs += java.util.Arrays.equals(sizes, sheets[s]) ? 1 : 0;
        }
        return pairs;
    }

    private int tear() {
        int was = kept == null ? 0 : 1;
        kept = null;
        return was;
    }

    private int count(int what) {
        ask(within(what, 0, 3), 0);
        int ages = world.people.stream().mapToInt(o -> o.age).sum();
        int things = world.people.stream().mapToInt(o -> o.pocket.size()).sum();
        return List.of(world.people.size(), tape.length(), ages, things).get(what);
    }

    private long status(int which) {
        ask(within(which, -1, 6), 0);
        return which >= 0 ? findings[which] : java.util.Arrays.stream(findings).sum();
    }
}
