import java.lang.reflect.Method;
import java.util.ArrayList;
import java.util.Arrays;
import java.util.List;
import java.util.Random;

/** Promises 1 to 38: runs of 512 calls, drawn from fixed seeds, answered as FamilyModel answers them. */
public final class ModelTest {
    private static final int CALLS = 512;
    private static final int[] ODD = {-1, -2, 8, 9, 15, 16, 20, 21, 40, 41, 70, 71, 80, 81, 99, 100, 999, 1000, 65535,
        65536, Integer.MIN_VALUE, Integer.MAX_VALUE};
    private static final String[] WORDS = {"person", "hider", "serious", "aunt", "swallower", "uncle", "age", "has",
        "cousin", "worth", "burned", ";", ";", " ", "7", "15", "16", "x", "?", "0", "70", "1000"};

    private final Random random;
    private final PocketBorders x = new PocketBorders();
    private final FamilyModel model = new FamilyModel();
    private final List<String> said = new ArrayList<>();
    private static int wrong = 0;
    private int calls = 0;

    private ModelTest(long seed) {
        random = new Random(seed);
    }

    public static void main(String[] args) throws Exception {
        int runs = args.length > 0 ? Integer.parseInt(args[0]) : 60;
        for (long seed = 1; seed <= runs && wrong == 0; seed++) {
            new ModelTest(seed).run(seed);
        }
        System.out.println(wrong == 0 ? "all answers are as due" : "answers are not as due");
        if (wrong != 0) {
            System.exit(1);
        }
    }

    private void run(long seed) throws Exception {
        Method[] face = PocketBorders.class.getDeclaredMethods();
        List<Method> all = new ArrayList<>();
        for (Method method : face) {
            if (java.lang.reflect.Modifier.isPublic(method.getModifiers())) {
                all.add(method);
            }
        }
        all.sort((a, b) -> a.getName().compareTo(b.getName()));
        int first = random.nextInt(9);
        for (int p = 0; p < first; p++) {
            call(seed, PocketBorders.class.getMethod("person", int.class), random.nextInt(6));
            call(seed, "set", p, 1, random.nextInt(71));
            call(seed, "set", p, 2, random.nextInt(65536) & random.nextInt(65536));
            call(seed, "set", p, 3, random.nextInt(first + 1) - 1);
        }
        while (calls < CALLS && wrong == 0) {
            Method method = all.get(random.nextInt(all.size()));
            boolean dear = List.of("keep", "read", "fewest").contains(method.getName());
            if (method.getName().equals("years") && random.nextInt(4) != 0 || dear && random.nextInt(2) != 0) {
                continue;
            }
            if (method.getName().equals("family")) {
                feed(seed);
            }
            if (method.getName().equals("read") && random.nextInt(3) != 0) {
                book(seed);
            }
            call(seed, method, arguments(method));
        }
    }

    private void book(long seed) throws Exception {
        int s = random.nextInt(4);
        int p = random.nextInt(8);
        call(seed, "sheet", s, 8, random.nextInt(6));
        call(seed, "book", s, p);
        call(seed, "read", s, p);
    }

    private void feed(long seed) throws Exception {
        if (random.nextInt(3) != 0) {
            call(seed, "wipe");
        }
        String text = random.nextBoolean() ? goodText() : anyText();
        if (random.nextInt(4) == 0 && !text.isEmpty()) {
            int at = random.nextInt(text.length());
            String instead = random.nextBoolean() ? "" : String.valueOf((char) random.nextInt(256));
            text = text.substring(0, at) + instead + text.substring(at + 1);
        }
        for (int i = 0; i < text.length();) {
            int n = Math.min(text.length() - i, 1 + random.nextInt(4));
            int bytes = random.nextInt();
            for (int k = 0; k < n; k++) {
                bytes = bytes << 8 | text.charAt(i + k);
            }
            call(seed, "feed", bytes, n);
            i += n;
        }
    }

    private String anyText() {
        StringBuilder text = new StringBuilder();
        for (int k = random.nextInt(12); k > 0; k--) {
            text.append(WORDS[random.nextInt(WORDS.length)]).append(random.nextInt(5) == 0 ? "" : " ");
        }
        return text.toString();
    }

    private String goodText() {
        StringBuilder text = new StringBuilder();
        for (int k = 1 + random.nextInt(3); k > 0; k--) {
            text.append(text.length() == 0 ? "" : ";");
            switch (random.nextInt(4)) {
                case 0 -> text.append("worth ").append(random.nextInt(17)).append(' ').append(random.nextInt(102));
                case 1 -> text.append("burned ").append(random.nextInt(17));
                default -> {
                    text.append(WORDS[random.nextInt(6)]);
                    if (random.nextBoolean()) {
                        text.append(" age ").append(random.nextInt(72));
                    }
                    if (random.nextBoolean()) {
                        text.append(" has");
                        for (int n = 1 + random.nextInt(4); n > 0; n--) {
                            text.append(' ').append(random.nextInt(16));
                        }
                    }
                    if (random.nextBoolean()) {
                        text.append(" cousin ").append(random.nextInt(8));
                    }
                }
            }
        }
        return text.toString();
    }

    private long[] arguments(Method method) {
        long[] a = new long[method.getParameterCount()];
        boolean odd = random.nextInt(12) == 0;
        for (int k = 0; k < a.length; k++) {
            a[k] = switch (method.getName()) {
                case "worth" -> k == 0 ? random.nextInt(16) : random.nextInt(100);
                case "set" -> k == 0 ? random.nextInt(8) : k == 1 ? 1 + random.nextInt(4) : setTo((int) a[1]);
                case "years", "richest" -> 1 + random.nextInt(9);
                case "sheet" -> k == 0 ? random.nextInt(4) : k == 1 ? new int[] {0, 8, 8, 16, 64}[random.nextInt(5)]
                    : random.nextInt(random.nextBoolean() ? 6 : 41);
                case "write" -> k == 0 ? random.nextInt(4) : k == 1 ? random.nextInt(6) : number();
                case "copy" -> k % 2 == 0 && k < 4 ? random.nextInt(4) : random.nextInt(4);
                case "now" -> random.nextInt(6);
                case "of" -> k == 0 ? random.nextInt(8) : random.nextInt(9);
                case "lays" -> random.nextInt(4);
                case "book", "read" -> k == 0 ? random.nextInt(4) : random.nextInt(8);
                case "status" -> random.nextInt(8) - 1;
                case "person" -> random.nextInt(6);
                case "turn", "as" -> k == 0 ? random.nextInt(8) : random.nextInt(6);
                case "feed" -> k == 0 ? random.nextInt() : 1 + random.nextInt(4);
                case "on" -> k == 0 ? random.nextInt(8) : k == 1 ? random.nextInt(81) : random.nextInt(2);
                case "cousin", "kind", "best" -> k == 0 ? random.nextInt(8) : 1 + random.nextInt(80);
                case "keep" -> k == 0 ? random.nextInt(8) : k == 1 ? random.nextInt(16) : 1 + random.nextInt(80);
                case "fewest" -> k == 0 ? random.nextInt(8) : k == 1 ? random.nextInt(16) : 1 + random.nextInt(20);
                case "hand" -> k < 2 ? random.nextInt(8) : random.nextInt(16);
                case "count" -> random.nextInt(4);
                case "give", "gets", "loses" -> k == 0 ? random.nextInt(8) : random.nextInt(16);
                default -> random.nextInt(16);
            };
        }
        if (odd && a.length > 0) {
            a[random.nextInt(a.length)] = ODD[random.nextInt(ODD.length)];
        }
        for (int k = 0; k < a.length && random.nextInt(40) == 0; k++) {
            a[k] = ODD[random.nextInt(ODD.length)];
        }
        return a;
    }

    private long setTo(int what) {
        return switch (what) {
            case 1 -> random.nextInt(71);
            case 2 -> random.nextInt(65536) & random.nextInt(65536);
            case 3 -> random.nextInt(9) - 1;
            default -> random.nextBoolean() ? random.nextInt(1000) : 990 + random.nextInt(10);
        };
    }

    private long number() {
        return random.nextInt(3) == 0 ? random.nextLong() : random.nextInt(120) - 10;
    }

    private void call(long seed, String name, long... a) throws Exception {
        for (Method method : PocketBorders.class.getMethods()) {
            if (method.getName().equals(name)) {
                call(seed, method, a);
            }
        }
    }

    private void call(long seed, Method method, long... a) throws Exception {
        if (calls >= CALLS || wrong != 0) {
            return;
        }
        calls++;
        Object[] boxed = new Object[a.length];
        for (int k = 0; k < a.length; k++) {
            boxed[k] = method.getParameterTypes()[k] == long.class ? (Object) a[k] : (Object) (int) a[k];
        }
        long got = ((Number) method.invoke(x, boxed)).longValue();
        long want = model.answer(method.getName(), a);
        said.add(method.getName() + Arrays.toString(a) + " -> " + got);
        if (got != want) {
            wrong++;
            System.out.println("run " + seed + ":");
            said.forEach(System.out::println);
            System.out.println("the last answered " + got + ", due is " + want);
        }
    }
}
