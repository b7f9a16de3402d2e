/** Promises 25 to 27: the tape and the text of a family. */
public final class TextTest {
    private static final Due due = new Due();

    public static void main(String[] args) {
        feed();
        wipe();
        items();
        comesToWhatThereIs();
        faults();
        faultsOfTokens();
        ninth();
        faultChangesNothing();
        longTexts();
        feedEachNumber();
        tapeToTheLastByte();
        eightInOneText();
        cousinsThereByThen();
        numbersAtTheirEdges();
        howManyThings();
        anyByte();
        endsTooEarly();
        whatATextLeaves();
        nothingIsLeftOfATape();
        due.end();
    }

    private static void feed() {
        PocketBorders x = new PocketBorders();
        due.is("25: feed(.., 0)", x.feed(1, 0), Due.BEYOND);
        due.is("25: feed(.., 5)", x.feed(1, 5), Due.BEYOND);
        due.is("25: feed(.., -1)", x.feed(1, -1), Due.BEYOND);
        due.is("25: feed, 4 bytes", x.feed('a' << 24 | 'u' << 16 | 'n' << 8 | 't', 4), 4);
        due.is("25: feed, 3 of 4 bytes", x.feed('z' << 24 | ' ' << 16 | 'h' << 8 | 'a', 3), 7);
        due.is("25: feed, 1 of 4 bytes", x.feed('z' << 24 | 'z' << 16 | 'z' << 8 | 's', 1), 8);
        due.is("25: feed, 2 bytes", x.feed('1' << 8 | '2', 2), 10);
        due.is("25: family()", x.family(), 1);
        due.is("25: of(0, 0)", x.of(0, 0), 3);
        due.is("25: of(0, 2)", x.of(0, 2), Due.set(12));
        for (int i = 0; i < 29; i++) {
            x.feed(0x20202020, 4);
        }
        due.is("25: count(1)", x.count(1), 116);
        due.is("25: feed, 3 to 119", x.feed(0, 3), 119);
        due.is("25: feed, 2 to 121", x.feed(0, 2), Due.FULL);
        due.is("25: feed, 5 to 124", x.feed(0, 5), Due.BEYOND);
        due.is("25: count(1) still", x.count(1), 119);
        due.is("25: feed, 1 to 120", x.feed(0, 1), 120);
        due.is("25: feed, 1 to 121", x.feed(0, 1), Due.FULL);
        due.is("26: wipe()", x.wipe(), 120);
        due.is("25: feed, again", x.feed(-1, 4), 4);
    }

    private static void wipe() {
        PocketBorders x = new PocketBorders();
        x.feed(0, 3);
        due.is("26: wipe()", x.wipe(), 3);
        due.is("26: wipe() again", x.wipe(), 0);
        due.is("26: count(1)", x.count(1), 0);
        due.is("26: family() behind it", Due.family(x, "person"), 1);
    }

    private static void items() {
        String[] kinds = {"person", "hider", "serious", "aunt", "swallower", "uncle"};
        for (int kind = 0; kind < 6; kind++) {
            PocketBorders x = new PocketBorders();
            due.is("27: " + kinds[kind], Due.family(x, kinds[kind]), 1);
            due.is("27: of(0, 0), " + kinds[kind], x.of(0, 0), kind);
        }
        PocketBorders x = new PocketBorders();
        due.is("27: a whole one", Due.family(x, "hider age 70 has 0 15 3 4 cousin 0"), 1);
        due.is("27: of(0, 1)", x.of(0, 1), 70);
        due.is("27: of(0, 2)", x.of(0, 2), Due.set(0, 3, 4, 15));
        due.is("27: of(0, 3)", x.of(0, 3), 0);
        due.is("27: of(0, 4)", x.of(0, 4), 0);
        due.is("27: count(1)", x.count(1), 0);
        due.is("27: two, to the one before", Due.family(x, "aunt cousin 0;uncle has 7 7 cousin 1"), 2);
        due.is("27: of(1, 3)", x.of(1, 3), 0);
        due.is("27: of(2, 3)", x.of(2, 3), 1);
        due.is("27: of(2, 2)", x.of(2, 2), Due.set(7));
        due.is("27: no blanks", Due.family(x, "aunt age007has1 02cousin3;worth0 99;burned15"), 3);
        due.is("27: of(3, 1)", x.of(3, 1), 7);
        due.is("27: of(3, 2)", x.of(3, 2), Due.set(1, 2));
        due.is("27: of(3, 3)", x.of(3, 3), 3);
        due.is("27: worthOf(0)", x.worthOf(0), 99);
        due.is("27: now(1)", x.now(1), Due.set(15));
        due.is("27: many blanks", Due.family(x, "  worth   3  0  ;   burned  0   "), 2);
        due.is("27: worthOf(3)", x.worthOf(3), 0);
        due.is("27: worth 15 15", Due.family(x, "worth 15 15;worth 15 1"), 2);
        due.is("27: worthOf(15)", x.worthOf(15), 1);
        due.is("27: now(1), two", x.now(1), Due.set(0, 15));
        due.is("27: 00000000000000000000007", Due.family(x, "burned 00000000000000000000007"), 1);
        due.is("27: now(1), three", x.now(1), Due.set(0, 7, 15));
        due.is("27: age 0", Due.family(x, "person age 0"), 1);
        due.is("27: status(-1)", x.status(-1), 0);
    }

    private static void comesToWhatThereIs() {
        PocketBorders x = new PocketBorders();
        Due.one(x, 2, 33, Due.set(5));
        x.years(1);
        due.is("27: family()", Due.family(x, "burned 2;aunt;burned 2;worth 5 9;worth 5 8"), 5);
        due.is("27: count(0)", x.count(0), 2);
        due.is("27: of(0, 1)", x.of(0, 1), 34);
        due.is("27: now(0)", x.now(0), 1);
        due.is("27: now(1)", x.now(1), Due.set(2));
        due.is("27: worthOf(5)", x.worthOf(5), 8);
        x.image();
        x.person(3);
        x.set(2, 3, 2);
        x.set(2, 4, 9);
        x.undo();
        Due.family(x, "uncle");
        due.is("27: of(2, 3), one anew", x.of(2, 3), -1);
        due.is("27: of(2, 4), one anew", x.of(2, 4), 0);
    }

    private static void fault(String text, int place) {
        PocketBorders x = new PocketBorders();
        x.person(0);
        String before = Due.seen(x);
        due.is("27: \"" + text + "\"", Due.family(x, text), -1 - place);
        due.same("27: behind \"" + text + "\"", Due.seen(x), before);
        due.is("27: status(-1) behind \"" + text + "\"", x.status(-1), 0);
    }

    private static void faults() {
        fault("", 0);
        fault("   ", 3);
        fault("person;", 7);
        fault("person; ", 8);
        fault(";person", 0);
        fault("person;;person", 7);
        fault("person person", 7);
        fault("7", 0);
        fault("age 7", 0);
        fault("people", 0);
        fault("pers", 0);
        fault("persons", 0);
        fault("person age", 10);
        fault("person age ", 11);
        fault("person age has", 11);
        fault("person age 71", 11);
        fault("person age 7 8", 13);
        fault("person age 7 age 8", 13);
        fault("person has", 10);
        fault("person has cousin 0", 11);
        fault("person has ;", 11);
        fault("person has 16", 11);
        fault("person has 1 16", 13);
        fault("person has 1 2 3 4 5", 19);
        fault("person has 1 2 3 4 99", 19);
        fault("person has 1 age 7", 13);
        fault("person has 1 has 2", 13);
        fault("person cousin", 13);
        fault("person cousin 2", 14);
        fault("person cousin nobody", 14);
        fault("person cousin 1 0", 16);
        fault("person cousin 1 has 3", 16);
        fault("person;person cousin 3", 21);
        fault("worth", 5);
        fault("worth ;", 6);
        fault("worth 16 1", 6);
        fault("worth 1", 7);
        fault("worth 1 100", 8);
        fault("worth 1;", 7);
        fault("worth 1 2 3", 10);
        fault("burned", 6);
        fault("burned x", 7);
        fault("burned 16", 7);
        fault("burned 1 2", 9);
        fault("burned 1 has 2", 9);
        fault("worth 1 2; person age 3; burned 16", 32);
    }

    private static void faultsOfTokens() {
        fault("Person", 0);
        fault("perSon", 0);
        fault("person\t", 6);
        fault("person\n;person", 6);
        fault("person,person", 6);
        fault("person age -7", 11);
        fault("person has 1,2", 12);
        fault("person age x7", 11);
        fault("person `", 7);
        fault("person {", 7);
        fault("person :", 7);
        fault("person /", 7);
        fault("person has 1 /", 13);
        fault("person has 1 :", 13);
        fault("person has `", 11);
        fault("person \u00e9", 7);
        fault("person \0", 7);
        fault("personage 7", 0);
        fault("personz", 0);
        fault("persona", 0);
        fault("zerson", 0);
        fault("person has 0 9 age", 15);
        fault("person age 999", 11);
        fault("person age 1000", 11);
        fault("person age 4294967297", 11);
        fault("worth 1 18446744073709551617", 8);
        fault("person has 999999999999999999999999999", 11);
    }

    private static void ninth() {
        PocketBorders x = new PocketBorders();
        for (int p = 0; p < 6; p++) {
            x.person(0);
        }
        due.is("27: a 7th, an 8th, a 9th", Due.family(x, "aunt;aunt; uncle age 99"), -1 - 11);
        due.is("27: count(0)", x.count(0), 6);
        due.is("27: a 7th, an 8th", Due.family(x, "aunt;aunt cousin 7"), 2);
        due.is("27: a 9th", Due.family(x, "worth 1 50;aunt"), -1 - 11);
        due.is("27: worthOf(1)", x.worthOf(1), 1);
        due.is("27: no more of people", Due.family(x, "worth 1 50"), 1);
        due.is("27: worthOf(1) then", x.worthOf(1), 50);
        due.is("27: a 9th of none", Due.family(x, "ant"), -1);
    }

    private static void faultChangesNothing() {
        PocketBorders x = new PocketBorders();
        x.person(1);
        x.image();
        String before = Due.seen(x);
        due.is("27: a late fault", Due.family(x, "person age 7 has 3 cousin 0;worth 2 9;burned 4;x"), -1 - 47);
        due.same("27: nothing changes", Due.seen(x), before);
        due.is("27: count(1)", x.count(1), 0);
        due.is("27: status(-1)", x.status(-1), 0);
        due.is("27: undo()", x.undo(), 1);
    }

    private static void longTexts() {
        PocketBorders x = new PocketBorders();
        StringBuilder text = new StringBuilder("burned 0");
        for (int i = 1; i < 13; i++) {
            text.append(";burned ").append(i % 10);
        }
        text.append("   ");
        // 13 items: 8 bytes and 12 times 9, and 3 blanks, are 119; one blank more is all that the tape takes.
        due.is("27: 119 bytes", text.length(), 119);
        due.is("27: 13 items", Due.family(x, text.toString()), 13);
        due.is("27: now(1)", x.now(1), 1023);
        due.is("27: 120 bytes", Due.family(x, text + ";"), -1 - 120);
        due.is("27: status(-1)", x.status(-1), 0);
    }

    private static void feedEachNumber() {
        // The bytes of the number are "worth 3 42": what is fed of it goes on with a text or not.
        PocketBorders x = new PocketBorders();
        due.is("25: feed(.., 4)", x.feed(0x776f7274, 4), 4);
        due.is("25: feed(.., 2)", x.feed(0x77776820, 2), 6);
        due.is("25: feed(.., 3)", x.feed(0x34332034, 3), 9);
        due.is("25: feed(.., 1)", x.feed(0x34343432, 1), 10);
        due.is("27: family()", x.family(), 1);
        due.is("27: worthOf(3)", x.worthOf(3), 42);
        // Bytes above 127, which make a number below 0 if they are the highest.
        due.is("25: feed(.., 4), below 0", x.feed(0xe1756e74, 4), 4);
        due.is("27: family(), byte 225", x.family(), -1);
        due.is("25: feed(least, 4)", x.feed(Integer.MIN_VALUE, 4), 4);
        due.is("25: feed(most, 4)", x.feed(Integer.MAX_VALUE, 4), 8);
        due.is("25: feed(-1, 1)", x.feed(-1, 1), 9);
        due.is("27: family(), byte 128", x.family(), -1);
        due.is("25: feed(.., 3), the highest left out", x.feed(0xff202020, 3), 3);
        due.is("25: feed(.., 4), byte 32 above 127", x.feed(0xa0616161, 4), 7);
        due.is("27: family(), byte 160", x.family(), -1 - 3);
        due.is("25: status(-1)", x.status(-1), 0);
    }

    private static void tapeToTheLastByte() {
        for (int n = 1; n <= 4; n++) {
            for (int there = 114; there <= 120; there++) {
                PocketBorders x = new PocketBorders();
                Due.feedText(x, "worth 3 42" + " ".repeat(there - 10));
                boolean room = there + n <= 120;
                due.is("25: feed(.., " + n + "), " + there + " there", x.feed(0x20202020, n),
                    room ? there + n : Due.FULL);
                due.is("25: count(1)", x.count(1), room ? there + n : there);
                due.is("27: family(), " + there + " and " + n, x.family(), 1);
                due.is("27: worthOf(3)", x.worthOf(3), 42);
                due.is("27: count(1)", x.count(1), 0);
            }
        }
        PocketBorders x = new PocketBorders();
        due.is("27: a text of 120 bytes", Due.family(x, " ".repeat(110) + "worth 3 42"), 1);
        due.is("27: worthOf(3), 120 bytes", x.worthOf(3), 42);
        due.is("27: a word of 120 bytes", Due.family(x, "p".repeat(120)), -1);
        due.is("27: a number of 120 bytes", Due.family(x, "worth 3 " + "0".repeat(110) + "42"), 1);
        due.is("27: a number of 112 bytes", Due.family(x, "worth 3 " + "9".repeat(112)), -1 - 8);
        due.is("27: 120 bytes, all blanks", Due.family(x, " ".repeat(120)), -1 - 120);
        due.is("27: 120 signs", Due.family(x, ";".repeat(120)), -1);
        due.is("27: 15 items", Due.family(x, "burned7;".repeat(14) + "burned15"), 15);
        due.is("27: now(1)", x.now(1), Due.set(7, 15));
        due.is("27: 15 items and a sign", Due.family(x, "burned7;".repeat(15)), -1 - 120);
    }

    private static void eightInOneText() {
        for (int there = 0; there <= 8; there++) {
            PocketBorders x = new PocketBorders();
            for (int p = 0; p < there; p++) {
                x.person(1);
            }
            String room = "aunt;".repeat(8 - there);
            due.is("27: a 9th, " + there + " there", Due.family(x, room + "uncle"), -1 - room.length());
            due.is("27: count(0), " + there + " there", x.count(0), there);
            due.is("27: a 9th of a wrong age, " + there + " there", Due.family(x, room + " uncle age 99"),
                -2 - room.length());
            due.is("27: another word, " + there + " there", Due.family(x, room + "nephew"), -1 - room.length());
            due.is("27: eight, " + there + " there", Due.family(x, room + "burned 1"), 9 - there);
            due.is("27: count(0) then", x.count(0), 8);
            due.is("27: of(7, 0)", x.of(7, 0), there == 8 ? 1 : 3);
            due.is("27: now(1)", x.now(1), Due.set(1));
            due.is("27: one more than eight", Due.family(x, "burned 2;person"), -1 - 9);
            due.is("27: now(1) still", x.now(1), Due.set(1));
        }
    }

    private static void cousinsThereByThen() {
        PocketBorders x = new PocketBorders();
        for (int p = 0; p < 8; p++) {
            due.is("27: cousin " + (p + 1), Due.family(x, "aunt cousin " + (p + 1)), -1 - 12);
            due.is("27: cousin " + (p + 1) + " later", Due.family(x, "aunt cousin " + (p + 1) + ";aunt"), -1 - 12);
            due.is("27: count(0)", x.count(0), p);
            due.is("27: cousin " + p + ", itself", Due.family(x, "aunt cousin " + p), 1);
            due.is("27: of(" + p + ", 3)", x.of(p, 3), p);
            due.is("27: of(" + p + ", 1)", x.of(p, 1), 0);
            due.is("27: of(" + p + ", 2)", x.of(p, 2), 0);
        }
        PocketBorders y = new PocketBorders();
        due.is("27: cousin 0 of the second", Due.family(y, "aunt;aunt cousin 0"), 2);
        due.is("27: of(0, 3), nobody", y.of(0, 3), -1);
        due.is("27: of(1, 3)", y.of(1, 3), 0);
        due.is("27: cousin 999", Due.family(y, "aunt cousin 999"), -1 - 12);
    }

    private static void numbersAtTheirEdges() {
        String[] texts = {"person age ", "person has ", "person has 1 2 3 ", "worth ", "worth 3 ", "burned "};
        int[] most = {70, 15, 15, 15, 99, 15};
        for (int i = 0; i < texts.length; i++) {
            String rest = texts[i].equals("worth ") ? " 1" : "";
            for (int v : new int[] {0, 1, most[i] - 1, most[i], most[i] + 1, 100, 127, 256, 999, 1000, 65536}) {
                PocketBorders x = new PocketBorders();
                String text = texts[i] + v + rest;
                boolean may = v <= most[i];
                due.is("27: " + text, Due.family(x, text), may ? 1 : -1 - texts[i].length());
                text = texts[i] + "000" + v + rest;
                due.is("27: " + text, Due.family(x, text), may ? 1 : -1 - texts[i].length());
                due.is("27: count(0) behind " + text, x.count(0), may && texts[i].startsWith("person") ? 2 : 0);
            }
        }
        PocketBorders x = new PocketBorders();
        Due.family(x, "person age 70;person age 0;worth 15 99;worth 0 7;burned 0;burned 15");
        due.is("27: of(0, 1)", x.of(0, 1), 70);
        due.is("27: of(1, 1)", x.of(1, 1), 0);
        due.is("27: worthOf(15)", x.worthOf(15), 99);
        due.is("27: worthOf(0)", x.worthOf(0), 7);
        due.is("27: now(1)", x.now(1), Due.set(0, 15));
    }

    private static void howManyThings() {
        String[] things = {"", " 0", " 0 15", " 0 15 7", " 0 15 7 8", " 0 15 7 8 9"};
        int[] pockets = {0, Due.set(0), Due.set(0, 15), Due.set(0, 7, 15), Due.set(0, 7, 8, 15), 0};
        for (int n = 0; n <= 5; n++) {
            for (String behind : new String[] {"", " cousin 0", ";burned 3"}) {
                PocketBorders x = new PocketBorders();
                String text = "person has" + things[n] + behind;
                int fault = n == 0 ? 10 + (behind.isEmpty() ? 0 : behind.charAt(0) == ' ' ? 1 : 0) : 20;
                boolean may = n >= 1 && n <= 4;
                int items = behind.startsWith(";") ? 2 : 1;
                due.is("27: " + text, Due.family(x, text), may ? items : -1 - fault);
                due.is("27: count(0) behind " + text, x.count(0), may ? 1 : 0);
                due.is("27: of(0, 2) behind " + text, may ? x.of(0, 2) : 0, pockets[n]);
            }
        }
        PocketBorders x = new PocketBorders();
        due.is("27: the same four times", Due.family(x, "person has 3 3 3 3"), 1);
        due.is("27: of(0, 2)", x.of(0, 2), Due.set(3));
        due.is("27: the same five times", Due.family(x, "person has 3 3 3 3 3"), -1 - 19);
    }

    /** Each byte by itself, behind a name, behind a number and between two: which it ends, goes on with, or begins. */
    private static void anyByte() {
        for (int b = 0; b < 256; b++) {
            boolean blank = b == ' ';
            boolean letter = b >= 'a' && b <= 'z';
            boolean digit = b >= '0' && b <= '9';
            boolean sign = b == ';';
            String byteB = String.valueOf((char) b);
            PocketBorders x = new PocketBorders();
            due.is("27: byte " + b, Due.family(x, byteB), blank ? -1 - 1 : -1);
            due.is("27: person, byte " + b, Due.family(x, "person" + byteB), blank ? 1 : letter ? -1 : sign ? -8 : -7);
            int behindNumber = blank || digit && b <= '5' ? 1 : digit ? -8 : sign ? -10 : -9;
            due.is("27: burned 1, byte " + b, Due.family(x, "burned 1" + byteB), behindNumber);
            int between = blank ? 1 : digit ? -7 : -8;
            due.is("27: worth 1, byte " + b + ", 2", Due.family(x, "worth 1" + byteB + "2"), between);
        }
    }

    private static void endsTooEarly() {
        String[] texts = {"", "person;", "person age", "person has", "person cousin", "person age 7 has", "worth",
            "person has 1 cousin", "worth 1", "burned", "person;worth", "burned 1;", "worth 1 2;"};
        for (String text : texts) {
            for (int blanks = 0; blanks < 3; blanks++) {
                PocketBorders x = new PocketBorders();
                String whole = text + " ".repeat(blanks);
                due.is("27: \"" + whole + "\"", Due.family(x, whole), -1 - whole.length());
                due.is("27: count(0)", x.count(0), 0);
                due.is("27: count(1)", x.count(1), 0);
                due.is("27: now(1)", x.now(1), 0);
                due.is("27: worthOf(1)", x.worthOf(1), 1);
            }
        }
    }

    private static void whatATextLeaves() {
        PocketBorders x = Crowd.of(2);
        due.is("27: a fault", Due.family(x, "2;person age 7 has 3 cousin 0;burned 4;worth 5 100"), -1 - 56);
        PocketBorders twin = Crowd.of(2);
        twin.wipe();
        due.is("27: status(-1), no finding", x.status(-1), 0);
        due.same("27: all but the tape is as it was", Crowd.whole(x), Crowd.whole(twin));
        PocketBorders y = Crowd.of(2);
        due.is("27: no fault", Due.family(y, "2;person age 7 has 3 cousin 0;burned 4;worth 5 99"), 4);
        PocketBorders other = Crowd.of(2);
        other.wipe();
        other.worth(3, 42);
        Due.one(other, 0, 7, Due.set(3));
        other.set(2, 3, 0);
        Due.family(other, "burned 4");
        other.worth(5, 99);
        due.is("27: status(-1)", y.status(-1), 0);
        due.same("27: what comes by itself", Crowd.whole(y), Crowd.whole(other));
    }

    /** A text is not made longer by bytes that stood there ahead of it. */
    private static void nothingIsLeftOfATape() {
        String[] rows = {"person|pers", "hider|hide", "serious|s", "aunt|aun", "swallower|swallow", "uncle|unc",
            "person age 7|person ag", "person has 1|person ha", "person cousin 0|person cous", "worth 1 2|wort",
            "burned 1|burn"};
        for (String row : rows) {
            String[] texts = row.split("\\|");
            int fault = texts[1].lastIndexOf(' ') + 1;
            PocketBorders x = new PocketBorders();
            Due.feedText(x, texts[0]);
            x.wipe();
            due.is("26: " + texts[1] + " where " + texts[0] + " was wiped", Due.family(x, texts[1]), -1 - fault);
            due.is("27: " + texts[0], Due.family(x, texts[0]), 1);
            due.is("27: " + texts[1] + " where " + texts[0] + " was read", Due.family(x, texts[1]), -1 - fault);
            Due.family(x, texts[0] + "?");
            due.is("27: " + texts[1] + " behind a fault", Due.family(x, texts[1]), -1 - fault);
        }
        PocketBorders x = new PocketBorders();
        Due.family(x, "worth 1 23");
        due.is("27: worth 1 2", Due.family(x, "worth 1 2"), 1);
        due.is("27: worthOf(1)", x.worthOf(1), 2);
        due.is("27: worth 1", Due.family(x, "worth 1"), -1 - 7);
        due.is("27: worth", Due.family(x, "worth"), -1 - 5);
        due.is("27: nothing", x.family(), -1);
    }
}
