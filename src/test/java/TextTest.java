/** Promises 25 to 27: the tape and the text of a family. */
public final class TextTest {
    private static final Due due = new Due();

    public static void main(String[] args) {
        feed();
        wipe();
        items();
        comesToWhatThereIs();
        faults();
        faultsOfTokens();
        ninth();
        faultChangesNothing();
        longTexts();
        due.end();
    }

    private static void feed() {
        PocketBorders x = new PocketBorders();
        due.is("25: feed(.., 0)", x.feed(1, 0), Due.BEYOND);
        due.is("25: feed(.., 5)", x.feed(1, 5), Due.BEYOND);
        due.is("25: feed(.., -1)", x.feed(1, -1), Due.BEYOND);
        due.is("25: feed, 4 bytes", x.feed('a' << 24 | 'u' << 16 | 'n' << 8 | 't', 4), 4);
        due.is("25: feed, 3 of 4 bytes", x.feed('z' << 24 | ' ' << 16 | 'h' << 8 | 'a', 3), 7);
        due.is("25: feed, 1 of 4 bytes", x.feed('z' << 24 | 'z' << 16 | 'z' << 8 | 's', 1), 8);
        due.is("25: feed, 2 bytes", x.feed('1' << 8 | '2', 2), 10);
        due.is("25: family()", x.family(), 1);
        due.is("25: of(0, 0)", x.of(0, 0), 3);
        due.is("25: of(0, 2)", x.of(0, 2), Due.set(12));
        for (int i = 0; i < 29; i++) {
            x.feed(0x20202020, 4);
        }
        due.is("25: count(1)", x.count(1), 116);
        due.is("25: feed, 3 to 119", x.feed(0, 3), 119);
        due.is("25: feed, 2 to 121", x.feed(0, 2), Due.FULL);
        due.is("25: feed, 5 to 124", x.feed(0, 5), Due.BEYOND);
        due.is("25: count(1) still", x.count(1), 119);
        due.is("25: feed, 1 to 120", x.feed(0, 1), 120);
        due.is("25: feed, 1 to 121", x.feed(0, 1), Due.FULL);
        due.is("26: wipe()", x.wipe(), 120);
        due.is("25: feed, again", x.feed(-1, 4), 4);
    }

    private static void wipe() {
        PocketBorders x = new PocketBorders();
        x.feed(0, 3);
        due.is("26: wipe()", x.wipe(), 3);
        due.is("26: wipe() again", x.wipe(), 0);
        due.is("26: count(1)", x.count(1), 0);
        due.is("26: family() behind it", Due.family(x, "person"), 1);
    }

    private static void items() {
        String[] kinds = {"person", "hider", "serious", "aunt", "swallower", "uncle"};
        for (int kind = 0; kind < 6; kind++) {
            PocketBorders x = new PocketBorders();
            due.is("27: " + kinds[kind], Due.family(x, kinds[kind]), 1);
            due.is("27: of(0, 0), " + kinds[kind], x.of(0, 0), kind);
        }
        PocketBorders x = new PocketBorders();
        due.is("27: a whole one", Due.family(x, "hider age 70 has 0 15 3 4 cousin 0"), 1);
        due.is("27: of(0, 1)", x.of(0, 1), 70);
        due.is("27: of(0, 2)", x.of(0, 2), Due.set(0, 3, 4, 15));
        due.is("27: of(0, 3)", x.of(0, 3), 0);
        due.is("27: of(0, 4)", x.of(0, 4), 0);
        due.is("27: count(1)", x.count(1), 0);
        due.is("27: two, to the one before", Due.family(x, "aunt cousin 0;uncle has 7 7 cousin 1"), 2);
        due.is("27: of(1, 3)", x.of(1, 3), 0);
        due.is("27: of(2, 3)", x.of(2, 3), 1);
        due.is("27: of(2, 2)", x.of(2, 2), Due.set(7));
        due.is("27: no blanks", Due.family(x, "aunt age007has1 02cousin3;worth0 99;burned15"), 3);
        due.is("27: of(3, 1)", x.of(3, 1), 7);
        due.is("27: of(3, 2)", x.of(3, 2), Due.set(1, 2));
        due.is("27: of(3, 3)", x.of(3, 3), 3);
        due.is("27: worthOf(0)", x.worthOf(0), 99);
        due.is("27: now(1)", x.now(1), Due.set(15));
        due.is("27: many blanks", Due.family(x, "  worth   3  0  ;   burned  0   "), 2);
        due.is("27: worthOf(3)", x.worthOf(3), 0);
        due.is("27: worth 15 15", Due.family(x, "worth 15 15;worth 15 1"), 2);
        due.is("27: worthOf(15)", x.worthOf(15), 1);
        due.is("27: now(1), two", x.now(1), Due.set(0, 15));
        due.is("27: 00000000000000000000007", Due.family(x, "burned 00000000000000000000007"), 1);
        due.is("27: now(1), three", x.now(1), Due.set(0, 7, 15));
        due.is("27: age 0", Due.family(x, "person age 0"), 1);
        due.is("27: status(-1)", x.status(-1), 0);
    }

    private static void comesToWhatThereIs() {
        PocketBorders x = new PocketBorders();
        Due.one(x, 2, 33, Due.set(5));
        x.years(1);
        due.is("27: family()", Due.family(x, "burned 2;aunt;burned 2;worth 5 9;worth 5 8"), 5);
        due.is("27: count(0)", x.count(0), 2);
        due.is("27: of(0, 1)", x.of(0, 1), 34);
        due.is("27: now(0)", x.now(0), 1);
        due.is("27: now(1)", x.now(1), Due.set(2));
        due.is("27: worthOf(5)", x.worthOf(5), 8);
        x.image();
        x.person(3);
        x.set(2, 3, 2);
        x.set(2, 4, 9);
        x.undo();
        Due.family(x, "uncle");
        due.is("27: of(2, 3), one anew", x.of(2, 3), -1);
        due.is("27: of(2, 4), one anew", x.of(2, 4), 0);
    }

    private static void fault(String text, int place) {
        PocketBorders x = new PocketBorders();
        x.person(0);
        String before = Due.seen(x);
        due.is("27: \"" + text + "\"", Due.family(x, text), -1 - place);
        due.same("27: behind \"" + text + "\"", Due.seen(x), before);
        due.is("27: status(-1) behind \"" + text + "\"", x.status(-1), 0);
    }

    private static void faults() {
        fault("", 0);
        fault("   ", 3);
        fault("person;", 7);
        fault("person; ", 8);
        fault(";person", 0);
        fault("person;;person", 7);
        fault("person person", 7);
        fault("7", 0);
        fault("age 7", 0);
        fault("people", 0);
        fault("pers", 0);
        fault("persons", 0);
        fault("person age", 10);
        fault("person age ", 11);
        fault("person age has", 11);
        fault("person age 71", 11);
        fault("person age 7 8", 13);
        fault("person age 7 age 8", 13);
        fault("person has", 10);
        fault("person has cousin 0", 11);
        fault("person has ;", 11);
        fault("person has 16", 11);
        fault("person has 1 16", 13);
        fault("person has 1 2 3 4 5", 19);
        fault("person has 1 2 3 4 99", 19);
        fault("person has 1 age 7", 13);
        fault("person has 1 has 2", 13);
        fault("person cousin", 13);
        fault("person cousin 2", 14);
        fault("person cousin nobody", 14);
        fault("person cousin 1 0", 16);
        fault("person cousin 1 has 3", 16);
        fault("person;person cousin 3", 21);
        fault("worth", 5);
        fault("worth ;", 6);
        fault("worth 16 1", 6);
        fault("worth 1", 7);
        fault("worth 1 100", 8);
        fault("worth 1;", 7);
        fault("worth 1 2 3", 10);
        fault("burned", 6);
        fault("burned x", 7);
        fault("burned 16", 7);
        fault("burned 1 2", 9);
        fault("burned 1 has 2", 9);
        fault("worth 1 2; person age 3; burned 16", 32);
    }

    private static void faultsOfTokens() {
        fault("Person", 0);
        fault("perSon", 0);
        fault("person\t", 6);
        fault("person\n;person", 6);
        fault("person,person", 6);
        fault("person age -7", 11);
        fault("person has 1,2", 12);
        fault("person age x7", 11);
        fault("person `", 7);
        fault("person {", 7);
        fault("person :", 7);
        fault("person /", 7);
        fault("person has 1 /", 13);
        fault("person has 1 :", 13);
        fault("person has `", 11);
        fault("person \u00e9", 7);
        fault("person \0", 7);
        fault("personage 7", 0);
        fault("personz", 0);
        fault("persona", 0);
        fault("zerson", 0);
        fault("person has 0 9 age", 15);
        fault("person age 999", 11);
        fault("person age 1000", 11);
        fault("person age 4294967297", 11);
        fault("worth 1 18446744073709551617", 8);
        fault("person has 999999999999999999999999999", 11);
    }

    private static void ninth() {
        PocketBorders x = new PocketBorders();
        for (int p = 0; p < 6; p++) {
            x.person(0);
        }
        due.is("27: a 7th, an 8th, a 9th", Due.family(x, "aunt;aunt; uncle age 99"), -1 - 11);
        due.is("27: count(0)", x.count(0), 6);
        due.is("27: a 7th, an 8th", Due.family(x, "aunt;aunt cousin 7"), 2);
        due.is("27: a 9th", Due.family(x, "worth 1 50;aunt"), -1 - 11);
        due.is("27: worthOf(1)", x.worthOf(1), 1);
        due.is("27: no more of people", Due.family(x, "worth 1 50"), 1);
        due.is("27: worthOf(1) then", x.worthOf(1), 50);
        due.is("27: a 9th of none", Due.family(x, "ant"), -1);
    }

    private static void faultChangesNothing() {
        PocketBorders x = new PocketBorders();
        x.person(1);
        x.image();
        String before = Due.seen(x);
        due.is("27: a late fault", Due.family(x, "person age 7 has 3 cousin 0;worth 2 9;burned 4;x"), -1 - 47);
        due.same("27: nothing changes", Due.seen(x), before);
        due.is("27: count(1)", x.count(1), 0);
        due.is("27: status(-1)", x.status(-1), 0);
        due.is("27: undo()", x.undo(), 1);
    }

    private static void longTexts() {
        PocketBorders x = new PocketBorders();
        StringBuilder text = new StringBuilder("burned 0");
        for (int i = 1; i < 13; i++) {
            text.append(";burned ").append(i % 10);
        }
        text.append("   ");
        // 13 items: 8 bytes and 12 times 9, and 3 blanks, are 119; one blank more is all that the tape takes.
        due.is("27: 119 bytes", text.length(), 119);
        due.is("27: 13 items", Due.family(x, text.toString()), 13);
        due.is("27: now(1)", x.now(1), 1023);
        due.is("27: 120 bytes", Due.family(x, text + ";"), -1 - 120);
        due.is("27: status(-1)", x.status(-1), 0);
    }
}
