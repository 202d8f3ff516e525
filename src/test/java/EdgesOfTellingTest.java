import java.util.function.Supplier;

/**
 * What is told: sentence by sentence of "Terms" down to the KINDS, and of "Promise 1" to "Promise 3",
 * at the edge that the sentence names, just beneath it and just above it. The sentence stands in each remark.
 */
public final class EdgesOfTellingTest {
    private static final String ONE = "pp0,0,0,0;";
    private static final String DIGITS = "0123456789";
    private static final String BEGINS = "pkwsro";

    private static final Checks C = new Checks();
    private static final Scenes SCENES = new Scenes(C);

    public static void main(String[] args) {
        newObject();
        people();
        peopleMost();
        wakesTold();
        takesAndCostTold();
        dueTold();
        kindsTold();
        keysTold();
        keysMost();
        watchersTold();
        walkTold();
        rowOrRing();
        letters();
        lettersMost();
        statements();
        statementsHowMany();
        faultOfLetterAnywhere();
        faultOfLetterAtTheEdges();
        faultOfLetterFirst();
        faultOfStatement();
        noSuchPersonAhead();
        noRoomForMore();
        allOfItOrNothing();
        C.end("EdgesOfTellingTest");
    }

    private static void due(String call, long got, long want) {
        C.due(call, got, want);
    }

    /** The text is told on an object that holds the town. */
    private static LockedInByNext told(String town, String text, int want) {
        LockedInByNext x = Checks.told(town);
        due("town() of " + text + " behind " + town, Checks.tell(x, text), want);
        return x;
    }

    private static void fault(String town, String text, int want) {
        SCENES.asked(() -> Checks.told(town), "town() of " + text + " behind " + town, want,
                x -> Checks.tell(x, text));
    }

    private static void numbers(LockedInByNext x, int first, int... want) {
        for (int i = 0; i < want.length; i++) {
            due("count(" + (first + i) + ")", x.count(first + i), want[i]);
        }
    }

    /** Promise 1: "Nobody." */
    private static void newObject() {
        C.part("1, Nobody");
        LockedInByNext x = new LockedInByNext();
        numbers(x, -1, -9, 0, 0, 0, 1, 0, 0, 0, -9, -9, -9, -9, 0, 0, 0, 0, 0, 0, -9);
        int[] empty = {x.all(), x.late(), x.fewest(0), x.fewest(1), x.soonest(0), x.soonest(1), x.copies(0),
            x.rings(), x.breaking(0), x.breaking(1), x.overslept(), x.seeds(1, 9), x.watch(0)};
        for (int i = 0; i < empty.length; i++) {
            due("of nobody, " + i, empty[i], 0);
        }
        due("swap()", x.swap(), -9);
        due("judge()", x.judge(), -9);
        due("town()", x.town(), -1000);
        numbers(x, 11, 0, 0, 0, 0, 0, 0);
        int[] nobody = {x.person(0, 0), x.key(0, 0), x.out(0), x.by(0), x.gone(0), x.fire(0, 0), x.lose(0)};
        for (int i = 0; i < nobody.length; i++) {
            due("nobody, " + i, nobody[i], -1);
        }
        due("copy()", x.copy(), -3);
        due("on()", x.on(), -3);
        numbers(x, 11, 7, 0, 2, 0, 0, 0);
        Checks.told("pp1,2,3,4;k00;w0;s9;r;").image();
        due("another object's image", new LockedInByNext().on(), -3);
    }

    /** Terms: "PEOPLE 0 .. 6 as they come". */
    private static void people() {
        C.part("Terms, PEOPLE 0 .. 6 as they come");
        LockedInByNext x = told("pp11,1,111,1;", "pq12,2,112,2;ps13,3,113,3;pt14,4,114,4;pb15,5,115,5;", 4);
        due("two more", Checks.tell(x, "ph16,6,116,6;pp17,7,117,7;"), 2);
        for (int p = 0; p < 7; p++) {
            for (int what = 0; what < 5; what++) {
                int[] want = {p % 6, 11 + p, 1 + p, 111 + p, 1 + p};
                due("person(" + p + ", " + what + ")", x.person(p, what), want[what]);
            }
        }
        due("person(7, 0)", x.person(7, 0), -1);
    }

    /** Terms: "(7 at most)". */
    private static void peopleMost() {
        C.part("Terms, 7 PEOPLE at most");
        for (int there = 0; there <= 7; there++) {
            for (int more = 1; more <= 8; more++) {
                int all = there + more;
                LockedInByNext x = told(ONE.repeat(there), ONE.repeat(more),
                        all <= 7 ? more : -2000 - 10 * (7 - there));
                due("people behind " + there + " and " + more, x.count(0), all <= 7 ? all : there);
            }
        }
        LockedInByNext last = told(ONE.repeat(6), "ph98,7,654,3;k66;w6;", 3);
        int[] want = {5, 98, 7, 654, 3, 98, 3, 1};
        for (int what = 0; what < 8; what++) {
            due("the seventh, " + what, last.person(6, what), want[what]);
        }
    }

    private static void onePerson(String text, int what, int want) {
        due(text + " person(0, " + what + ")", told("", text, 1).person(0, what), want);
    }

    /** Terms: "WAKES (minute 0 .. 99)", "WAKES (1 or 2 digits)", "Numbers may begin with 0". */
    private static void wakesTold() {
        C.part("Terms, WAKES 0 .. 99, 1 or 2 digits, may begin with 0");
        for (int w = 0; w <= 99; w++) {
            onePerson("pp" + w + ",1,2,3;", 1, w);
            onePerson("pp" + w / 10 + w % 10 + ",1,2,3;", 1, w);
        }
        fault("", "pp,1,2,3;", -1002);
        fault("", "pp100,1,2,3;", -1004);
        fault("", "pp099,1,2,3;", -1004);
        fault("", "pp000,1,2,3;", -1004);
    }

    /** Terms: "TAKES (0 .. 9 minutes at a door)", "TAKES (a digit)", "COST (0 .. 9)", "COST (a digit)". */
    private static void takesAndCostTold() {
        C.part("Terms, TAKES and COST 0 .. 9, a digit");
        for (int v = 0; v <= 9; v++) {
            onePerson("pp1," + v + ",3,4;", 2, v);
            onePerson("pp1,2,3," + v + ";", 4, v);
        }
        fault("", "pp1,,3,4;", -1004);
        fault("", "pp1,10,3,4;", -1005);
        fault("", "pp1,00,3,4;", -1005);
        fault("", "pp1,2,3,;", -1008);
        fault("", "pp1,2,3,10;", -1009);
        fault("", "pp1,2,3,00;", -1009);
    }

    /** Terms: "DUE (minute 0 .. 999)", "DUE (1 to 3 digits)", "Numbers may begin with 0". */
    private static void dueTold() {
        C.part("Terms, DUE 0 .. 999, 1 to 3 digits, may begin with 0");
        for (int d = 0; d <= 999; d++) {
            onePerson("pp1,2," + d + ",4;", 3, d);
            onePerson("pp1,2," + d / 100 + d / 10 % 10 + d % 10 + ",4;", 3, d);
        }
        onePerson("pp1,2,00,4;", 3, 0);
        onePerson("pp1,2,09,4;", 3, 9);
        fault("", "pp1,2,,4;", -1006);
        fault("", "pp1,2,1000,4;", -1009);
        fault("", "pp1,2,0999,4;", -1009);
    }

    /** Promise 4: "0 KIND (0 p, 1 q, 2 s, 3 t, 4 b, 5 h)". */
    private static void kindsTold() {
        C.part("4, KIND 0 p, 1 q, 2 s, 3 t, 4 b, 5 h");
        for (int c = 0; c <= 255; c++) {
            int kind = c == 0 ? -1 : "pqstbh".indexOf((char) c);
            String text = "p" + (char) c + "1,2,3,4;";
            if (kind < 0) {
                told("", text, -1001);
            } else {
                onePerson(text, 0, kind);
            }
        }
    }

    /** Terms: "KEYS: of whose DOOR, by whom HELD (may be the same)"; "\"k\" DOOR, HELD (a digit each)". */
    private static void keysTold() {
        C.part("Terms, KEYS: DOOR, HELD (may be the same)");
        for (int door = 0; door < 7; door++) {
            for (int held = 0; held < 7; held++) {
                LockedInByNext x = told(ONE.repeat(7), "k" + door + held + ";", 1);
                due("key(0, 0)", x.key(0, 0), door);
                due("key(0, 1)", x.key(0, 1), held);
                due("keys", x.count(1), 1);
            }
        }
        due("all alike", told(ONE.repeat(7), "k66;k66;k66;", 3).count(1), 3);
    }

    /** Terms: "KEYS (10 at most)". */
    private static void keysMost() {
        C.part("Terms, 10 KEYS at most");
        for (int there = 0; there <= 10; there++) {
            for (int more = 1; more <= 11; more++) {
                int all = there + more;
                LockedInByNext x = told(ONE + "k00;".repeat(there), "k00;".repeat(more),
                        all <= 10 ? more : -2000 - 4 * (10 - there));
                due("keys behind " + there + " and " + more, x.count(1), all <= 10 ? all : there);
            }
        }
        LockedInByNext x = told(ONE + ONE + "k00;".repeat(9), "k10;", 1);
        due("door of the tenth", x.key(9, 0), 1);
        due("its holder", x.key(9, 1), 0);
    }

    /** Terms: "WATCHERS (bits of PEOPLE; none at first)"; "\"w\" a PERSON: a WATCHER (told again: none)". */
    private static void watchersTold() {
        C.part("Terms, WATCHERS none at first; told again: none");
        String seven = ONE.repeat(7);
        due("none at first", Checks.told(seven).count(2), 0);
        for (int p = 0; p < 7; p++) {
            String w = "w" + p + ";";
            due("told once", told(seven, w, 1).count(2), 1 << p);
            due("told twice", told(seven, w + w, 2).count(2), 0);
            due("told thrice", told(seven, w + w + w, 3).count(2), 1 << p);
            LockedInByNext x = told(seven + w, w, 1);
            due("told again in another text", x.count(2), 0);
            due("and again", Checks.tell(x, w), 1);
            due("then", x.count(2), 1 << p);
            due("it alone changes", told(seven + "w0;w3;w6;", w, 1).count(2), 73 ^ 1 << p);
        }
        due("all", told(seven, "w0;w1;w2;w3;w4;w5;w6;", 7).count(2), 127);
        due("a PERSON more is none", told(ONE + "w0;", ONE, 1).count(2), 1);
    }

    /** Terms: "WALK (0 .. 9 minutes from house to house: 1 at first)"; "\"s\" WALK (a digit)". */
    private static void walkTold() {
        C.part("Terms, WALK 0 .. 9: 1 at first");
        due("at first", new LockedInByNext().count(3), 1);
        due("with PEOPLE", Checks.told(ONE + "r;").count(3), 1);
        for (int v = 0; v <= 9; v++) {
            due("s" + v, told("", "s" + v + ";", 1).count(3), v);
            due("the last counts", told("s5;", "s8;s" + v + ";", 2).count(3), v);
        }
        fault("", "s;", -1001);
        fault("", "s10;", -1002);
        fault("", "s00;", -1002);
    }

    /** Terms: "a ROW (at first) or a RING"; "\"r\" (a RING), \"o\" (a ROW)". */
    private static void rowOrRing() {
        C.part("Terms, a ROW (at first) or a RING");
        due("at first", new LockedInByNext().count(4), 0);
        due("r", told("", "r;", 1).count(4), 1);
        due("r again", told("r;", "r;", 1).count(4), 1);
        due("o", told("r;", "o;", 1).count(4), 0);
        due("o at first", told("", "o;", 1).count(4), 0);
        due("o, r", told("", "o;r;", 2).count(4), 1);
        due("r, o", told("", "r;o;", 2).count(4), 0);
    }

    /** Promise 2: "A letter (0 .. 255) comes: how many there are." */
    private static void letters() {
        C.part("2, A letter comes: how many there are");
        for (int c = 0; c <= 255; c++) {
            LockedInByNext x = new LockedInByNext();
            due("letter(114)", x.letter('r'), 1);
            due("letter(" + c + ")", x.letter(c), 2);
            due("count(6)", x.count(6), 2);
            due("town(), it is kept", x.town(), c == ';' ? 1 : -1001);
            due("letter(" + c + ") anew", x.letter(c), 1);
            numbers(x, 11, 0, 0, 0, 0, 0, 0);
        }
    }

    /** Terms: "(80 at most)". */
    private static void lettersMost() {
        C.part("Terms, 80 letters at most");
        LockedInByNext x = new LockedInByNext();
        for (int n = 1; n <= 80; n++) {
            due("letter " + n, x.letter("o;".charAt((n - 1) % 2)), n);
            due("count(6)", x.count(6), n);
        }
        due("the 81st", x.letter(';'), -6);
        due("the 82nd", x.letter('o'), -6);
        due("count(6)", x.count(6), 80);
        due("all eighty", x.town(), 40);
        due("count(6)", x.count(6), 0);
        due("the first anew", x.letter('o'), 1);
        due("79", told("", "s0;" + "r;".repeat(38), 39).count(4), 1);
        due("80, the last lacks its end", told("", "r;".repeat(38) + "s7;r", -1080).count(3), 1);
        due("80, the last counts", told("", "s0;s1;" + "r;".repeat(34) + "s3;s7;", 38).count(3), 7);
    }

    /** How a STATEMENT has come so far, and which letters can follow; all that a TOWN can come to. */
    private static final String[][] SO_FAR = {
        {"", BEGINS}, {"p", "pqstbh"}, {"pq", DIGITS}, {"ps0", DIGITS + ","}, {"pt99", ","}, {"pb7,", DIGITS},
        {"ph77,", DIGITS}, {"pp7,8", ","}, {"pp7,8,", DIGITS}, {"pp7,8,0", DIGITS + ","}, {"pp7,8,00", DIGITS + ","},
        {"pp7,8,999", ","}, {"pp7,8,9,", DIGITS}, {"pp7,8,99,", DIGITS}, {"pp7,8,999,", DIGITS},
        {"pp7,8,999,0", ";"}, {"pp77,8,999,9", ";"}, {"k", DIGITS}, {"k0", DIGITS}, {"k9", DIGITS}, {"k00", ";"},
        {"k99", ";"}, {"w", DIGITS}, {"w0", ";"}, {"w9", ";"}, {"s", DIGITS}, {"s0", ";"}, {"s9", ";"}, {"r", ";"},
        {"o", ";"}};

    /**
     * Terms: "kind 1 the place of the first letter with which no TOWN can go on (the end, if something lacks):
     * -1000 less the place": each letter behind each part of a STATEMENT.
     */
    private static void faultOfLetterAnywhere() {
        C.part("Terms, FAULT of kind 1, each letter behind each part");
        for (String ahead : new String[] {"", "r;", "s3;w0;"}) {
            for (String[] part : SO_FAR) {
                String text = ahead + part[0];
                for (int c = 0; c <= 255; c++) {
                    if (c == 0 || part[1].indexOf((char) c) < 0) {
                        told(ONE, text + (char) c, -1000 - text.length());
                        continue;
                    }
                    if (c != ';') {
                        told(ONE, text + (char) c, -1000 - text.length() - 1);
                    }
                }
            }
        }
    }

    /** Terms: "STATEMENTS, each with \";\" behind", "(the end, if something lacks)", "At least one STATEMENT." */
    private static void statements() {
        C.part("Terms, STATEMENTS, each with \";\" behind; at least one; the end, if something lacks");
        fault("", "", -1000);
        fault(ONE, "", -1000);
        for (String s : new String[] {ONE, "pt99,9,999,9;", "k00;", "w0;", "s0;", "r;", "o;"}) {
            told(ONE, s, 1);
            told(ONE, s + s, 2);
            for (int end = 0; end < s.length(); end++) {
                String part = s.substring(0, end);
                fault(ONE, part, -1000 - end);
                if (end > 0) {
                    fault(ONE, "r;" + part, -1002 - end);
                    fault(ONE, part + "x", -1000 - end);
                }
            }
            fault(ONE, s + ";", -1000 - s.length());
            fault(ONE, s + s + "x" + s, -1000 - 2 * s.length());
        }
    }

    /** Promise 3: "how many STATEMENTS". */
    private static void statementsHowMany() {
        C.part("3, how many STATEMENTS");
        for (int n = 1; n <= 40; n++) {
            told("", "r;".repeat(n), n);
        }
        for (int n = 1; n <= 26; n++) {
            told(ONE, "w0;".repeat(n), n);
        }
        told("", ONE + "k00;w0;s4;r;o;", 6);
    }

    /** Terms: "the place of the first letter": places 0, 1, .., 79, and the end at 80. */
    private static void faultOfLetterAtTheEdges() {
        C.part("Terms, FAULT of kind 1, places 0 .. 80");
        for (int n = 0; n < 40; n++) {
            fault("", "r;".repeat(n) + "x", -1000 - 2 * n);
            fault("", "r;".repeat(n) + "r", -1000 - 2 * n - 1);
            fault("", "r;".repeat(n) + "rx", -1000 - 2 * n - 1);
        }
        fault("", "r;".repeat(38) + "o;oo", -1079);
        fault("", "r;".repeat(39) + "oo", -1079);
        fault("", "r;".repeat(39) + "s0", -1080);
        fault("", ONE.repeat(7) + "pp00,0,00", -1079);
        fault("", ONE.repeat(7) + "pp00,0,0,0", -1080);
    }

    /** Terms: "FAULT: kind 1 ..; else kind 2". */
    private static void faultOfLetterFirst() {
        C.part("Terms, FAULT: kind 1, else kind 2");
        fault("", "k00;", -2000);
        fault("", "k00;k", -1005);
        fault("", "k00;x", -1004);
        fault("", "k00;s10;", -1006);
        fault("", "w9;w8;w7", -1008);
        fault("", ONE.repeat(7) + "pp0,0,0,", -1078);
    }

    /** Terms: "kind 2 the place of the first letter of the first STATEMENT that .. is not as it must be". */
    private static void faultOfStatement() {
        C.part("Terms, FAULT of kind 2, places");
        for (int n = 0; n < 26; n++) {
            fault("", "s4;".repeat(n) + "w0;", -2000 - 3 * n);
            fault(ONE, "s4;".repeat(n) + "w1;", -2000 - 3 * n);
        }
        fault("", "r;".repeat(38) + "k00;", -2076);
        fault("", "r;s0;" + "r;".repeat(36) + "w0;", -2077);
        fault(ONE, "w0;w1;w2;", -2003);
        fault(ONE, "k00;k10;w7;", -2004);
        fault(ONE, "r;" + "k00;".repeat(11) + "w9;", -2042);
        fault(ONE.repeat(6), ONE + ONE + "w9;", -2010);
        fault(ONE, "w1;" + ONE.repeat(7), -2000);
    }

    /** Terms: "behind all ahead of it in the text .. (a number out of range, no such PERSON ahead of it ..)". */
    private static void noSuchPersonAhead() {
        C.part("Terms, FAULT of kind 2, no such PERSON ahead of it");
        for (int there = 0; there <= 7; there++) {
            String town = ONE.repeat(there);
            for (int a = 0; a <= 9; a++) {
                told(town, "w" + a + ";", a < there ? 1 : -2000);
                told(town, "s" + a + ";", 1);
                for (int b = 0; b <= 9; b++) {
                    told(town, "k" + a + b + ";", a < there && b < there ? 1 : -2000);
                }
            }
            if (there < 7) {
                told(town, ONE + "w" + there + ";", 2);
                told(town, ONE + "k" + there + there + ";", 2);
                fault(town, "w" + there + ";" + ONE, -2000);
                fault(town, "k" + there + "0;" + ONE, -2000);
                fault(town, "k0" + there + ";" + ONE, -2000);
                fault(town, ONE + "w" + (there + 1) + ";", -2010);
                fault(town, ONE + "k0" + (there + 1) + ";", -2010);
                fault(town, ONE + "k" + (there + 1) + "0;", -2010);
            }
        }
    }

    /** Terms: "no room for more": as it is with what has come ahead of the text, too. */
    private static void noRoomForMore() {
        C.part("Terms, FAULT of kind 2, no room for more");
        fault(ONE.repeat(7), ONE, -2000);
        fault(ONE.repeat(7), "r;s0;" + ONE, -2005);
        fault(ONE.repeat(6), ONE + "o;" + ONE, -2012);
        fault(ONE + "k00;".repeat(10), "k00;", -2000);
        fault(ONE + "k00;".repeat(9), "w0;k00;k00;", -2007);
        LockedInByNext x = Checks.told(ONE + "k00;".repeat(10));
        x.lose(4);
        due("room again", Checks.tell(x, "k00;"), 1);
        due("and no more", Checks.tell(x, "k00;"), -2000);
    }

    private static LockedInByNext without(Supplier<LockedInByNext> scene) {
        LockedInByNext x = scene.get();
        x.town();
        return x;
    }

    /**
     * Terms: "Without FAULT all of it comes, with one nothing."
     * Promise 3: "The letters .. are no more (with a FAULT neither)"; "the FAULT (nothing is counted)".
     */
    private static void allOfItOrNothing() {
        C.part("Terms, without FAULT all of it comes, with one nothing; 3, letters are no more, nothing is counted");
        String all = "pq1,2,3,4;k30;k03;w3;s6;r;";
        LockedInByNext x = without(Scenes.SOME);
        String before = Checks.stateOf(x);
        due("all of it", Checks.tell(x, all), 6);
        C.due("state", Checks.stateOf(x), "4 4 10 6 1 3 0 | 3 8 7 6 5 8 7 0 | 0 10 2 20 1 10 2 1 "
                + "| 2 20 3 40 2 40 3 0 | 1 1 2 3 4 1 1 1 / 0 0 / 2 1 / 3 0 / 0 3 ");
        C.due("it was", before,
                "3 2 2 7 0 3 0 | 3 8 7 6 5 8 7 0 | 0 10 2 20 1 10 2 1 | 2 20 3 40 2 40 3 0 / 0 0 / 2 1 ");
        String[] bad = {all + "w4;", all + "k04;", all + "w", all + "x", "k33;" + all, all + ONE.repeat(4)};
        int[] want = {-2026, -2026, -1027, -1026, -2000, -2056};
        for (int i = 0; i < bad.length; i++) {
            String text = bad[i];
            SCENES.asked(() -> without(Scenes.SOME), "town() of " + text, want[i], y -> Checks.tell(y, text));
            LockedInByNext y = without(Scenes.SOME);
            Checks.tell(y, text);
            due("letters are no more", y.count(6), 0);
            due("the next text is whole", Checks.tell(y, "o;"), 1);
        }
        SCENES.asked(() -> without(Scenes.FULL), "town() of nothing", -1000, y -> y.town());
        x = Scenes.FULL.get();
        due("town()", x.town(), 27);
        due("letters are no more", x.count(6), 0);
        due("town() again", x.town(), -1000);
    }
}
