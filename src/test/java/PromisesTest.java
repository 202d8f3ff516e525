import java.util.function.ToIntFunction;

/** Promise by promise, each due answer worked out by hand from the document. */
public final class PromisesTest {
    /** 0 watches and opens 1 at 3; 1 is up at 20 and opens 2 at 24; 2 is up at 30. */
    private static final String CHAIN = "pp10,2,20,1;pp20,3,40,2;pp30,1,33,3;k10;k21;w0;";
    /** The same, all up at 0: OUT 0, 3, 7. */
    private static final String EARLY = "pp0,2,20,1;pp0,3,40,2;pp0,1,33,3;k10;k21;w0;";
    /** 1 watches and goes to 0 and then to 2, at 2 minutes a house and 3 a door. */
    private static final String MIDDLE = "pp0,3,99,0;pp0,3,99,0;pp0,3,99,0;k21;k01;w1;s2;";
    private static final String SEVEN = "pp0,0,0,0;pp0,0,0,0;pp0,0,0,0;pp0,0,0,0;pp0,0,0,0;pp0,0,0,0;pp0,0,0,0;";
    private static final String ONE = "pp0,0,0,0;";
    private static final String TWO = ONE + ONE;
    private static final String THREE = ONE + ONE + ONE;
    private static final int LEAST = Integer.MIN_VALUE;
    private static final int GREATEST = Integer.MAX_VALUE;

    private static final Checks C = new Checks();

    public static void main(String[] args) {
        newObject();
        letter();
        town();
        townFaults();
        person();
        key();
        give();
        cast();
        lose();
        watch();
        wake();
        walk();
        out();
        outOfKinds();
        outInARing();
        all();
        late();
        by();
        fewest();
        soonest();
        copy();
        copies();
        rings();
        swap();
        gone();
        breaking();
        fire();
        lot();
        row();
        overslept();
        judge();
        seeds();
        image();
        count();
        C.end("PromisesTest");
    }

    private static LockedInByNext told(String town) {
        return Checks.told(town);
    }

    private static void due(String call, long got, long want) {
        C.due(call, got, want);
    }

    private static void refused(String call, String town, int refusal, ToIntFunction<LockedInByNext> made) {
        C.refused(call, town, refusal, made);
    }

    /** What the call answers on a new object of the town. */
    private static void on(String town, String call, int want, ToIntFunction<LockedInByNext> made) {
        due(town + " " + call, made.applyAsInt(told(town)), want);
    }

    private static void outs(String what, LockedInByNext x, int... want) {
        due(what + ": how many", x.count(0), want.length);
        for (int p = 0; p < want.length; p++) {
            due(what + ": out(" + p + ")", x.out(p), want[p]);
        }
    }

    private static void outs(String town, int... want) {
        outs(town, told(town), want);
    }

    private static LockedInByNext withKeys(String town, int... doorsAndHolders) {
        LockedInByNext x = told(town);
        for (int k : doorsAndHolders) {
            x.cast(k / 10, k % 10);
        }
        return x;
    }

    private static LockedInByNext withWatchers(String town, int people) {
        LockedInByNext x = told(town);
        x.watch(people);
        return x;
    }

    private static LockedInByNext withRow(String town, int... numbers) {
        LockedInByNext x = told(town);
        for (int v : numbers) {
            x.row(v);
        }
        return x;
    }

    // ---- 1 to 3 ----

    private static void newObject() {
        C.part("1");
        LockedInByNext x = new LockedInByNext();
        for (int what : new int[] {0, 1, 2, 4, 5, 6, 11, 12, 13, 14, 15, 16}) {
            due("count(" + what + ")", x.count(what), 0);
        }
        due("count(3)", x.count(3), 1);
        due("all()", x.all(), 0);
        due("on()", x.on(), -3);
        due("person(0, 0)", x.person(0, 0), -1);
        LockedInByNext other = told(CHAIN);
        due("another one's people", x.count(0), 0);
        due("its own people", other.count(0), 3);
    }

    private static void letter() {
        C.part("2");
        LockedInByNext x = new LockedInByNext();
        due("letter(0)", x.letter(0), 1);
        due("letter(255)", x.letter(255), 2);
        C.refused("letter(-1)", x, -4, y -> y.letter(-1));
        C.refused("letter(least)", x, -4, y -> y.letter(LEAST));
        C.refused("letter(256)", x, -6, y -> y.letter(256));
        C.refused("letter(greatest)", x, -6, y -> y.letter(GREATEST));
        for (int n = 3; n <= 80; n++) {
            due("letter(65)", x.letter(65), n);
        }
        C.refused("letter(65), the 81st", x, -6, y -> y.letter(65));
        C.refused("letter(-1), the 81st", x, -4, y -> y.letter(-1));
        C.refused("letter(256), the 81st", x, -6, y -> y.letter(256));
        due("town()", x.town(), -1000);
        due("letter(1) behind town()", x.letter(1), 1);
    }

    private static void town() {
        C.part("3");
        LockedInByNext x = new LockedInByNext();
        due("a person", Checks.tell(x, "pq07,9,012,3;"), 1);
        C.due("a person", Checks.stateOf(x), "1 0 0 1 0 0 0 | 1 7 9 12 3 7 4 0 ");
        due("more of all", Checks.tell(x, "ps99,0,999,9;k10;w1;s7;r;k01;k11;"), 7);
        C.due("more of all", Checks.stateOf(x),
                "2 3 2 7 1 0 0 | 1 7 9 12 3 7 4 0 | 2 99 0 999 9 198 0 1 / 1 0 / 0 1 / 1 1 ");
        due("a row again", Checks.tell(x, "r;o;s1;s0;"), 4);
        due("a row", x.count(4), 0);
        due("walk", x.count(3), 0);
        due("a watcher told again", Checks.tell(x, "w1;"), 1);
        due("watchers", x.count(2), 0);
        due("a watcher told thrice", Checks.tell(x, "w0;w0;w0;"), 3);
        due("watchers", x.count(2), 1);
        x.watch(3);
        due("told, who watches already", Checks.tell(x, "w0;"), 1);
        due("watchers", x.count(2), 2);
        due("seven", Checks.tell(x = new LockedInByNext(), SEVEN), 7);
        due("keys of the last", Checks.tell(x, "k66;k60;k06;w6;"), 4);
        due("full to the last letter", Checks.tell(x = new LockedInByNext(),
                "pp0,0,00,0;".repeat(6) + ONE + "k66;"), 8);
        due("its people", x.count(0), 7);
        due("ten keys", Checks.tell(x = new LockedInByNext(), ONE + "k00;".repeat(10)), 11);
        due("its keys", x.count(1), 10);
        due("kinds", Checks.tell(x = new LockedInByNext(),
                "pp1,0,0,0;pq1,0,0,0;ps1,0,0,0;pt1,0,0,0;pb1,0,0,0;ph1,0,0,0;"), 6);
        for (int p = 0; p < 6; p++) {
            due("kind of " + p, x.person(p, 0), p);
        }
    }

    private static void fault(String text, int want) {
        LockedInByNext x = told("pp10,2,20,1;pp20,3,40,2;k10;w0;s4;r;");
        x.row(5);
        String before = Checks.stateOf(x);
        faultOn(x, text, want);
        C.due("state behind " + text, Checks.stateOf(x), before);
    }

    private static void faultOn(LockedInByNext x, String text, int want) {
        due("town() of " + text, Checks.tell(x, text), want);
        for (int r = 11; r <= 16; r++) {
            due("count(" + r + ") behind " + text, x.count(r), 0);
        }
        due("letters behind " + text, x.count(6), 0);
    }

    private static void townFaults() {
        C.part("3, faults");
        String[] ends = {"", "p", "pp", "pp1", "pp12", "pp1,", "pp1,2", "pp1,2,", "pp1,2,3", "pp1,2,345",
            "pp1,2,345,", "pp1,2,345,6", "k", "k0", "k00", "w", "w0", "s", "s0", "r", "o", "r;o", ONE + "p"};
        for (String text : ends) {
            fault(text, -1000 - text.length());
        }
        String[] wrongAtTheLast = {";", "x", "P", " ", "0", "" + (char) 0, "" + (char) 255, "pz", "pk", "p1", "pp,",
            "pp-", "pp123", "pp1;", "pp1,,", "pp1,a", "pp1,23", "pp1,2;", "pp1,2,,", "pp1,2,3;", "pp1,2,3456",
            "pp1,2,3,,", "pp1,2,3,45", "pp1,2,3,;", "k,", "kp", "k0,", "k0;", "k000", "w;", "wp", "w00", "w0,", "s;",
            "s11", "s-", "r1", "r,", "o0", "oo", "r;;", "r; ", "r;x", ONE + "x", ONE + ";"};
        for (String text : wrongAtTheLast) {
            fault(text, -1000 - (text.length() - 1));
            fault(text + "pp1,1,1,1;", -1000 - (text.length() - 1));
        }
        fault("k22;x", -1004);
        fault("w9;k", -1004);
        fault("k20;", -2000);
        fault("k02;", -2000);
        fault("w2;", -2000);
        fault("s9;o;w9;", -2005);
        fault("w0;k22;" + ONE, -2003);
        fault("pp1,1,1,1;k22;k33;k99;", -2014);
        fault("w0;" + THREE + "w5;", -2033);
        fault(ONE + ONE + ONE + ONE + ONE + ONE, -2050);
        fault("k00;".repeat(10), -2036);
        fault("s0;r" + "k00;".repeat(10), -1004);
        LockedInByNext x = new LockedInByNext();
        faultOn(x, "k00;", -2000);
        faultOn(x, "w0;" + ONE, -2000);
        faultOn(x, ONE.repeat(8), -2070);
        due("people", x.count(0), 0);
        faultOn(x, ONE + "k00;".repeat(11), -2050);
        faultOn(x, ONE + "k10;", -2010);
        faultOn(x, ONE + "k01;", -2010);
        faultOn(x, ONE + "w1;", -2010);
        C.due("state", Checks.stateOf(x), Checks.stateOf(new LockedInByNext()));
        faultOn(told(SEVEN), "r;" + ONE, -2002);
        faultOn(told(SEVEN), "w7;", -2000);
        x = new LockedInByNext();
        for (int i = 0; i < 80; i++) {
            x.letter("r;".charAt(i % 2));
        }
        due("forty statements", x.town(), 40);
        due("none", x.town(), -1000);
        for (int i = 0; i < 80; i++) {
            x.letter(";r".charAt((i + 1) % 2));
        }
        due("cut off by the room", x.town(), 40);
        for (int i = 0; i < 80; i++) {
            x.letter("r;r;s".charAt(i % 5));
        }
        due("the fifth and what follows", x.town(), -1005);
        Checks.tell(x, "");
        for (int i = 0; i < 80; i++) {
            x.letter(i < 78 ? "r;".charAt(i % 2) : "s0".charAt(i - 78));
        }
        due("lacks at the end of all room", x.town(), -1080);
    }

    // ---- 4 to 11 ----

    private static void person() {
        C.part("4");
        int[][] upAndNeed = {{37, 7}, {37, 3}, {74, 7}, {37, 7}, {0, 3}, {37, 3}};
        for (int kind = 0; kind < 6; kind++) {
            String town = "p" + "pqstbh".charAt(kind) + "37,7,123,4;";
            LockedInByNext x = told(ONE + town);
            int[] want = {kind, 37, 7, 123, 4, upAndNeed[kind][0], upAndNeed[kind][1], 0};
            for (int what = 0; what < 8; what++) {
                due(town + " person(1, " + what + ")", x.person(1, what), want[what]);
            }
            x.watch(2);
            due("a watcher", x.person(1, 7), 1);
            due("up of a watcher", x.person(1, 5), upAndNeed[kind][0]);
            due("the other one", x.person(0, 7), 0);
        }
        refused("person(0, 0) of nobody", "", -1, x -> x.person(0, 0));
        refused("person(3, 0)", CHAIN, -1, x -> x.person(3, 0));
        refused("person(-1, 0)", CHAIN, -1, x -> x.person(-1, 0));
        refused("person(3, 8)", CHAIN, -1, x -> x.person(3, 8));
        refused("person(7, -1)", SEVEN, -1, x -> x.person(7, -1));
        refused("person(least, 0)", CHAIN, -1, x -> x.person(LEAST, 0));
        refused("person(greatest, 0)", CHAIN, -1, x -> x.person(GREATEST, 0));
        refused("person(0, 8)", CHAIN, -2, x -> x.person(0, 8));
        refused("person(0, -1)", CHAIN, -2, x -> x.person(0, -1));
        refused("person(0, least)", CHAIN, -2, x -> x.person(0, LEAST));
    }

    private static void key() {
        C.part("5");
        on(CHAIN, "key(0, 0)", 1, x -> x.key(0, 0));
        on(CHAIN, "key(0, 1)", 0, x -> x.key(0, 1));
        on(CHAIN, "key(1, 0)", 2, x -> x.key(1, 0));
        on(CHAIN, "key(1, 1)", 1, x -> x.key(1, 1));
        refused("key(2, 0)", CHAIN, -1, x -> x.key(2, 0));
        refused("key(-1, 0)", CHAIN, -1, x -> x.key(-1, 0));
        refused("key(2, 2)", CHAIN, -1, x -> x.key(2, 2));
        refused("key(10, 0)", ONE + "k00;".repeat(10), -1, x -> x.key(10, 0));
        refused("key(greatest, 0)", CHAIN, -1, x -> x.key(GREATEST, 0));
        refused("key(least, 0)", CHAIN, -1, x -> x.key(LEAST, 0));
        refused("key(0, 2)", CHAIN, -2, x -> x.key(0, 2));
        refused("key(0, -1)", CHAIN, -2, x -> x.key(0, -1));
    }

    private static void give() {
        C.part("6");
        LockedInByNext x = told(CHAIN);
        due("give(1, 0)", x.give(1, 0), 1);
        due("key(1, 1)", x.key(1, 1), 0);
        due("key(1, 0)", x.key(1, 0), 2);
        due("key(0, 1)", x.key(0, 1), 0);
        due("give(1, 0) again", x.give(1, 0), 0);
        due("give(1, 2), to whose door it is", x.give(1, 2), 0);
        due("key(1, 1)", x.key(1, 1), 2);
        refused("give(2, 0)", CHAIN, -1, y -> y.give(2, 0));
        refused("give(-1, 0)", CHAIN, -1, y -> y.give(-1, 0));
        refused("give(0, 3)", CHAIN, -1, y -> y.give(0, 3));
        refused("give(0, -1)", CHAIN, -1, y -> y.give(0, -1));
        refused("give(2, 3)", CHAIN, -1, y -> y.give(2, 3));
        refused("give(greatest, least)", CHAIN, -1, y -> y.give(GREATEST, LEAST));
    }

    private static void cast() {
        C.part("7");
        LockedInByNext x = told(CHAIN);
        due("cast(2, 0)", x.cast(2, 0), 2);
        due("key(2, 0)", x.key(2, 0), 2);
        due("key(2, 1)", x.key(2, 1), 0);
        due("cast(1, 1)", x.cast(1, 1), 3);
        for (int k = 4; k < 10; k++) {
            due("cast(2, 0) once more", x.cast(2, 0), k);
        }
        due("keys", x.count(1), 10);
        C.refused("cast(0, 0), the eleventh", x, -6, y -> y.cast(0, 0));
        C.refused("cast(3, 0), the eleventh", x, -1, y -> y.cast(3, 0));
        refused("cast(3, 0)", CHAIN, -1, y -> y.cast(3, 0));
        refused("cast(0, 3)", CHAIN, -1, y -> y.cast(0, 3));
        refused("cast(-1, 0)", CHAIN, -1, y -> y.cast(-1, 0));
        refused("cast(0, -1)", CHAIN, -1, y -> y.cast(0, -1));
        refused("cast(0, 0) of nobody", "", -1, y -> y.cast(0, 0));
    }

    private static void lose() {
        C.part("8");
        LockedInByNext x = withKeys(THREE, 1, 12, 20, 11);
        due("lose(1)", x.lose(1), 3);
        due("keys", x.count(1), 3);
        int[] left = {0, 1, 2, 0, 1, 1};
        for (int k = 0; k < 3; k++) {
            due("door of " + k, x.key(k, 0), left[2 * k]);
            due("holder of " + k, x.key(k, 1), left[2 * k + 1]);
        }
        due("key(3, 0)", x.key(3, 0), -1);
        due("lose(2)", x.lose(2), 2);
        due("key(1, 0)", x.key(1, 0), 2);
        due("lose(0)", x.lose(0), 1);
        due("key(0, 0)", x.key(0, 0), 2);
        due("lose(0)", x.lose(0), 0);
        C.refused("lose(0) of none", x, -1, y -> y.lose(0));
        x = told(ONE + "k00;".repeat(10));
        due("lose(9) of ten", x.lose(9), 9);
        due("lose(0) of nine", x.lose(0), 8);
        refused("lose(2)", CHAIN, -1, y -> y.lose(2));
        refused("lose(-1)", CHAIN, -1, y -> y.lose(-1));
        refused("lose(greatest)", CHAIN, -1, y -> y.lose(GREATEST));
    }

    private static void watch() {
        C.part("9");
        LockedInByNext x = told(CHAIN);
        due("watch(6)", x.watch(6), 1);
        due("count(2)", x.count(2), 6);
        due("watch(7)", x.watch(7), 6);
        due("watch(0)", x.watch(0), 7);
        due("watch(0)", x.watch(0), 0);
        refused("watch(8)", CHAIN, -1, y -> y.watch(8));
        refused("watch(9)", CHAIN, -1, y -> y.watch(9));
        refused("watch(-1)", CHAIN, -1, y -> y.watch(-1));
        refused("watch(least)", CHAIN, -1, y -> y.watch(LEAST));
        refused("watch(1) of nobody", "", -1, y -> y.watch(1));
        on("", "watch(0)", 0, y -> y.watch(0));
        on(SEVEN, "watch(127)", 0, y -> y.watch(127));
        refused("watch(128)", SEVEN, -1, y -> y.watch(128));
    }

    private static void wake() {
        C.part("10");
        LockedInByNext x = told(CHAIN);
        due("wake(1, 99)", x.wake(1, 99), 20);
        due("person(1, 1)", x.person(1, 1), 99);
        due("person(1, 5)", x.person(1, 5), 99);
        due("wake(1, 0)", x.wake(1, 0), 99);
        due("wake(1, 0)", x.wake(1, 0), 0);
        due("person(0, 1)", x.person(0, 1), 10);
        refused("wake(1, 100)", CHAIN, -6, y -> y.wake(1, 100));
        refused("wake(1, -1)", CHAIN, -4, y -> y.wake(1, -1));
        refused("wake(3, 0)", CHAIN, -1, y -> y.wake(3, 0));
        refused("wake(3, 100)", CHAIN, -1, y -> y.wake(3, 100));
        refused("wake(-1, -1)", CHAIN, -1, y -> y.wake(-1, -1));
    }

    private static void walk() {
        C.part("11");
        LockedInByNext x = told("");
        due("walk(9)", x.walk(9), 1);
        due("walk(0)", x.walk(0), 9);
        due("count(3)", x.count(3), 0);
        refused("walk(10)", "s4;", -6, y -> y.walk(10));
        refused("walk(-1)", "s4;", -4, y -> y.walk(-1));
        refused("walk(least)", "s4;", -4, y -> y.walk(LEAST));
        refused("walk(greatest)", "s4;", -6, y -> y.walk(GREATEST));
    }

    // ---- 12 to 15 ----

    private static void out() {
        C.part("12");
        outs(CHAIN, 0, 20, 30);
        outs(EARLY, 0, 3, 7);
        outs(MIDDLE, 5, 0, 12);
        outs(MIDDLE + "k11;", 5, 0, 12);
        outs(MIDDLE + "k21;k01;", 5, 0, 12);
        outs(MIDDLE + "w0;", 0, 0, 12);
        outs(MIDDLE + "s0;", 3, 0, 6);
        outs(MIDDLE + "w1;", -9, -9, -9);
        outs(TWO + "k01;k10;s0;", -9, -9);
        outs(TWO + "k00;k11;w0;", 0, -9);
        outs(ONE + "k00;", -9);
        outs(ONE + "w0;", 0);
        LockedInByNext x = told(CHAIN);
        x.give(1, 0);
        outs("0 holds both", x, 0, 20, 30);
        x.wake(2, 0);
        outs("2 up at once", x, 0, 20, 6);
        x.walk(9);
        outs("a long way", x, 0, 20, 22);
        x.lose(0);
        outs("no key of 1", x, 0, -9, 20);
        outs("two openers, the earlier one counts",
                withKeys("pp0,9,0,0;pp0,0,0,0;pp0,2,0,0;w0;w2;", 10, 12), 0, 3, 0);
        outs("up while the door is open", told("pp0,1,0,0;pp50,0,0,0;k10;w0;"), 0, 50);
        outs("up at the minute at which it is opened", told("pp0,1,0,0;pp2,0,0,0;k10;w0;"), 0, 2);
        outs("the longest way of a row", told(SEVEN + "w6;s9;k06;"), 54, -9, -9, -9, -9, -9, 0);
        refused("out(3)", CHAIN, -1, y -> y.out(3));
        refused("out(-1)", CHAIN, -1, y -> y.out(-1));
        refused("out(0) of nobody", "", -1, y -> y.out(0));
    }

    private static void outOfKinds() {
        C.part("12, kinds");
        String closed = "0,3,99,0;k21;k01;w1;s2;";
        outs("ph0,3,9,0;ph0,3,9,0;ph" + closed, 1, 0, 2);
        outs("pp0,0,9,0;pq0,3,9,0;pp" + closed, 3, 0, 8);
        outs("pp0,0,9,0;pb9,3,9,0;pp" + closed, 3, 0, 8);
        outs("ps6,0,9,0;ps9,3,9,0;ps" + closed, 12, 0, 12);
        outs("pb99,0,9,0;pt9,3,9,0;pt" + closed, 5, 0, 12);
        outs("pt40,0,0,0;pt0,0,0,0;", 100, 60);
        outs("pt99,0,0,0;", 159);
        outs("pt40,0,0,0;w0;", 0);
        outs("pt40,0,0,0;pp0,2,0,0;k01;w1;", 40, 0);
        outs("pt0,0,0,0;pp70,2,0,0;k10;k01;", 60, 70);
        outs("pt0,3,0,0;pp80,2,0,0;k10;", 60, 80);
        outs("pt0,3,0,0;pp8,2,0,0;k10;", 60, 64);
        outs("the door opened behind the window", told("pt0,0,0,0;pp61,0,0,0;pp0,0,0,0;k01;k12;w2;"), 60, 61, 0);
        outs("the door opened ahead of the window", told("pt0,0,0,0;pp58,0,0,0;pp0,0,0,0;k01;k12;w2;"), 59, 58, 0);
    }

    private static void outInARing() {
        C.part("12, a ring");
        outs(MIDDLE + "r;", 5, 0, 10);
        outs(SEVEN.substring(10) + "w0;r;k50;", 0, -9, -9, -9, -9, 1);
        outs(SEVEN.substring(10) + "w0;r;k30;", 0, -9, -9, 3, -9, -9);
        LockedInByNext x = withKeys(SEVEN, 30);
        x.watch(1);
        Checks.tell(x, "r;");
        int[] ways = {0, 1, 2, 3, 3, 2, 1};
        for (int d = 1; d < 7; d++) {
            x.lose(0);
            x.cast(d, 0);
            due("way from 0 to " + d, x.out(d), ways[d]);
        }
        x.watch(1 << 5);
        x.give(0, 5);
        due("way from 5 to 6", x.out(6), 1);
        x.lose(0);
        x.cast(1, 5);
        due("way from 5 to 1", x.out(1), 3);
        outs(TWO + "w1;r;k01;", 1, 0);
    }

    private static void all() {
        C.part("13");
        on("", "all()", 0, x -> x.all());
        on(CHAIN, "all()", 30, x -> x.all());
        on(EARLY, "all()", 7, x -> x.all());
        on(MIDDLE, "all()", 12, x -> x.all());
        on(CHAIN + "w0;", "all()", -9, x -> x.all());
        on(TWO + "k00;k11;w0;", "all()", -9, x -> x.all());
        on(TWO + "w0;w1;", "all()", 0, x -> x.all());
        on("pt40,0,0,0;", "all()", 100, x -> x.all());
        LockedInByNext x = told(CHAIN);
        x.wake(1, 40);
        due("2 is let out by 1", x.all(), 44);
    }

    private static void late() {
        C.part("14");
        on("", "late()", 0, x -> x.late());
        on(CHAIN, "late()", 0, x -> x.late());
        on(CHAIN + "w0;", "late()", 7, x -> x.late());
        on(MIDDLE, "late()", 0, x -> x.late());
        on("pp0,0,0,0;w0;", "late()", 0, x -> x.late());
        on("pp0,0,999,0;", "late()", 1, x -> x.late());
        LockedInByNext x = told(CHAIN);
        x.wake(2, 33);
        due("just in time", x.late(), 0);
        x.wake(2, 34);
        due("a minute behind", x.late(), 4);
        x.wake(1, 41);
        due("two", x.late(), 6);
    }

    private static void by() {
        C.part("15");
        LockedInByNext x = told(CHAIN);
        due("by(0)", x.by(0), -9);
        due("by(1)", x.by(1), 0);
        due("by(2)", x.by(2), 1);
        x.cast(0, 2);
        due("by(0), a watcher, at last", x.by(0), 2);
        x.watch(0);
        due("by(1), nobody out", x.by(1), -9);
        String three = "pp0,1,0,0;pp0,0,0,0;pp0,1,0,0;w0;w2;";
        on(three + "k10;k12;", "by(1)", 0, y -> y.by(1));
        on(three + "k12;k10;", "by(1)", 0, y -> y.by(1));
        on("pp0,2,0,0;pp0,0,0,0;pp0,1,0,0;w0;w2;k12;k10;", "by(1)", 2, y -> y.by(1));
        on("pp0,2,0,0;pp0,0,0,0;pp0,1,0,0;w0;k12;k10;k20;", "by(1)", 0, y -> y.by(1));
        on("pp0,0,0,0;pt0,9,0,0;w0;k01;", "by(0)", 1, y -> y.by(0));
        on("pp0,0,0,0;pt0,9,0,0;", "by(1), out by the window", -9, y -> y.by(1));
        on("pp0,0,0,0;w0;k00;", "by(0), his own key", -9, y -> y.by(0));
        on("pp0,0,0,0;pp5,0,0,0;pp0,0,0,0;w0;s0;k21;k20;k10;", "by(2)", 0, y -> y.by(2));
        due("0, out at 5, has opened at 6, and 1, out at 0, at 10",
                withKeys("pp5,1,0,0;pp0,5,0,0;pp0,0,0,0;w1;s0;", 1, 20, 21).by(2), 0);
        due("0, out at 5, has opened at 11, and 1, out at 0, at 10",
                withKeys("pp5,6,0,0;pp0,5,0,0;pp0,0,0,0;w1;s0;", 1, 20, 21).by(2), 1);
        due("a tie of 0, out at 5, and 1, out at 0",
                withKeys("pp5,5,0,0;pp0,5,0,0;pp0,0,0,0;w1;s0;", 1, 20, 21).by(2), 0);
        refused("by(3)", CHAIN, -1, y -> y.by(3));
        refused("by(-1)", CHAIN, -1, y -> y.by(-1));
        refused("by(greatest)", CHAIN, -1, y -> y.by(GREATEST));
    }

    // ---- 16 to 19 ----

    private static void fewestOf(String town, int size, int set) {
        LockedInByNext x = told(town);
        due(town + " fewest(0)", x.fewest(0), size);
        due(town + " fewest(1)", x.fewest(1), set);
    }

    private static void fewest() {
        C.part("16");
        fewestOf("", 0, 0);
        fewestOf(ONE, 1, 1);
        fewestOf(CHAIN, 1, 1);
        fewestOf(CHAIN + "w0;w2;", 1, 1);
        fewestOf(TWO + "k01;", 1, 2);
        fewestOf(TWO + "k01;k10;", 1, 1);
        fewestOf(TWO + "k00;k11;", 2, 3);
        fewestOf(TWO + ONE + ONE + "k10;k01;k32;k23;", 2, 5);
        fewestOf(TWO + ONE + ONE + "k01;k32;k23;", 2, 6);
        fewestOf("pt0,0,0,0;pt0,0,0,0;", 2, 3);
        fewestOf("pt0,0,0,0;pt0,0,0,0;k01;", 1, 2);
        fewestOf(SEVEN, 7, 127);
        fewestOf(SEVEN + "w6;", 7, 127);
        due("watchers", told(CHAIN + "w0;w2;").count(2), 4);
        refused("fewest(2)", CHAIN, -2, x -> x.fewest(2));
        refused("fewest(-1)", CHAIN, -2, x -> x.fewest(-1));
        LockedInByNext x = told(CHAIN + "w2;");
        x.fewest(1);
        due("watchers stay", x.count(2), 5);
        due("and all() too", x.all(), 20);
    }

    private static void soonestOf(String town, int set, int all) {
        LockedInByNext x = told(town);
        due(town + " soonest(0)", x.soonest(0), set);
        due(town + " soonest(1)", x.soonest(1), all);
    }

    private static void soonest() {
        C.part("17");
        soonestOf("", 0, 0);
        soonestOf(ONE, 1, 0);
        soonestOf(CHAIN, 1, 30);
        soonestOf(CHAIN + "w0;", 1, 30);
        soonestOf("pp10,0,0,0;pp20,0,0,0;pp30,0,0,0;k10;k21;k02;s0;", 4, 20);
        soonestOf("pp10,0,0,0;pp20,0,0,0;pp30,0,0,0;k10;k21;k02;s0;w0;w1;w2;", 4, 20);
        soonestOf("pp10,0,0,0;pp30,0,0,0;pp30,0,0,0;k10;k21;k02;s0;", 1, 30);
        soonestOf("pt0,0,0,0;pp90,0,0,0;k10;", 2, 60);
        soonestOf("pt50,0,0,0;pp90,0,0,0;k10;", 1, 90);
        soonestOf(SEVEN, 127, 0);
        refused("soonest(2)", CHAIN, -2, x -> x.soonest(2));
        refused("soonest(-1)", CHAIN, -2, x -> x.soonest(-1));
        LockedInByNext x = told(CHAIN + "w2;");
        x.soonest(1);
        due("watchers stay", x.count(2), 5);
    }

    private static void copy() {
        C.part("18");
        on(CHAIN, "copy()", -9, x -> x.copy());
        on(EARLY, "copy()", 20, x -> x.copy());
        on("pp0,2,20,1;pp0,3,40,2;pp0,1,33,3;k10;k21;w0;" + "k00;".repeat(8), "copy(), the eleventh", 20,
                x -> x.copy());
        on(TWO + "w0;", "copy()", 10, x -> x.copy());
        on(TWO + "w1;", "copy()", 1, x -> x.copy());
        on(TWO + ONE + "w0;", "copy(), one key is not enough", -9, x -> x.copy());
        on(TWO, "copy(), nobody is out", -9, x -> x.copy());
        on("pp0,0,0,0;pp0,1,0,0;pp0,0,0,0;w0;w1;", "copy(), of two the least", 20, x -> x.copy());
        on("pp0,1,0,0;pp0,1,0,0;pp0,0,0,0;w0;w1;", "copy(), the better one", 21, x -> x.copy());
        on("pt0,0,0,0;pp0,0,0,0;w1;", "copy(), ahead of the window", 1, x -> x.copy());
        on("pt0,0,0,0;pp0,0,0,0;w1;k01;", "copy(), already so", -9, x -> x.copy());
        refused("copy()", "", -3, x -> x.copy());
        LockedInByNext x = told(EARLY);
        x.copy();
        due("keys stay", x.count(1), 2);
        due("all() stays", x.all(), 7);
    }

    private static void copies() {
        C.part("19");
        String bare = "pp0,2,0,0;pp0,3,0,0;pp0,1,0,0;w0;";
        on("", "copies(0)", 0, x -> x.copies(0));
        on(EARLY, "copies(7)", 0, x -> x.copies(7));
        on(EARLY, "copies(6)", 1, x -> x.copies(6));
        on(EARLY, "copies(5)", -9, x -> x.copies(5));
        on(bare + "k10;", "copies(7)", 1, x -> x.copies(7));
        on(bare + "k10;", "copies(6)", 1, x -> x.copies(6));
        on(bare + "k10;", "copies(5)", -9, x -> x.copies(5));
        on(bare, "copies(6)", 2, x -> x.copies(6));
        on(bare, "copies(5)", -9, x -> x.copies(5));
        on(bare, "copies(greatest)", 2, x -> x.copies(GREATEST));
        on(EARLY, "copies(greatest)", 0, x -> x.copies(GREATEST));
        on(THREE + ONE + "w0;", "copies(greatest), three lack", -9, x -> x.copies(GREATEST));
        on(TWO, "copies(greatest), nobody out", -9, x -> x.copies(GREATEST));
        on(TWO + "w0;w1;", "copies(0)", 0, x -> x.copies(0));
        on(TWO + "w0;s0;", "copies(0)", 1, x -> x.copies(0));
        due("an eleventh", withKeys(TWO + "w0;", 0, 0, 0, 0, 0, 0, 0, 0, 0, 0).copies(9), 1);
        due("a twelfth", withKeys(THREE + "w0;", 0, 0, 0, 0, 0, 0, 0, 0, 0, 0).copies(9), 2);
        // 6 opens 0 at 7, and 0, who is quicker at it, opens 1 at 8; the others need 9 at a door.
        String far = "pp0,0,0,0;pp0,9,0,0;pp0,9,0,0;pp0,9,0,0;pp0,9,0,0;pp0,9,0,0;pp0,1,0,0;";
        due("0 by 6 and 1 by 0", withWatchers(far, 124).copies(8), 2);
        due("a minute less", withWatchers(far, 124).copies(7), -9);
        refused("copies(-1)", CHAIN, -4, x -> x.copies(-1));
        refused("copies(least)", CHAIN, -4, x -> x.copies(LEAST));
        refused("copies(-1) of nobody", "", -4, x -> x.copies(-1));
        LockedInByNext x = told(bare);
        x.copies(6);
        due("keys stay", x.count(1), 0);
        due("all() stays", x.all(), -9);
    }

    // ---- 20 to 22 ----

    private static void rings() {
        C.part("20");
        on("", "rings()", 0, x -> x.rings());
        on(ONE, "rings()", -9, x -> x.rings());
        on(ONE + "k00;", "rings()", 1, x -> x.rings());
        on(ONE + "k00;k00;", "rings()", -9, x -> x.rings());
        on(THREE + "k00;k11;k22;", "rings()", 3, x -> x.rings());
        on(THREE + "k10;k01;k22;", "rings()", 2, x -> x.rings());
        on(THREE + "k10;k21;k02;", "rings()", 1, x -> x.rings());
        on(THREE + "k02;k10;k21;", "rings()", 1, x -> x.rings());
        on(THREE + "k10;k21;", "rings()", -9, x -> x.rings());
        on(THREE + "k10;k21;k12;", "rings(), a door twice", -9, x -> x.rings());
        on(THREE + "k10;k21;k01;", "rings(), a holder twice", -9, x -> x.rings());
        on(THREE + "k10;k21;k02;k00;", "rings(), a key more", -9, x -> x.rings());
        due("seven alone", withKeys(SEVEN, 0, 11, 22, 33, 44, 55, 66).rings(), 7);
        due("seven in one", withKeys(SEVEN, 10, 21, 32, 43, 54, 65, 6).rings(), 1);
        due("3 and 4", withKeys(SEVEN, 10, 21, 2, 43, 54, 65, 36).rings(), 2);
    }

    private static void swap() {
        C.part("21");
        on("", "swap()", -9, x -> x.swap());
        on(ONE + "k00;", "swap()", -9, x -> x.swap());
        on(TWO + "k00;k11;", "swap()", 1, x -> x.swap());
        on(TWO + "k01;k10;", "swap()", -9, x -> x.swap());
        on(THREE + "k10;k01;k22;", "swap()", 2, x -> x.swap());
        on(THREE + "k22;k10;k01;", "swap()", 1, x -> x.swap());
        on(THREE + "k10;k21;k02;", "swap()", -9, x -> x.swap());
        on(THREE + "k10;k21;k12;", "swap(), no rings", -9, x -> x.swap());
        due("3 and 4", withKeys(SEVEN, 10, 21, 2, 43, 54, 65, 36).swap(), 3);
        LockedInByNext x = told(THREE + "k10;k01;k22;");
        String before = Checks.stateOf(x);
        x.swap();
        C.due("keys stay", Checks.stateOf(x), before);
    }

    private static void gone() {
        C.part("22");
        on(CHAIN, "gone(0)", 6, x -> x.gone(0));
        on(CHAIN, "gone(1)", 4, x -> x.gone(1));
        on(CHAIN + "k10;", "gone(0), there is another", 0, x -> x.gone(0));
        on(CHAIN + "w0;", "gone(0), nobody out now", 0, x -> x.gone(0));
        on(CHAIN + "w1;", "gone(0), of a watcher's door", 0, x -> x.gone(0));
        on(THREE + "w0;k10;", "gone(0), 2 is never out", 2, x -> x.gone(0));
        on("pp0,0,0,0;pt0,0,0,0;pp0,0,0,0;w0;k10;k21;", "gone(0), a window", 0, x -> x.gone(0));
        on("pp0,0,0,0;pt0,0,0,0;pp0,0,0,0;w0;k10;k21;", "gone(1)", 4, x -> x.gone(1));
        refused("gone(2)", CHAIN, -1, x -> x.gone(2));
        refused("gone(-1)", CHAIN, -1, x -> x.gone(-1));
        refused("gone(0) of none", ONE, -1, x -> x.gone(0));
        LockedInByNext x = told(CHAIN);
        x.gone(0);
        due("keys stay", x.count(1), 2);
        due("all() stays", x.all(), 30);
    }

    // ---- 23 to 25 ----

    private static void breakingOf(String town, int doors, int cost) {
        LockedInByNext x = told(town);
        due(town + " breaking(0)", x.breaking(0), doors);
        due(town + " breaking(1)", x.breaking(1), cost);
    }

    private static void breaking() {
        C.part("23");
        breakingOf("", 0, 0);
        breakingOf(CHAIN, 0, 0);
        breakingOf(CHAIN + "w0;", 1, 1);
        breakingOf(CHAIN + "w0;w2;", 1, 1);
        breakingOf("pp0,0,0,3;pp0,0,0,2;pp0,0,0,2;k10;k21;k02;", 2, 2);
        breakingOf("pp0,0,0,3;pp0,0,0,3;pp0,0,0,2;k10;k21;k02;", 4, 2);
        breakingOf("pp0,0,0,0;pp0,0,0,0;pp0,0,0,0;", 7, 0);
        breakingOf("pp0,0,0,0;pp0,0,0,9;pp0,0,0,0;w1;", 5, 0);
        breakingOf("pp0,0,0,9;pp0,0,0,9;pp0,0,0,9;", 7, 27);
        breakingOf("pp0,0,0,5;pp0,0,0,0;pp0,0,0,0;k01;k12;", 4, 0);
        breakingOf("pt0,0,0,9;", 0, 0);
        breakingOf("pt0,0,0,9;pp0,0,0,4;k01;", 2, 4);
        breakingOf("pt0,0,0,9;pp0,0,0,4;k10;", 0, 0);
        refused("breaking(2)", CHAIN, -2, x -> x.breaking(2));
        refused("breaking(-1)", CHAIN, -2, x -> x.breaking(-1));
        LockedInByNext x = told(CHAIN + "w0;");
        x.breaking(0);
        due("doors stay", x.all(), -9);
    }

    private static void fire() {
        C.part("24");
        on(CHAIN, "fire(2, 0)", 30, x -> x.fire(2, 0));
        on(CHAIN, "fire(2, 29)", 1, x -> x.fire(2, 29));
        on(CHAIN, "fire(2, 30)", 0, x -> x.fire(2, 30));
        on(CHAIN, "fire(2, 31)", 0, x -> x.fire(2, 31));
        on(CHAIN, "fire(2, greatest)", 0, x -> x.fire(2, GREATEST));
        on(CHAIN, "fire(0, 0)", 0, x -> x.fire(0, 0));
        on(CHAIN + "w0;", "fire(1, 0)", -9, x -> x.fire(1, 0));
        on(CHAIN + "w0;", "fire(1, greatest)", -9, x -> x.fire(1, GREATEST));
        refused("fire(3, 0)", CHAIN, -1, x -> x.fire(3, 0));
        refused("fire(-1, -1)", CHAIN, -1, x -> x.fire(-1, -1));
        refused("fire(0, -1)", CHAIN, -4, x -> x.fire(0, -1));
        refused("fire(1, -1), never out", CHAIN + "w0;", -4, x -> x.fire(1, -1));
    }

    private static void lot() {
        C.part("25");
        int[][] mean = {{1, 1}, {3, 2}, {11, 6}, {25, 12}, {137, 60}, {49, 20}, {363, 140}, {761, 280}, {7129, 2520}};
        for (int i = 0; i < 9; i++) {
            int n = i + 1;
            on("", "lot(" + n + ", 0, 0)", 1, x -> x.lot(n, 0, 0));
            on("", "lot(" + n + ", 0, 1)", n, x -> x.lot(n, 0, 1));
            on(CHAIN, "lot(" + n + ", 1, 0)", mean[i][0], x -> x.lot(n, 1, 0));
            on(CHAIN, "lot(" + n + ", 1, 1)", mean[i][1], x -> x.lot(n, 1, 1));
        }
        refused("lot(0, 0, 0)", CHAIN, -4, x -> x.lot(0, 0, 0));
        refused("lot(0, 2, 2)", CHAIN, -4, x -> x.lot(0, 2, 2));
        refused("lot(least, 0, 0)", CHAIN, -4, x -> x.lot(LEAST, 0, 0));
        refused("lot(10, 0, 0)", CHAIN, -6, x -> x.lot(10, 0, 0));
        refused("lot(10, -1, 0)", CHAIN, -6, x -> x.lot(10, -1, 0));
        refused("lot(greatest, 0, 0)", CHAIN, -6, x -> x.lot(GREATEST, 0, 0));
        refused("lot(9, 2, 0)", CHAIN, -2, x -> x.lot(9, 2, 0));
        refused("lot(9, -1, 0)", CHAIN, -2, x -> x.lot(9, -1, 0));
        refused("lot(9, 0, 2)", CHAIN, -2, x -> x.lot(9, 0, 2));
        refused("lot(9, 1, -1)", CHAIN, -2, x -> x.lot(9, 1, -1));
    }

    // ---- 26 to 29 ----

    private static void row() {
        C.part("26");
        LockedInByNext x = told(CHAIN);
        due("row(0)", x.row(0), 1);
        due("row(999)", x.row(999), 2);
        C.refused("row(-1)", x, -4, y -> y.row(-1));
        C.refused("row(1000)", x, -6, y -> y.row(1000));
        for (int n = 3; n <= 7; n++) {
            due("row(5)", x.row(5), n);
        }
        C.refused("row(5), the eighth", x, -6, y -> y.row(5));
        C.refused("row(-1), the eighth", x, -4, y -> y.row(-1));
        C.refused("row(1000), the eighth", x, -6, y -> y.row(1000));
        due("count(5)", x.count(5), 7);
    }

    private static void overslept() {
        C.part("27");
        due("none told of nobody", withRow("").overslept(), 0);
        due("just so", withRow(CHAIN, 0, 20, 30).overslept(), 0);
        due("sooner", withRow(CHAIN, 0, 19, 0).overslept(), 0);
        due("1 later", withRow(CHAIN, 0, 21, 30).overslept(), 2);
        due("all later", withRow(CHAIN, 1, 999, 31).overslept(), 7);
        due("never is later than all", withRow(CHAIN + "w0;", 999, 999, 999).overslept(), 0);
        LockedInByNext x = withRow(CHAIN, 0, 21, 30);
        x.overslept();
        due("the row stays", x.count(5), 3);
        x.wake(1, 21);
        due("another morning", x.overslept(), 0);
        C.refused("too short", withRow(CHAIN, 0, 20), -3, y -> y.overslept());
        C.refused("too long", withRow(CHAIN, 0, 20, 30, 40), -3, y -> y.overslept());
        C.refused("none", withRow(CHAIN), -3, y -> y.overslept());
        C.refused("of nobody", withRow("", 0), -3, y -> y.overslept());
        due("seven", withRow(SEVEN + "w0;", 1, 1, 1, 1, 1, 1, 1).overslept(), 1);
    }

    private static void judged(String town, int want, int... numbers) {
        LockedInByNext x = withRow(town, numbers);
        due(town + " judge() of " + java.util.Arrays.toString(numbers), x.judge(), want);
        due("the row behind it", x.count(5), 0);
    }

    private static void judge() {
        C.part("28");
        judged("", -9);
        judged("", 0, 5);
        judged(CHAIN, -9, 0, 20, 30);
        judged(CHAIN, 0, 1, 20, 30);
        judged(CHAIN, 1, 0, 19, 31);
        judged(CHAIN, 2, 0, 20, 31);
        judged(CHAIN, 0);
        judged(CHAIN, 1, 0);
        judged(CHAIN, 2, 0, 20);
        judged(CHAIN, 0, 7);
        judged(CHAIN, 1, 0, 7);
        judged(CHAIN, 3, 0, 20, 30, 30);
        judged(CHAIN, 3, 0, 20, 30, 0, 0, 0, 0);
        judged(CHAIN, 1, 0, 21, 30, 30);
        judged(CHAIN + "w0;", 0, 0, 20, 30);
        judged(SEVEN + "w0;", 1, 0, 0, 0, 0, 0, 0, 0);
        LockedInByNext x = withRow(CHAIN, 1);
        x.judge();
        due("row(0) anew", x.row(0), 1);
        due("row(20)", x.row(20), 2);
        due("row(30)", x.row(30), 3);
        due("judge()", x.judge(), -9);
        for (int r = 11; r <= 16; r++) {
            due("count(" + r + ")", x.count(r), 0);
        }
    }

    /** With the seed 0 the draws below 100 are 63, 77, 86, 39, .. */
    private static void seeds() {
        C.part("29");
        on("", "seeds(20, 5)", 0, x -> x.seeds(20, 5));
        on("pt0,0,0,0;", "seeds(1, 0)", 123, x -> x.seeds(1, 0));
        on("pt0,0,0,0;", "seeds(2, 0)", 260, x -> x.seeds(2, 0));
        on(TWO + "w0;s0;k10;", "seeds(1, 0)", 77, x -> x.seeds(1, 0));
        on(TWO + "w0;s0;k10;", "seeds(2, 0)", 116, x -> x.seeds(2, 0));
        on("pp0,0,0,0;ps0,0,0,0;w0;s0;k10;", "seeds(2, 0)", 232, x -> x.seeds(2, 0));
        on("pp0,0,0,0;pb0,0,0,0;w0;s2;k10;", "seeds(2, 0)", 4, x -> x.seeds(2, 0));
        on(TWO, "seeds(20, 0), never out", 0, x -> x.seeds(20, 0));
        on(TWO + "w0;w1;", "seeds(20, 0)", 0, x -> x.seeds(20, 0));
        long z = -7;
        int sum = 0;
        for (int i = 0; i < 20; i++) {
            z = (z * 1664525 + 1013904223) & 0xffffffffL;
            sum += 60 + (z & 0x7fffffffL) / 256 % 100;
        }
        int want = sum;
        on("pt0,0,0,0;", "seeds(20, -7)", want, x -> x.seeds(20, -7));
        refused("seeds(0, 0)", CHAIN, -4, x -> x.seeds(0, 0));
        refused("seeds(least, 0)", CHAIN, -4, x -> x.seeds(LEAST, 0));
        refused("seeds(21, 0)", CHAIN, -6, x -> x.seeds(21, 0));
        refused("seeds(greatest, 0)", CHAIN, -6, x -> x.seeds(GREATEST, 0));
        LockedInByNext x = told(CHAIN);
        String before = Checks.stateOf(x);
        x.seeds(20, 3);
        C.due("wakes stay", Checks.stateOf(x), before);
        due("all() stays", x.all(), 30);
    }

    // ---- 30 to 32 ----

    private static void image() {
        C.part("30 and 31");
        LockedInByNext x = told(CHAIN + "s3;r;");
        C.refused("on() of none", x, -3, y -> y.on());
        due("image()", x.image(), 3);
        String before = Checks.stateOf(x);
        for (int twice = 0; twice < 2; twice++) {
            Checks.tell(x, "pt9,9,999,9;k03;w3;s8;o;");
            x.give(0, 2);
            x.lose(1);
            x.wake(0, 77);
            x.watch(4);
            due("people more", x.count(0), 4);
            due("on()", x.on(), 3);
            C.due("as then", Checks.stateOf(x), before);
        }
        x.row(6);
        x.letter(112);
        x.out(9);
        due("on()", x.on(), 3);
        due("the row is not of it", x.count(5), 1);
        due("letters are not of it", x.count(6), 1);
        due("refusals are not of it", x.count(11), 1);
        due("refusals are not of it", x.count(13), 1);
        x.walk(5);
        due("image(), a later one", x.image(), 3);
        x.walk(6);
        x.on();
        due("count(3)", x.count(3), 5);
        x = new LockedInByNext();
        due("image() of nobody", x.image(), 0);
        Checks.tell(x, CHAIN);
        due("on()", x.on(), 0);
        due("keys", x.count(1), 0);
        due("watchers", x.count(2), 0);
        due("all()", x.all(), 0);
        due("out(0)", x.out(0), -1);
    }

    private static void count() {
        C.part("32");
        LockedInByNext x = withRow(CHAIN + "s4;r;", 1, 2);
        x.letter(0);
        x.letter(0);
        x.letter(0);
        x.watch(5);
        int[] want = {3, 2, 5, 4, 1, 2, 3};
        for (int what = 0; what < want.length; what++) {
            due("count(" + what + ")", x.count(what), want[what]);
        }
        x.out(3);
        for (int i = 0; i < 2; i++) {
            x.fewest(7);
        }
        for (int i = 0; i < 3; i++) {
            x.on();
        }
        for (int i = 0; i < 4; i++) {
            x.walk(-1);
        }
        for (int i = 0; i < 5; i++) {
            x.walk(10);
        }
        int[] refusals = {1, 2, 3, 4, 0, 5};
        for (int r = 0; r < 6; r++) {
            due("count(" + (11 + r) + ")", x.count(11 + r), refusals[r]);
        }
        for (int what : new int[] {-1, 7, 8, 9, 10, 17, 100, LEAST, GREATEST}) {
            due("count(" + what + ")", x.count(what), -9);
        }
        due("count(12), not counted", x.count(12), 2);
        due("fewest(1) while the row is a ring", x.fewest(1), 1);
    }
}
