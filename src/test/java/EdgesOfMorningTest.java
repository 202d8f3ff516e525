/**
 * Who comes out when: sentence by sentence of "Terms" from KINDS to BY, and of the promises 4 and 12 to 15,
 * at the edge that the sentence names, just beneath it and just above it. The sentence stands in each remark.
 */
public final class EdgesOfMorningTest {
    private static final String ONE = "pp0,0,0,0;";
    private static final String TWO = ONE + ONE;
    private static final String THREE = ONE + ONE + ONE;
    private static final String SEVEN = THREE + THREE + ONE;

    private static final Checks C = new Checks();

    public static void main(String[] args) {
        up();
        needs();
        helperWalksForNothing();
        thinByTheWindow();
        wayInARow();
        wayInARing();
        walkTimesWay();
        doorsOfHisKeys();
        oneBehindTheOther();
        openOrNot();
        atOnce();
        earliestOpened();
        openedOrUp();
        watcherAtNought();
        windowAtLeast();
        elseNever();
        all();
        late();
        by();
        greatestMinutes();
        C.end("EdgesOfMorningTest");
    }

    private static void due(String call, long got, long want) {
        C.due(call, got, want);
    }

    private static LockedInByNext told(String town) {
        return Checks.told(town);
    }

    private static void outs(String town, int... want) {
        LockedInByNext x = told(town);
        due(town + ": PEOPLE", x.count(0), want.length);
        for (int p = 0; p < want.length; p++) {
            due(town + ": out(" + p + ")", x.out(p), want[p]);
        }
    }

    private static void bys(String town, int... want) {
        LockedInByNext x = told(town);
        for (int p = 0; p < want.length; p++) {
            due(town + ": by(" + p + ")", x.by(p), want[p]);
        }
    }

    /** Terms: "p PERSON: is UP at WAKES", "s .. twice a PERSON's", "b .. at 0", the others as a PERSON. */
    private static void up() {
        C.part("Terms, UP of each KIND");
        int[] wakes = {0, 1, 2, 49, 50, 51, 98, 99};
        int[] twice = {0, 2, 4, 98, 100, 102, 196, 198};
        for (int i = 0; i < wakes.length; i++) {
            int[] want = {wakes[i], wakes[i], twice[i], wakes[i], 0, wakes[i]};
            for (int kind = 0; kind < 6; kind++) {
                String person = "p" + "pqstbh".charAt(kind) + wakes[i] + ",0,0,0;";
                due(person + " UP", told(person).person(0, 5), want[kind]);
                int out = Math.max(want[kind], 1);
                due(person + " OUT of an open door", told(ONE + person + "w0;k10;").out(1), out);
                LockedInByNext x = told("p" + "pqstbh".charAt(kind) + "7,0,0,0;");
                x.wake(0, wakes[i]);
                due(person + " UP by wake()", x.person(0, 5), want[kind]);
            }
        }
    }

    /** Terms: "needs TAKES at a door", "q .. half of a PERSON's, cut"; s and t as a PERSON, b and h as a QUICK. */
    private static void needs() {
        C.part("Terms, what each KIND needs at a door");
        int[] half = {0, 0, 1, 1, 2, 2, 3, 3, 4, 4};
        for (int takes = 0; takes <= 9; takes++) {
            int[] want = {takes, half[takes], takes, takes, half[takes], half[takes]};
            for (int kind = 0; kind < 6; kind++) {
                String person = "p" + "pqstbh".charAt(kind) + "3," + takes + ",0,0;";
                due(person + " needs", told(person).person(0, 6), want[kind]);
                due(person + " has opened", told(person + ONE + "w0;k10;s0;").out(1), want[kind]);
            }
        }
    }

    /** Terms: "h .. needs nothing for walking"; the others do. */
    private static void helperWalksForNothing() {
        C.part("Terms, h needs nothing for walking");
        for (int walk = 0; walk <= 9; walk++) {
            for (int kind = 0; kind < 6; kind++) {
                String town = "p" + "pqstbh".charAt(kind) + "0,0,0,0;" + TWO + "w0;k20;k10;s" + walk + ";";
                boolean helper = kind == 5;
                outs(town, 0, helper ? 0 : walk, helper ? 0 : 2 * walk);
                outs(town + "r;", 0, helper ? 0 : walk, helper ? 0 : 2 * walk);
            }
        }
        outs("ph0,3,0,0;" + TWO + "w0;k20;k10;s9;", 0, 1, 2);
    }

    /** Terms: "t .. comes out by the window at 60 and WAKES, if not before". */
    private static void thinByTheWindow() {
        C.part("Terms, t by the window at 60 and WAKES, if not before");
        int[] wakes = {0, 1, 38, 39, 40, 98, 99};
        for (int w : wakes) {
            outs("pt" + w + ",0,0,0;", 60 + w);
        }
        for (String kind : new String[] {"p", "q", "s", "b", "h"}) {
            outs("p" + kind + "5,0,0,0;", -9);
        }
        // 0 is UP at 63, 64, 65, 66 and opens the door of 1, who wakes at 5, a minute later.
        outs("pp63,0,0,0;pt5,0,0,0;pp0,0,0,0;k02;k10;w2;s1;", 63, 64, 0);
        outs("pp64,0,0,0;pt5,0,0,0;pp0,0,0,0;k02;k10;w2;s1;", 64, 65, 0);
        outs("pp65,0,0,0;pt5,0,0,0;pp0,0,0,0;k02;k10;w2;s1;", 65, 65, 0);
        outs("pp66,0,0,0;pt5,0,0,0;pp0,0,0,0;k02;k10;w2;s1;", 66, 65, 0);
        bys("pp66,0,0,0;pt5,0,0,0;pp0,0,0,0;k02;k10;w2;s1;", 2, 0, -9);
    }

    private static void ways(int people, boolean ring) {
        for (int from = 0; from < people; from++) {
            for (int to = 0; to < people; to++) {
                if (from != to) {
                    LockedInByNext x = told(ONE.repeat(people) + (ring ? "r;" : "o;"));
                    x.watch(1 << from);
                    x.cast(to, from);
                    int right = (to - from + people) % people;
                    int left = (from - to + people) % people;
                    int want = ring ? Math.min(right, left) : Math.max(to - from, from - to);
                    due("WAY from " + from + " to " + to + " of " + people, x.out(to), want);
                    x.walk(9);
                    due("9 times", x.out(to), 9 * want);
                    x.walk(0);
                    due("0 times", x.out(to), 0);
                }
            }
        }
    }

    /** Terms: "WAY between two houses: how far their numbers are apart". */
    private static void wayInARow() {
        C.part("Terms, WAY in a ROW");
        for (int people = 2; people <= 7; people++) {
            ways(people, false);
        }
    }

    /** Terms: "in a RING the shorter way round". */
    private static void wayInARing() {
        C.part("Terms, WAY in a RING");
        for (int people = 2; people <= 7; people++) {
            ways(people, true);
        }
        LockedInByNext x = told(THREE + "w0;k20;r;");
        due("of three", x.out(2), 1);
        Checks.tell(x, ONE);
        due("of four", x.out(2), 2);
        Checks.tell(x, ONE);
        due("of five", x.out(2), 2);
        Checks.tell(x, "k40;");
        due("from 2 to 4 of five", x.out(4), 4);
    }

    /** Terms: "WALK times WAY, then what he needs at a door: at that minute he has OPENED it." */
    private static void walkTimesWay() {
        C.part("Terms, WALK times WAY, then what he needs");
        outs("pp0,9,0,0;" + TWO + "w0;k20;s9;", 0, -9, 27);
        outs("pp0,9,0,0;" + TWO + "w0;k20;s0;", 0, -9, 9);
        outs("pp0,0,0,0;" + TWO + "w0;k20;s9;", 0, -9, 18);
        outs("pp0,1,0,0;" + TWO + "w0;k20;s1;", 0, -9, 3);
    }

    /** Terms: "to the DOORS of which he holds KEYS (his own left out, each once, by numbers ..)". */
    private static void doorsOfHisKeys() {
        C.part("Terms, his own left out, each once, by numbers");
        String three = "pp0,0,0,0;pp0,2,0,0;pp0,0,0,0;w1;";
        outs(three + "k01;k21;", 3, 0, 7);
        outs(three + "k21;k01;", 3, 0, 7);
        outs(three + "k11;k21;k01;", 3, 0, 7);
        outs(three + "k01;k01;k21;", 3, 0, 7);
        outs(three + "k21;k01;k21;", 3, 0, 7);
        outs(three + "k21;k11;", -9, 0, 3);
        outs(three + "k21;k21;k21;", -9, 0, 3);
        outs(three + "k11;", -9, 0, -9);
        outs(SEVEN + "w3;k63;k53;k43;k23;k13;k03;s1;", 3, 4, 5, 0, 7, 8, 9);
        outs(SEVEN + "w3;k63;k53;k43;k23;k13;k03;r;", 3, 4, 5, 0, 7, 8, 9);
        outs(SEVEN + "w0;k60;k10;k50;r;", 0, 1, -9, -9, -9, 4, 5);
    }

    /** Terms: "one behind the other": from a DOOR to the next, not from his own house again. */
    private static void oneBehindTheOther() {
        C.part("Terms, one behind the other");
        outs("pp0,1,0,0;" + TWO + ONE + "w0;k10;k20;k30;", 0, 2, 4, 6);
        outs("pp0,1,0,0;" + TWO + ONE + "w0;k10;k30;s4;", 0, 5, -9, 14);
        outs(TWO + "pp0,1,0,0;" + ONE + "w2;k02;k12;k32;s4;", 9, 14, 0, 23);
        outs("pp0,3,0,0;" + TWO + "w0;k10;k20;s0;", 0, 3, 6);
    }

    /** Terms: "whether they are open or not". */
    private static void openOrNot() {
        C.part("Terms, whether they are open or not");
        outs("pp0,3,0,0;" + TWO + "w0;w1;k10;k20;", 0, 0, 8);
        outs("pp0,3,0,0;" + THREE + "w0;w3;k13;k10;k20;", 0, 2, 8, 0);
        outs("pp0,3,0,0;pt0,0,0,0;" + ONE + "w0;k10;k20;", 0, 4, 8);
    }

    /** Terms: "Whoever is OUT goes from his own house at once". */
    private static void atOnce() {
        C.part("Terms, whoever is OUT goes at once");
        outs("pp0,0,0,0;pp9,0,0,0;pp0,0,0,0;w0;k10;k21;", 0, 9, 10);
        outs("pp0,0,0,0;pp0,0,0,0;pp0,0,0,0;w0;k10;k21;", 0, 1, 2);
        outs("pt9,0,0,0;pp0,0,0,0;pp0,0,0,0;k10;k21;", 69, 70, 71);
        outs("pp0,0,0,0;pp99,0,0,0;pp0,0,0,0;w1;k01;k20;", 1, 0, 3);
        outs(TWO + "w0;k10;k01;s0;", 0, 0);
        outs(SEVEN + "w6;k56;k45;k34;k23;k12;k01;s0;", 0, 0, 0, 0, 0, 0, 0);
        outs(SEVEN + "w6;k56;k45;k34;k23;k12;k01;s1;", 6, 5, 4, 3, 2, 1, 0);
    }

    /** Terms: "A PERSON is OUT at the earliest minute at which one has OPENED the door". */
    private static void earliestOpened() {
        C.part("Terms, the earliest minute at which one has OPENED the door");
        String[] others = {"pp0,3,0,0;", "pp0,4,0,0;", "pp0,5,0,0;"};
        int[] out = {4, 5, 5};
        for (int i = 0; i < 3; i++) {
            outs("pp0,4,0,0;pp0,0,0,0;" + others[i] + "w0;w2;k10;k12;", 0, out[i], 0);
            outs("pp0,4,0,0;pp0,0,0,0;" + others[i] + "w0;w2;k12;k10;", 0, out[i], 0);
            outs(others[i] + "pp0,0,0,0;pp0,4,0,0;w0;w2;k10;k12;", 0, out[i], 0);
        }
        // 1 is OUT first, but has opened the door of 2 at 10 only; 0, OUT at 5, has at 9, 10, 11.
        outs("pp5,4,0,0;pp0,5,0,0;pp0,0,0,0;w1;s0;k01;k20;k21;", 5, 0, 9);
        outs("pp5,5,0,0;pp0,5,0,0;pp0,0,0,0;w1;s0;k01;k20;k21;", 5, 0, 10);
        outs("pp5,6,0,0;pp0,5,0,0;pp0,0,0,0;w1;s0;k01;k20;k21;", 5, 0, 10);
    }

    /** Terms: "or when UP, if that is later". */
    private static void openedOrUp() {
        C.part("Terms, or when UP, if that is later");
        outs("pp0,8,0,0;pp10,0,0,0;w0;k10;", 0, 10);
        outs("pp0,9,0,0;pp10,0,0,0;w0;k10;", 0, 10);
        outs("pp0,9,0,0;pp10,0,0,0;w0;k10;s2;", 0, 11);
        outs("pp0,9,0,0;ps5,0,0,0;w0;k10;", 0, 10);
        outs("pp0,9,0,0;ps5,0,0,0;w0;k10;s2;", 0, 11);
        outs("pp0,8,0,0;ps5,0,0,0;w0;k10;", 0, 10);
        outs("pp0,9,0,0;pb99,0,0,0;w0;k10;", 0, 10);
        outs("pp0,0,0,0;pp0,0,0,0;w0;k10;s0;", 0, 0);
        outs("pp0,0,0,0;pp1,0,0,0;w0;k10;s0;", 0, 1);
        outs("pp0,0,0,0;pp99,0,0,0;w0;k10;s0;", 0, 99);
        outs("pp0,0,0,0;ps99,0,0,0;w0;k10;s0;", 0, 198);
    }

    /** Terms: "WATCHERS: they are out from minute 0 on"; "a WATCHER at 0": be he UP or not, his door open or not. */
    private static void watcherAtNought() {
        C.part("Terms, a WATCHER at 0");
        for (String kind : new String[] {"p", "q", "s", "t", "b", "h"}) {
            outs("p" + kind + "99,9,0,0;w0;", 0);
            outs("p" + kind + "99,9,0,0;w0;k00;", 0);
            outs("p" + kind + "99,9,0,0;" + ONE + "w0;w1;k01;s0;", 0, 0);
        }
        LockedInByNext x = told("pp99,0,0,0;w0;");
        x.watch(0);
        due("no WATCHER any more", x.out(0), -9);
    }

    /** Terms: "a THIN one by the window at least": at 60 and WAKES, though nobody opens, or opens later. */
    private static void windowAtLeast() {
        C.part("Terms, a THIN one by the window at least");
        outs("pt0,0,0,0;", 60);
        outs("pt0,0,0,0;k00;", 60);
        outs("pt10,0,0,0;w0;", 0);
        outs("pt0,0,0,0;pp99,0,0,0;pp0,0,0,0;w2;k12;k01;s0;", 60, 99, 0);
        outs("pt99,0,0,0;pp0,0,0,0;w1;k01;s0;", 99, 0);
        LockedInByNext x = told("pt99,0,0,0;");
        x.wake(0, 0);
        due("WAKES of the window are those of now", x.out(0), 60);
    }

    /** Terms: "else never." */
    private static void elseNever() {
        C.part("Terms, else never");
        outs(ONE, -9);
        outs(ONE + "k00;", -9);
        outs(TWO + "k01;k10;", -9, -9);
        outs(TWO + "w0;", 0, -9);
        outs(TWO + "w0;k11;k00;k01;", 0, -9);
        outs(SEVEN + "w0;k10;k21;k32;k43;k54;s0;", 0, 0, 0, 0, 0, 0, -9);
        outs(THREE + "w0;k21;k12;", 0, -9, -9);
    }

    private static void alls(String town, int want) {
        due(town + ": all()", told(town).all(), want);
    }

    /** Terms: "ALL: when the last is OUT; -9 somebody never." */
    private static void all() {
        C.part("Terms, ALL; 13");
        alls("", 0);
        alls("s9;r;", 0);
        alls(ONE, -9);
        alls(ONE + "w0;", 0);
        alls(TWO + "w0;", -9);
        alls(TWO + "w1;", -9);
        alls(TWO + "w0;w1;", 0);
        alls(TWO + "w0;k10;", 1);
        alls(TWO + "w1;k01;", 1);
        alls("pp0,0,0,0;pp7,0,0,0;pp6,0,0,0;w0;k10;k20;", 7);
        alls("pp0,0,0,0;pp6,0,0,0;pp7,0,0,0;w0;k10;k20;", 7);
        alls("pp7,0,0,0;pp6,0,0,0;pp6,0,0,0;w1;k01;k21;", 7);
        alls(SEVEN + "w0;w1;w2;w3;w4;w5;", -9);
        alls(SEVEN + "w1;w2;w3;w4;w5;w6;", -9);
        alls(SEVEN + "w0;w1;w2;w3;w4;w5;w6;", 0);
        alls("pt99,0,0,0;pt98,0,0,0;", 159);
    }

    private static void lates(String town, int want) {
        due(town + ": late()", told(town).late(), want);
    }

    /** Terms: "LATE: PEOPLE (bits) who are OUT behind DUE, or never." */
    private static void late() {
        C.part("Terms, LATE; 14");
        lates("", 0);
        lates("pp0,4,0,0;pp0,0,4,0;w0;k10;", 2);
        lates("pp0,4,0,0;pp0,0,5,0;w0;k10;", 0);
        lates("pp0,4,0,0;pp0,0,6,0;w0;k10;", 0);
        lates("pt99,0,158,0;", 1);
        lates("pt99,0,159,0;", 0);
        lates("pt99,0,160,0;", 0);
        lates("pp0,0,999,0;", 1);
        lates("pp0,0,0,0;w0;", 0);
        lates("pp0,0,0,0;pp0,0,0,0;w0;s0;k10;", 0);
        lates("pp0,0,0,0;pp0,0,0,0;w0;s1;k10;", 2);
        lates(SEVEN, 127);
        lates(SEVEN + "w0;", 126);
        lates(SEVEN + "w6;", 63);
        lates(SEVEN + "w3;", 119);
    }

    /** Terms: "BY: who OPENS one first (of several the least number); -9." */
    private static void by() {
        C.part("Terms, BY; 15");
        bys(ONE, -9);
        bys(ONE + "w0;", -9);
        bys(ONE + "w0;k00;", -9);
        bys(TWO + "k10;k01;", -9, -9);
        bys(TWO + "w0;k10;", -9, 0);
        bys(TWO + "w0;w1;k10;k01;", 1, 0);
        String[] others = {"pp0,3,0,0;", "pp0,4,0,0;", "pp0,5,0,0;"};
        int[] first = {2, 0, 0};
        for (int i = 0; i < 3; i++) {
            bys("pp0,4,0,0;pp0,0,0,0;" + others[i] + "w0;w2;k10;k12;", -9, first[i], -9);
            bys("pp0,4,0,0;pp0,0,0,0;" + others[i] + "w0;w2;k12;k10;", -9, first[i], -9);
        }
        // 1, out at 0, has opened at 10; 0, out at 5, at 9, 10, 11.
        bys("pp5,4,0,0;pp0,5,0,0;pp0,0,0,0;w1;s0;k01;k20;k21;", 1, -9, 0);
        bys("pp5,5,0,0;pp0,5,0,0;pp0,0,0,0;w1;s0;k01;k20;k21;", 1, -9, 0);
        bys("pp5,6,0,0;pp0,5,0,0;pp0,0,0,0;w1;s0;k01;k20;k21;", 1, -9, 1);
        bys(SEVEN + "w0;w1;w2;w3;w4;w5;k65;k64;k63;s0;", -9, -9, -9, -9, -9, -9, 3);
        bys(SEVEN + "w6;w5;k06;k05;s0;", 5, -9, -9, -9, -9, -9, -9);
        bys(SEVEN + "w6;w5;k06;k05;s1;", 5, -9, -9, -9, -9, -9, -9);
        bys(SEVEN + "w6;w5;k06;k05;r;", 6, -9, -9, -9, -9, -9, -9);
        bys("pt0,0,0,0;pt1,0,0,0;k10;k01;", 1, 0);
        bys(TWO + "w0;k10;k01;s0;", 1, 0);
    }

    /** The greatest minutes that a town can come to are told as they are. */
    private static void greatestMinutes() {
        C.part("12, the greatest minutes");
        outs("ps99,9,0,0;ps99,9,0,0;w0;k10;s9;", 0, 198);
        outs("pp0,9,0,0;" + "ps99,9,0,0;".repeat(6) + "w6;k06;s9;", 63, -9, -9, -9, -9, -9, 0);
        String six = "pp0,9,0,0;ps0,9,0,0;ps0,9,0,0;pp0,9,DUE,0;ps0,9,0,0;ps0,9,0,0;ps99,9,0,0;";
        String keys = "w0;k60;k16;k51;k25;k42;k34;s9;";
        outs(six.replace("DUE", "0") + keys, 0, 252, 333, 378, 360, 297, 198);
        alls(six.replace("DUE", "0") + keys, 378);
        lates(six.replace("DUE", "377") + keys, 126);
        lates(six.replace("DUE", "378") + keys, 118);
        lates(six.replace("DUE", "379") + keys, 118);
    }
}
