import java.util.Arrays;
import java.util.function.ToIntFunction;

/**
 * What would be, if: sentence by sentence of "Terms" from FEWEST to SEEDS, and of the promises 16 to 29,
 * at the edge that the sentence names, just beneath it and just above it. The sentence stands in each remark.
 * That a question changes nothing is looked at with each answer.
 */
public final class EdgesOfAnswersTest {
    private static final String ONE = "pp0,0,0,0;";
    private static final String TWO = ONE + ONE;
    private static final String THREE = ONE + ONE + ONE;
    private static final String SIX = THREE + THREE;
    private static final String SEVEN = SIX + ONE;
    private static final int LEAST = Integer.MIN_VALUE;
    private static final int GREATEST = Integer.MAX_VALUE;

    private static final Checks C = new Checks();
    private static final Scenes SCENES = new Scenes(C);

    public static void main(String[] args) {
        fewestHowMany();
        fewestTheyAlone();
        fewestWindows();
        fewestFirst();
        soonestSize();
        soonestLeast();
        soonestWindows();
        copyLess();
        copyNever();
        copyEleventh();
        copyOfSeveral();
        copiesTold();
        copiesHowMany();
        copiesWindows();
        copiesRoom();
        ringsJustOne();
        ringsHowMany();
        swap();
        goneWhoWould();
        goneKeys();
        breakAtTheLeastCost();
        breakOfSeveral();
        breakOpenedThen();
        fire();
        lot();
        rowOfNumbers();
        overslept();
        rowOfThoseWhoAreThere();
        judgedFirst();
        judgedEnds();
        judgedTakesTheRow();
        seedsHowMany();
        seedsDraws();
        seedsSigns();
        seedsByNumbers();
        seedsThatAllComeOut();
        C.end("EdgesOfAnswersTest");
    }

    private static void on(String town, String call, int want, ToIntFunction<LockedInByNext> made) {
        SCENES.asked(() -> Checks.told(town), call + " of " + town, want, made);
    }

    private static void fewestOf(String town, int set) {
        on(town, "fewest(0)", Integer.bitCount(set), x -> x.fewest(0));
        on(town, "fewest(1)", set, x -> x.fewest(1));
    }

    private static void soonestOf(String town, int set, int all) {
        on(town, "soonest(0)", set, x -> x.soonest(0));
        on(town, "soonest(1)", all, x -> x.soonest(1));
    }

    /** Terms: "FEWEST: the fewest WATCHERS .. by whom all come OUT". */
    private static void fewestHowMany() {
        C.part("Terms, FEWEST; 16");
        fewestOf("", 0);
        fewestOf(ONE, 1);
        fewestOf(ONE + "k00;", 1);
        fewestOf(TWO, 3);
        fewestOf(TWO + "k10;", 1);
        fewestOf(SEVEN, 127);
        fewestOf(SEVEN + "k10;", 125);
        fewestOf(SEVEN + "k01;", 126);
        fewestOf(SEVEN + "k06;", 126);
        fewestOf(SEVEN + "k60;", 63);
        fewestOf(SEVEN + "k10;k21;k32;k43;k54;k65;", 1);
        fewestOf(SEVEN + "k01;k12;k23;k34;k45;k56;", 64);
        fewestOf(SEVEN + "k03;k13;k23;k43;k53;k63;", 8);
        fewestOf("ps99,0,0,9;ps99,0,0,9;k01;k11;", 2);
    }

    /** Terms: "(they alone)": those who watch now do not count. */
    private static void fewestTheyAlone() {
        C.part("Terms, FEWEST, they alone");
        fewestOf(ONE + "w0;", 1);
        fewestOf(TWO + "w0;", 3);
        fewestOf(TWO + "w0;w1;k10;", 1);
        fewestOf(SEVEN + "w1;w3;w5;", 127);
        soonestOf(TWO + "w1;k10;", 1, 1);
    }

    /** Terms: "windows left out". */
    private static void fewestWindows() {
        C.part("Terms, FEWEST, windows left out");
        fewestOf("pt0,0,0,0;", 1);
        fewestOf("pt0,0,0,0;" + ONE + "k10;", 1);
        fewestOf("pt0,0,0,0;" + ONE + "k01;", 2);
        fewestOf("pt0,0,0,0;pt0,0,0,0;", 3);
    }

    /** Terms: "the first such set (least bits)". */
    private static void fewestFirst() {
        C.part("Terms, FEWEST, the first such set");
        fewestOf(TWO + "k10;k01;", 1);
        fewestOf(THREE + "k10;k21;k02;", 1);
        fewestOf(THREE + "k21;k12;k01;", 2);
        fewestOf(THREE + ONE + "k10;k01;k32;k23;", 5);
        fewestOf(THREE + ONE + "k20;k02;k31;k13;", 3);
        fewestOf(SEVEN + "k56;k65;k05;k15;k25;k35;k45;", 32);
    }

    /** Terms: "SOONEST: of all sets of as many WATCHERS as FEWEST". */
    private static void soonestSize() {
        C.part("Terms, SOONEST, as many WATCHERS as FEWEST; 17");
        soonestOf("", 0, 0);
        soonestOf(ONE, 1, 0);
        soonestOf("pp99,0,0,0;", 1, 0);
        soonestOf(TWO, 3, 0);
        soonestOf("pp9,0,0,0;pp9,0,0,0;k10;k01;", 1, 9);
        soonestOf("pp9,0,0,0;pp8,0,0,0;pp9,0,0,0;pp8,0,0,0;k10;k01;k32;k23;", 5, 8);
        soonestOf(SEVEN, 127, 0);
        // Nobody at all would do as well, by the window at 60.
        soonestOf("pt0,0,0,0;ps99,0,0,0;ps99,0,0,0;k10;k20;", 1, 198);
        soonestOf("pt0,0,0,0;ps99,0,0,0;" + ONE + "k10;", 6, 60);
    }

    /** Terms: "that by which ALL .. is least, of several the least bits; ALL then". */
    private static void soonestLeast() {
        C.part("Terms, SOONEST, ALL is least, of several the least bits");
        String keys = "k10;k21;k02;s0;";
        soonestOf("pp30,0,0,0;pp30,0,0,0;pp30,0,0,0;" + keys, 1, 30);
        soonestOf("pp29,0,0,0;pp30,0,0,0;pp30,0,0,0;" + keys, 1, 30);
        soonestOf("pp30,0,0,0;pp29,0,0,0;pp30,0,0,0;" + keys, 1, 30);
        soonestOf("pp30,0,0,0;pp30,0,0,0;pp29,0,0,0;" + keys, 1, 30);
        soonestOf("pp31,0,0,0;pp30,0,0,0;pp30,0,0,0;" + keys, 1, 30);
        soonestOf("pp30,0,0,0;pp31,0,0,0;pp30,0,0,0;" + keys, 2, 30);
        soonestOf("pp30,0,0,0;pp30,0,0,0;pp31,0,0,0;" + keys, 4, 30);
        soonestOf("ps99,0,0,0;ps99,9,0,0;k10;k01;", 1, 198);
        soonestOf(SIX + "pp1,0,0,0;k06;k10;k21;k32;k43;k54;k65;s0;", 64, 0);
    }

    /** Terms: "(windows as they are)": a set that needs one may be the soonest. */
    private static void soonestWindows() {
        C.part("Terms, SOONEST, windows as they are");
        soonestOf("pt29,0,0,0;pp90,0,0,0;k10;", 2, 89);
        soonestOf("pt30,0,0,0;pp90,0,0,0;k10;", 1, 90);
        soonestOf("pt31,0,0,0;pp90,0,0,0;k10;", 1, 90);
        soonestOf("pt0,0,0,0;pt0,0,0,0;", 3, 0);
        soonestOf("pt0,0,0,0;pp60,0,0,0;k10;", 1, 60);
        soonestOf("pt0,0,0,0;pp61,0,0,0;k10;", 2, 60);
        soonestOf("pt0,0,0,0;pp59,0,0,0;k10;", 1, 59);
    }

    private static void copyOf(String town, int want) {
        on(town, "copy()", want, x -> x.copy());
    }

    /** Terms: "COPY: the KEY more by which ALL is least, less than now". */
    private static void copyLess() {
        C.part("Terms, COPY, less than now; 18");
        String keys = "w0;w1;s0;k20;";
        copyOf("pp0,5,0,0;pp0,4,0,0;" + ONE + keys, 21);
        copyOf("pp0,5,0,0;pp0,5,0,0;" + ONE + keys, -9);
        copyOf("pp0,5,0,0;pp0,6,0,0;" + ONE + keys, -9);
        copyOf("pp0,5,0,0;pp0,4,0,0;pp4,0,0,0;" + keys, 21);
        copyOf("pp0,5,0,0;pp0,4,0,0;pp5,0,0,0;" + keys, -9);
        copyOf(ONE, -9);
        copyOf(ONE + "w0;", -9);
        copyOf(TWO + "w0;w1;", -9);
        copyOf("pt0,0,0,0;pp60,0,0,0;w1;k11;s0;", 1);
        copyOf("pt0,0,0,0;pp0,9,0,0;w1;k01;", -9);
    }

    /** Terms: "(somebody never: more than any number)". */
    private static void copyNever() {
        C.part("Terms, COPY, somebody never: more than any number");
        copyOf("pp0,9,0,0;ps99,9,0,0;w0;s9;", 10);
        copyOf("ps99,9,0,0;pp0,9,0,0;w1;s9;", 1);
        copyOf(THREE + "w0;", -9);
        copyOf(THREE + "w0;k10;", 20);
        copyOf(TWO, -9);
        copyOf("pt0,0,0,0;" + ONE, 10);
        copyOf(SEVEN + "w0;k10;k20;k30;k40;k50;s0;", 60);
        copyOf(SEVEN + "w6;k16;k26;k36;k46;k56;s0;", 1);
    }

    /** Terms: "(also an eleventh)". */
    private static void copyEleventh() {
        C.part("Terms, COPY, also an eleventh");
        for (int keys = 8; keys <= 10; keys++) {
            copyOf(TWO + "w0;" + "k00;".repeat(keys), 10);
            copyOf(TWO + "w0;" + "k10;".repeat(keys), -9);
        }
    }

    /** Terms: "of several the least as 10 times DOOR and HELD". */
    private static void copyOfSeveral() {
        C.part("Terms, COPY, of several the least");
        copyOf("pp0,5,0,0;pp0,5,0,0;" + ONE + "w0;w1;s0;", 20);
        copyOf("pp0,5,0,0;pp0,4,0,0;" + ONE + "w0;w1;s0;", 21);
        copyOf("pp0,5,0,0;pp0,6,0,0;" + ONE + "w0;w1;s0;", 20);
        String keys = "w0;k12;k21;s0;";
        copyOf(ONE + "pp0,5,0,0;pp0,5,0,0;" + keys, 10);
        copyOf(ONE + "pp0,5,0,0;pp0,4,0,0;" + keys, 20);
        copyOf(ONE + "pp0,4,0,0;pp0,5,0,0;" + keys, 10);
        copyOf(SEVEN + "w0;w1;w2;w3;w4;w5;s0;", 60);
        copyOf("pp0,1,0,0;".repeat(5) + TWO + "w0;w1;w2;w3;w4;w5;s0;", 65);
        copyOf(ONE + "pp0,1,0,0;".repeat(5) + ONE + "w1;w2;w3;w4;w5;w6;s0;", 6);
    }

    private static void copiesOf(String town, int minute, int want) {
        on(town, "copies(" + minute + ")", want, x -> x.copies(minute));
    }

    /** Terms: "by which ALL is no more than told; -9". */
    private static void copiesTold() {
        C.part("Terms, COPIES, ALL is no more than told; 19");
        String town = "pp0,5,0,0;pp0,4,0,0;" + ONE + "w0;w1;s0;k20;";
        copiesOf(town, 6, 0);
        copiesOf(town, 5, 0);
        copiesOf(town, 4, 1);
        copiesOf(town, 3, -9);
        copiesOf(town, 0, -9);
        copiesOf(town, GREATEST - 1, 0);
        copiesOf(town, GREATEST, 0);
        copiesOf(TWO + "w0;s0;", 0, 1);
        copiesOf(TWO + "w0;s1;", 0, -9);
        copiesOf(TWO + "w0;s1;", 1, 1);
        copiesOf("", 0, 0);
        copiesOf("", GREATEST, 0);
        copiesOf(TWO, GREATEST - 1, -9);
        copiesOf(TWO, GREATEST, -9);
        copiesOf("pp0,0,0,0;ps99,0,0,0;w0;", 197, -9);
        copiesOf("pp0,0,0,0;ps99,0,0,0;w0;", 198, 1);
        copiesOf("pp0,0,0,0;ps99,0,0,0;w0;", 199, 1);
    }

    /** Terms: "ALL" with the windows: a THIN one may come out without a KEY. */
    private static void copiesWindows() {
        C.part("Terms, COPIES, windows");
        copiesOf("pt7,0,0,0;", 66, -9);
        copiesOf("pt7,0,0,0;", 67, 0);
        copiesOf("pt7,0,0,0;" + ONE + "s0;", 66, -9);
        copiesOf("pt7,0,0,0;" + ONE + "s0;", 67, 1);
        copiesOf("pt7,0,0,0;" + ONE + "w1;s0;", 67, 0);
        copiesOf("pt7,0,0,0;" + ONE + "w1;s0;", 66, 1);
        copiesOf("pt7,0,0,0;" + ONE + "w1;s0;", 7, 1);
        copiesOf("pt7,0,0,0;" + ONE + "w1;s0;", 6, -9);
    }

    /** Terms: "COPIES: the fewest KEYS more (0, 1, 2)". */
    private static void copiesHowMany() {
        C.part("Terms, COPIES, 0, 1, 2");
        copiesOf(SIX + "w0;k10;k20;k30;k40;k50;", 99, 0);
        copiesOf(SIX + "w0;k10;k20;k30;k40;", 99, 1);
        copiesOf(SIX + "w0;k10;k20;k30;", 99, 2);
        copiesOf(SIX + "w0;k10;k20;", 99, -9);
        copiesOf(SEVEN + "w6;k06;k16;k26;k36;", 99, 2);
        copiesOf(SEVEN + "w6;k26;k36;k46;k56;", 99, 2);
        copiesOf(SEVEN + "w0;w1;w2;w3;w4;s0;", 0, 2);
        copiesOf(SEVEN + "w2;w3;w4;w5;w6;s0;", 0, 2);
        // Each of the two may be opened by one at once, but one for both needs a minute between them.
        copiesOf("pp0,1,0,0;pp0,1,0,0;" + TWO + "w0;w1;s0;", 1, 2);
        copiesOf("pp0,1,0,0;pp0,1,0,0;" + TWO + "w0;w1;s0;", 0, -9);
        // 0 opens 1 at 2 and 2 at 4; 2, who needs nothing, then 3.
        copiesOf("pp0,2,0,0;pp0,9,0,0;pp0,0,0,0;" + ONE + "w0;s0;k10;", 4, 2);
        copiesOf("pp0,2,0,0;pp0,9,0,0;pp0,0,0,0;" + ONE + "w0;s0;k10;", 3, -9);
        copiesOf(THREE + "w0;w1;w2;", 0, 0);
        // 6 opens 0 at 7, and 0, who needs nothing there, opens 1 at 8; the others need 9 at a door.
        String far = ONE + "pp0,9,0,0;".repeat(5) + "pp0,1,0,0;w2;w3;w4;w5;w6;";
        copiesOf(far, 8, 2);
        copiesOf(far, 7, -9);
    }

    /** Terms: "KEYS more" as with COPY: an eleventh and a twelfth, too. */
    private static void copiesRoom() {
        C.part("Terms, COPIES, an eleventh and a twelfth");
        for (int keys = 8; keys <= 10; keys++) {
            String own = "k00;".repeat(keys);
            copiesOf(TWO + "w0;w1;" + own, 99, 0);
            copiesOf(TWO + "w0;" + own, 99, 1);
            copiesOf(THREE + "w0;" + own, 99, 2);
            copiesOf(THREE + ONE + "w0;" + own, 99, -9);
        }
    }

    private static void ringsOf(String town, int want) {
        on(town, "rings()", want, x -> x.rings());
    }

    /** Terms: "RINGS: if each PERSON has just one KEY and each DOOR just one: ..; -9 it is not so." */
    private static void ringsJustOne() {
        C.part("Terms, RINGS, just one; 20");
        ringsOf("", 0);
        ringsOf(ONE, -9);
        ringsOf(ONE + "k00;", 1);
        ringsOf(ONE + "k00;k00;", -9);
        ringsOf(TWO + "k10;", -9);
        ringsOf(TWO + "k10;k01;", 1);
        ringsOf(TWO + "k10;k01;k00;", -9);
        ringsOf(TWO + "k10;k00;", -9);
        ringsOf(TWO + "k10;k11;", -9);
        ringsOf(TWO + "k01;k01;", -9);
        ringsOf(THREE + "k10;k21;k12;", -9);
        ringsOf(THREE + "k10;k20;k02;", -9);
        String seven = SEVEN + "k10;k21;k32;k43;k54;k65;";
        ringsOf(seven, -9);
        ringsOf(seven + "k06;", 1);
        ringsOf(seven + "k06;k06;", -9);
        ringsOf(seven + "k05;", -9);
        ringsOf(seven + "k16;", -9);
        ringsOf(seven + "k60;", -9);
        ringsOf(seven.replace("k65;", "") + "k05;k66;", 2);
    }

    /** Terms: "how many rings that is". */
    private static void ringsHowMany() {
        C.part("Terms, RINGS, how many");
        ringsOf(THREE + "k00;k11;k22;", 3);
        ringsOf(THREE + "k10;k01;k22;", 2);
        ringsOf(THREE + "k00;k21;k12;", 2);
        ringsOf(THREE + "k20;k11;k02;", 2);
        ringsOf(THREE + "k20;k12;k01;", 1);
        ringsOf(THREE + "w0;w1;w2;s0;r;k10;k21;k02;", 1);
        ringsOf(SEVEN + "k00;k11;k22;k33;k44;k55;k66;", 7);
        ringsOf(SEVEN + "k60;k51;k42;k33;k24;k15;k06;", 4);
    }

    private static void swapOf(String town, int want) {
        on(town, "swap()", want, x -> x.swap());
    }

    /** Terms: "SWAP: two KEYS whose HOLDERS are changed so that RINGS are fewer: the first ..; -9." */
    private static void swap() {
        C.part("Terms, SWAP; 21");
        swapOf("", -9);
        swapOf(ONE, -9);
        swapOf(ONE + "k00;", -9);
        swapOf(TWO + "k10;k01;", -9);
        swapOf(TWO + "k00;k11;", 1);
        swapOf(TWO + "k00;k10;", -9);
        swapOf(TWO + "k00;k11;k11;", -9);
        swapOf(THREE + "k00;k11;k22;", 1);
        swapOf(THREE + "k10;k01;k22;", 2);
        swapOf(THREE + "k10;k22;k01;", 1);
        swapOf(THREE + "k22;k10;k01;", 1);
        swapOf(SEVEN + "k10;k21;k32;k43;k54;k05;k66;", 6);
        swapOf(SEVEN + "k10;k21;k32;k43;k04;k65;k56;", 5);
        swapOf(SEVEN + "k66;k10;k21;k32;k43;k54;k05;", 1);
        swapOf(SEVEN + "k10;k21;k32;k43;k54;k65;k06;", -9);
        SCENES.asked(() -> cast(THREE, 0, 21, 12), "swap() of KEYS that were cast", 1, x -> x.swap());
        SCENES.asked(() -> cast(THREE, 10, 1, 22), "swap() of KEYS that were cast", 2, x -> x.swap());
        SCENES.asked(() -> cast(THREE, 10, 21, 2), "swap() of KEYS that were cast", -9, x -> x.swap());
    }

    private static LockedInByNext cast(String town, int... doorsAndHolders) {
        LockedInByNext x = Checks.told(town);
        for (int k : doorsAndHolders) {
            x.cast(k / 10, k % 10);
        }
        return x;
    }

    private static void goneOf(String town, int key, int want) {
        on(town, "gone(" + key + ")", want, x -> x.gone(key));
    }

    /** Terms: "GONE: PEOPLE (bits) who never come OUT, if a KEY is gone, and would now." */
    private static void goneWhoWould() {
        C.part("Terms, GONE, never, and would now; 22");
        goneOf(TWO + "w0;k10;", 0, 2);
        goneOf(TWO + "k10;", 0, 0);
        goneOf(TWO + "w0;w1;k10;", 0, 0);
        goneOf(TWO + "w0;k00;", 0, 0);
        goneOf(THREE + "w0;k10;", 0, 2);
        goneOf(THREE + "w0;k10;k21;", 0, 6);
        goneOf(THREE + "w0;k10;k21;", 1, 4);
        goneOf(THREE + "w0;k10;k10;k21;", 0, 0);
        goneOf(THREE + "w0;k10;k10;k21;", 1, 0);
        goneOf(THREE + "w0;k10;k12;k20;k21;", 0, 0);
        goneOf(ONE + "pt0,0,0,0;" + ONE + "w0;k10;k21;", 0, 0);
        goneOf(ONE + "pt0,0,0,0;" + ONE + "w0;k10;k21;", 1, 4);
        goneOf("pp0,9,0,0;" + TWO + "w0;k10;k20;s9;", 0, 2);
        goneOf(SEVEN + "w6;k06;k10;k21;k32;k43;k54;", 0, 63);
        goneOf(SEVEN + "w0;k10;k21;k32;k43;k54;k65;", 0, 126);
    }

    /** Promise 22: the first KEY and the last of ten; those behind it are still there. */
    private static void goneKeys() {
        C.part("22, the first KEY and the last");
        String ten = TWO + "w0;k10;" + "k00;".repeat(9);
        goneOf(ten, 0, 2);
        goneOf(ten, 1, 0);
        goneOf(ten, 9, 0);
        String last = TWO + "w0;" + "k00;".repeat(9) + "k10;";
        goneOf(last, 9, 2);
        goneOf(last, 8, 0);
        goneOf(last, 0, 0);
    }

    private static void breakingOf(String town, int doors, int cost) {
        on(town, "breaking(0)", doors, x -> x.breaking(0));
        on(town, "breaking(1)", cost, x -> x.breaking(1));
    }

    /** Terms: "BREAK: DOORS (bits) that, broken .., let all come OUT, at the least COST together". */
    private static void breakAtTheLeastCost() {
        C.part("Terms, BREAK, at the least COST together; 23");
        breakingOf("", 0, 0);
        breakingOf("pp0,0,0,9;", 1, 9);
        breakingOf("pp0,0,0,0;", 1, 0);
        breakingOf("pp0,0,0,9;w0;", 0, 0);
        breakingOf("pp0,0,0,0;w0;", 0, 0);
        String ring = "k10;k21;k02;";
        breakingOf("pp0,0,0,5;pp0,0,0,5;pp0,0,0,4;" + ring, 4, 4);
        breakingOf("pp0,0,0,5;pp0,0,0,4;pp0,0,0,5;" + ring, 2, 4);
        breakingOf("pp0,0,0,4;pp0,0,0,5;pp0,0,0,5;" + ring, 1, 4);
        // Two at 1 are less than one at 3, and more than one at 1.
        breakingOf("pp0,0,0,1;pp0,0,0,1;pp0,0,0,3;k02;k12;", 4, 3);
        breakingOf("pp0,0,0,1;pp0,0,0,1;pp0,0,0,9;w0;k21;", 2, 1);
        breakingOf("pp0,0,0,9;".repeat(7), 127, 63);
        breakingOf("pp0,0,0,9;".repeat(7) + "w0;w1;w2;w3;w4;w5;", 64, 9);
        breakingOf("pp0,0,0,9;".repeat(6) + "pp0,0,0,1;k06;k10;k21;k32;k43;k54;", 64, 1);
        breakingOf("pt0,0,0,0;", 0, 0);
    }

    /** Terms: "of several the least bits". */
    private static void breakOfSeveral() {
        C.part("Terms, BREAK, of several the least bits");
        String ring = "k10;k21;k02;";
        breakingOf("pp0,0,0,5;pp0,0,0,5;pp0,0,0,5;" + ring, 1, 5);
        breakingOf("pp0,0,0,6;pp0,0,0,5;pp0,0,0,5;" + ring, 2, 5);
        breakingOf(THREE + ring, 1, 0);
        breakingOf("pp0,0,0,2;pp0,0,0,1;pp0,0,0,2;pp0,0,0,1;k10;k01;k32;k23;", 10, 2);
        breakingOf("pp0,0,0,1;pp0,0,0,1;pp0,0,0,2;k10;k20;k01;", 1, 1);
        breakingOf("pp0,0,0,0;pp0,0,0,1;w1;", 1, 0);
        breakingOf("pp0,0,0,0;pp0,0,0,1;w0;w1;", 0, 0);
    }

    /** Terms: "broken at minute 0 (OPENED then)": who is behind it comes when UP, and goes on to other DOORS. */
    private static void breakOpenedThen() {
        C.part("Terms, BREAK, OPENED at minute 0");
        breakingOf("ps99,9,0,9;pp99,9,0,9;k10;", 1, 9);
        breakingOf("ps99,9,0,9;pp99,9,0,9;k01;", 2, 9);
        breakingOf("pp0,0,0,1;pp0,0,0,9;k11;", 3, 10);
        breakingOf("pt9,0,0,9;pp0,0,0,1;", 2, 1);
    }

    /** Terms: "FIRE: how long from a told minute on .. is shut yet: OUT less it (0 it is out by then); -9 never." */
    private static void fire() {
        C.part("Terms, FIRE; 24");
        String town = "pp0,4,0,0;pp9,0,0,0;" + ONE + "w0;k10;";
        int[] minutes = {0, 1, 7, 8, 9, 10, 999, GREATEST - 1, GREATEST};
        int[] shut = {9, 8, 2, 1, 0, 0, 0, 0, 0};
        for (int i = 0; i < minutes.length; i++) {
            int m = minutes[i];
            on(town, "fire(1, " + m + ")", shut[i], x -> x.fire(1, m));
            on(town, "fire(0, " + m + ")", 0, x -> x.fire(0, m));
            on(town, "fire(2, " + m + ")", -9, x -> x.fire(2, m));
        }
        on("pt99,0,0,0;", "fire(0, 158)", 1, x -> x.fire(0, 158));
        on("pt99,0,0,0;", "fire(0, 159)", 0, x -> x.fire(0, 159));
        on("pt99,0,0,0;", "fire(0, 160)", 0, x -> x.fire(0, 160));
        on(SEVEN + "w0;k60;", "fire(6, 5)", 1, x -> x.fire(6, 5));
    }

    /** Terms: "LOT: n PEOPLE (1 .. 9) ..: how likely .. one ring; how many rings in the mean: .. in least terms." */
    private static void lot() {
        C.part("Terms, LOT; 25");
        int[] above = {1, 3, 11, 25, 137, 49, 363, 761, 7129};
        int[] below = {1, 2, 6, 12, 60, 20, 140, 280, 2520};
        for (int i = 0; i < 9; i++) {
            int n = i + 1;
            for (String town : new String[] {"", TWO + "k10;"}) {
                on(town, "lot(" + n + ", 0, 0)", 1, x -> x.lot(n, 0, 0));
                on(town, "lot(" + n + ", 0, 1)", n, x -> x.lot(n, 0, 1));
                on(town, "lot(" + n + ", 1, 0)", above[i], x -> x.lot(n, 1, 0));
                on(town, "lot(" + n + ", 1, 1)", below[i], x -> x.lot(n, 1, 1));
            }
        }
    }

    private static LockedInByNext withRow(String town, int... numbers) {
        LockedInByNext x = Checks.told(town);
        Checks.row(x, numbers);
        return x;
    }

    /** Terms: "a ROW of numbers (0 .. 999; 7 at most)". Promise 26: "A number more of the ROW: how many." */
    private static void rowOfNumbers() {
        C.part("Terms, a ROW of numbers; 26");
        for (int v : new int[] {0, 1, 2, 500, 998, 999}) {
            LockedInByNext x = new LockedInByNext();
            for (int n = 1; n <= 7; n++) {
                C.due("row(" + v + ")", x.row(v), n);
                C.due("count(5)", x.count(5), n);
            }
            C.due("the eighth", x.row(v), -6);
            C.due("count(5)", x.count(5), 7);
        }
        // 0 is a number like others: it is so, where somebody is OUT at 0.
        SCENES.asked(() -> withRow("pt0,0,0,0;w0;", 0), "overslept()", 0, x -> x.overslept());
        SCENES.asked(() -> withRow("pt0,0,0,0;w0;", 1), "overslept()", 1, x -> x.overslept());
        SCENES.asked(() -> withRow("pt0,0,0,0;", 999), "overslept()", 1, x -> x.overslept());
    }

    private static void overslept(String town, int want, int... numbers) {
        SCENES.asked(() -> withRow(town, numbers), "overslept() of " + Arrays.toString(numbers) + " in " + town, want,
                x -> x.overslept());
    }

    /** Terms: "OVERSLEPT: PEOPLE (bits) who came out later than OUT now". Promise 27: "(bits; the ROW stays)". */
    private static void overslept() {
        C.part("Terms, OVERSLEPT; 27");
        String town = "pp0,4,0,0;pp9,0,0,0;pp0,0,0,0;w0;k10;k20;s0;";
        overslept(town, 0, 0, 9, 8);
        overslept(town, 1, 1, 9, 8);
        overslept(town, 2, 0, 10, 8);
        overslept(town, 0, 0, 8, 8);
        overslept(town, 4, 0, 9, 9);
        overslept(town, 0, 0, 9, 7);
        overslept(town, 0, 0, 0, 0);
        overslept(town, 7, 999, 999, 999);
        overslept(town + "w0;", 0, 999, 999, 999);
        overslept(town + "w0;w1;", 2, 999, 1, 999);
        overslept("", 0);
        overslept(SEVEN + "w0;w1;w2;w3;w4;w5;w6;", 127, 1, 1, 1, 1, 1, 1, 1);
        overslept(SEVEN + "w0;w1;w2;w3;w4;w5;w6;", 65, 1, 0, 0, 0, 0, 0, 1);
        SCENES.refused(() -> withRow(town, 0, 9), "overslept(), one too few", -3, x -> x.overslept());
        SCENES.refused(() -> withRow(town, 0, 9, 8, 7), "overslept(), one too many", -3, x -> x.overslept());
        SCENES.refused(() -> withRow(town), "overslept(), none", -3, x -> x.overslept());
        SCENES.refused(() -> withRow("", 0), "overslept(), one of nobody", -3, x -> x.overslept());
        SCENES.refused(() -> withRow(SEVEN, 1, 1, 1, 1, 1, 1), "overslept(), six of seven", -3, x -> x.overslept());
    }

    /** A PERSON of a text with a FAULT has not come, and numbers that were judged are gone: neither counts. */
    private static LockedInByNext withMoreNotCome(int... numbers) {
        LockedInByNext x = Checks.told("pp0,4,0,0;pp9,0,0,0;pp0,0,0,0;w0;k10;k20;s0;");
        Checks.row(x, 999, 999, 999, 999, 999, 999, 999);
        C.due("judge()", x.judge(), 0);
        C.due("a FAULT", Checks.tell(x, ONE + "w3;w7;"), -2013);
        Checks.row(x, numbers);
        return x;
    }

    /** Terms: "OVERSLEPT: PEOPLE"; "how many PEOPLE, if too long": of those who are there. */
    private static void rowOfThoseWhoAreThere() {
        C.part("Terms, OVERSLEPT, JUDGED, of those who are there; 27, 28");
        SCENES.asked(() -> withMoreNotCome(0, 9, 8), "overslept()", 0, x -> x.overslept());
        SCENES.asked(() -> withMoreNotCome(0, 9, 9), "overslept()", 4, x -> x.overslept());
        SCENES.refused(() -> withMoreNotCome(0, 9, 8, 0), "overslept()", -3, x -> x.overslept());
        C.due("judge()", withMoreNotCome(0, 9, 8).judge(), -9);
        C.due("judge()", withMoreNotCome(0, 9, 8, 0).judge(), 3);
        C.due("judge()", withMoreNotCome(0, 9, 8, 0, 0).judge(), 3);
        C.due("judge()", withMoreNotCome(0, 9).judge(), 2);
    }

    private static void judged(String town, int want, int... numbers) {
        LockedInByNext x = withRow(town, numbers);
        C.due("judge() of " + Arrays.toString(numbers) + " in " + town, x.judge(), want);
        C.due("count(5) behind it", x.count(5), 0);
        C.due("nothing is refused", Arrays.stream(Checks.refusalsOf(x)).sum(), 0);
        LockedInByNext twin = Checks.told(town);
        C.due("all else is as it was", Scenes.look(x), Scenes.look(twin));
    }

    /** Terms: "JUDGED: the first number that is not OUT; .. -9." */
    private static void judgedFirst() {
        C.part("Terms, JUDGED, the first number that is not OUT; 28");
        String town = "pp0,4,0,0;pp9,0,0,0;pp0,0,0,0;w0;k10;k20;s0;";
        judged(town, -9, 0, 9, 8);
        judged(town, 0, 1, 9, 8);
        judged(town, 1, 0, 8, 8);
        judged(town, 1, 0, 10, 8);
        judged(town, 2, 0, 9, 7);
        judged(town, 2, 0, 9, 9);
        judged(town, 0, 999, 999, 999);
        judged(town, 1, 0, 0, 0);
        judged(town + "w0;", 0, 0, 9, 8);
        judged(SEVEN + "w0;w1;w2;w3;w4;w5;w6;", -9, 0, 0, 0, 0, 0, 0, 0);
        judged(SEVEN + "w0;w1;w2;w3;w4;w5;w6;", 6, 0, 0, 0, 0, 0, 0, 1);
        judged(SEVEN + "w0;w1;w2;w3;w4;w5;", 6, 0, 0, 0, 0, 0, 0, 0);
    }

    /** Terms: "where it ends, if too short; how many PEOPLE, if too long". */
    private static void judgedEnds() {
        C.part("Terms, JUDGED, too short, too long; 28");
        String town = "pp0,4,0,0;pp9,0,0,0;pp0,0,0,0;w0;k10;k20;s0;";
        judged(town, 0);
        judged(town, 1, 0);
        judged(town, 2, 0, 9);
        judged(town, 3, 0, 9, 8, 0);
        judged(town, 3, 0, 9, 8, 8, 8, 8, 8);
        judged(town, 0, 1);
        judged(town, 1, 0, 8);
        judged(town, 2, 0, 9, 9, 0);
        judged("", -9);
        judged("", 0, 0);
        judged("", 0, 7, 7, 7, 7, 7, 7, 7);
        judged(ONE + "w0;", 1, 0, 0);
        judged(SEVEN + "w0;w1;w2;w3;w4;w5;w6;", 6, 0, 0, 0, 0, 0, 0);
        judged(SEVEN, 0);
    }

    /** Promise 28: "(whichever it answers, the ROW has none then)": the next ROW begins anew. */
    private static void judgedTakesTheRow() {
        C.part("28, the ROW has none then");
        LockedInByNext x = withRow(ONE + "w0;", 0, 1, 2, 3, 4, 5, 6);
        C.due("too long", x.judge(), 1);
        C.due("none", x.judge(), 0);
        C.due("row(5)", x.row(5), 1);
        C.due("not OUT", x.judge(), 0);
        C.due("row(0)", x.row(0), 1);
        C.due("as it is", x.judge(), -9);
        C.due("none", x.judge(), 0);
        for (int n = 1; n <= 7; n++) {
            C.due("row(3)", x.row(3), n);
        }
    }

    private static void seedsOf(String town, int n, int z, int want) {
        on(town, "seeds(" + n + ", " + z + ")", want, x -> x.seeds(n, z));
    }

    /** Terms: "SEEDS with a seed z: n mornings (1 .. 20)". The draws of the seed 0 are 63, 77, 86, 39, 49, 90, .. */
    private static void seedsHowMany() {
        C.part("Terms, SEEDS, n mornings; 29");
        String thin = "pt7,0,0,0;";
        int[] draws = {63, 77, 86, 39, 49, 90};
        int sum = 0;
        for (int n = 1; n <= 6; n++) {
            sum += 60 + draws[n - 1];
            seedsOf(thin, n, 0, sum);
        }
        seedsOf(thin, 20, 0, 20 * 60 + 1118);
        seedsOf(thin, 20, 12345, 20 * 60 + 942);
        seedsOf("", 1, 0, 0);
        seedsOf("", 20, 0, 0);
    }

    /** Terms: "DRAWS below 100", "(z .. by 256, cut) modulo m": where what is drawn from is at an edge of these. */
    private static void seedsDraws() {
        C.part("Terms, a DRAW below 100: by 256, cut, modulo");
        // Each seed leads to the z behind it.
        int[][] seedAndDraw = {
            {634785765, 0 /* 0 */}, {122584096, 0 /* 255 */}, {103732453, 1 /* 256 */},
            {-912086240, 99 /* 25599 */}, {-930937883, 0 /* 25600 */}, {-1493846240, 7 /* the greatest int */}};
        for (int[] s : seedAndDraw) {
            seedsOf("pt0,0,0,0;", 1, s[0], 60 + s[1]);
            seedsOf("pp0,0,0,0;ps0,0,0,0;k01;w1;s0;", 1, s[0], s[1]);
        }
        seedsOf("ps0,0,0,0;pp0,0,0,0;k01;w1;s0;", 1, -912086240, 198);
    }

    /** Terms: "z becomes z times 1664525 and 1013904223 (an int); (z without its sign's bit ..)". */
    private static void seedsSigns() {
        C.part("Terms, a DRAW: an int, without its sign's bit");
        seedsOf("pt0,0,0,0;", 1, -1512697883, 60);
        seedsOf("pt0,0,0,0;", 1, 653637408, 67);
        int[] seeds = {0, 1, -1, LEAST, LEAST + 1, GREATEST};
        int[] first = {63, 65, 61, 63, 65, 61};
        int[] twenty = {1118, 1129, 912, 1118, 1129, 912};
        for (int i = 0; i < seeds.length; i++) {
            seedsOf("pt0,0,0,0;", 1, seeds[i], 60 + first[i]);
            seedsOf("pt0,0,0,0;", 20, seeds[i], 1200 + twenty[i]);
        }
    }

    /** Terms: "WAKES of PEOPLE by numbers are DRAWS .. (in mind)": a DRAW each, a BAKER and a WATCHER too. */
    private static void seedsByNumbers() {
        C.part("Terms, SEEDS, WAKES of PEOPLE by numbers");
        seedsOf("pp0,0,0,0;pp0,0,0,0;w0;k10;s0;", 1, 0, 77);
        seedsOf("pp0,0,0,0;pp0,0,0,0;w1;k01;s0;", 1, 0, 63);
        seedsOf("pb0,0,0,0;pp0,0,0,0;w0;k10;s0;", 2, 0, 77 + 39);
        seedsOf("pp0,0,0,0;pp0,0,0,0;w1;k01;s0;", 2, 0, 63 + 86);
        seedsOf("pp0,0,0,0;pp0,0,0,0;pp0,0,0,0;w0;k10;k20;s0;", 2, 0, 86 + 90);
        seedsOf("pp0,0,0,0;ps0,0,0,0;w0;k10;s0;", 1, 0, 154);
        seedsOf("pp0,0,0,0;pb0,0,0,0;w0;k10;s3;", 1, 0, 3);
    }

    /** Terms: "ALL of these that all come OUT, together." */
    private static void seedsThatAllComeOut() {
        C.part("Terms, SEEDS, of these that all come OUT");
        seedsOf(ONE, 20, 0, 0);
        seedsOf(ONE + "w0;", 20, 0, 0);
        seedsOf(TWO + "w0;", 1, 0, 0);
        seedsOf("pt0,0,0,0;" + ONE, 20, 0, 0);
        seedsOf("pt0,0,0,0;" + ONE + "w1;", 1, 0, 123);
    }
}
