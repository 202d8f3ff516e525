import java.util.function.Supplier;
import java.util.function.ToIntFunction;

/** Objects to begin with, and calls made on one of two like objects, so that all that a call changes is seen. */
final class Scenes {
    /** Nobody, nothing told. */
    static final Supplier<LockedInByNext> NONE = LockedInByNext::new;
    /**
     * Some of everything, and room for more: 3 PEOPLE, 2 KEYS, 3 in the ROW, 3 letters, an image of one PERSON;
     * the last text had a FAULT behind much that must not have come.
     */
    static final Supplier<LockedInByNext> SOME = Scenes::some;
    /** 7 PEOPLE, 10 KEYS, 7 in the ROW, 80 letters, an image of two PEOPLE. */
    static final Supplier<LockedInByNext> FULL = Scenes::full;

    private final Checks checks;

    Scenes(Checks checks) {
        this.checks = checks;
    }

    private static LockedInByNext some() {
        LockedInByNext x = Checks.told("pt8,7,6,5;w0;s2;r;k00;");
        x.image();
        Checks.tell(x, "w0;pp10,2,20,1;ps20,3,40,2;w1;k21;s4;o;");
        Checks.tell(x, "ph50,9,999,9;k30;k13;w0;w1;w3;s9;r;w9;");
        Checks.row(x, 68, 0, 47);
        Checks.letters(x, "s7;");
        countRefusals(x);
        return x;
    }

    private static LockedInByNext full() {
        LockedInByNext x = Checks.told("pp30,8,40,3;pq20,5,40,1;w1;s3;");
        x.image();
        Checks.tell(x, "ps25,3,200,9;pt10,2,80,0;pb50,6,30,5;ph15,8,90,2;pp0,9,999,9;s5;r;");
        for (int k = 0; k < 10; k++) {
            x.cast((k + 1) % 7, k % 7);
        }
        Checks.row(x, 0, 20, 999, 54, 57, 61, 3);
        Checks.letters(x, "s7;".repeat(26) + "o;");
        countRefusals(x);
        return x;
    }

    /** Other numbers of each, so that one counted in another's stead is seen. */
    private static void countRefusals(LockedInByNext x) {
        x.out(9);
        x.person(0, 9);
        x.person(0, 9);
        for (int i = 0; i < 3; i++) {
            x.walk(-1);
        }
        x.walk(10);
        x.row(1000);
        x.letter(256);
        x.lot(10, 0, 0);
    }

    /** The call is refused, and nothing is changed by it but how many of this REFUSAL there were. */
    void refused(Supplier<LockedInByNext> scene, String call, int refusal, ToIntFunction<LockedInByNext> made) {
        compare(scene, call, refusal, made, y -> { }, refusal);
    }

    /** The call answers what is due, and changes nothing. */
    void asked(Supplier<LockedInByNext> scene, String call, int want, ToIntFunction<LockedInByNext> made) {
        compare(scene, call, want, made, y -> { }, 0);
    }

    /** The call, whatever it answers, but no REFUSAL, changes nothing. */
    void changesNothing(Supplier<LockedInByNext> scene, String call, ToIntFunction<LockedInByNext> made) {
        compare(scene, call, made.applyAsInt(scene.get()), made, y -> { }, 0);
    }

    /** What a call leads to for the one object is done to the other by other calls: then both are alike. */
    void alike(Supplier<LockedInByNext> scene, String call, int want, ToIntFunction<LockedInByNext> made,
            Change other) {
        compare(scene, call, want, made, other, 0);
    }

    /** More calls that a test needs. */
    interface Change {
        void of(LockedInByNext x);
    }

    private void compare(Supplier<LockedInByNext> scene, String call, int want,
            ToIntFunction<LockedInByNext> made, Change other, int refusal) {
        LockedInByNext x = scene.get();
        LockedInByNext twin = scene.get();
        checks.due(call, made.applyAsInt(x), want);
        other.of(twin);
        int[] counted = Checks.refusalsOf(x);
        int[] before = Checks.refusalsOf(twin);
        for (int r = 1; r <= 6; r++) {
            checks.due(call + ", then count(" + (10 + r) + ")", counted[r], before[r] + (r == -refusal ? 1 : 0));
        }
        checks.due("all that is seen behind " + call, look(x), look(twin));
    }

    /** All that can be asked for; the last calls change the object, which is not used any more. */
    static String look(LockedInByNext x) {
        StringBuilder s = new StringBuilder(Checks.stateOf(x));
        s.append("\nmorning: ");
        for (int p = 0; p < x.count(0); p++) {
            add(s, x.out(p), x.by(p), x.fire(p, 20));
        }
        add(s, x.all(), x.late(), x.fewest(1), x.soonest(0), x.soonest(1), x.copy(), x.copies(60), x.rings(), x.swap());
        for (int k = 0; k < x.count(1); k++) {
            add(s, x.gone(k));
        }
        add(s, x.breaking(0), x.breaking(1), x.seeds(2, 5));
        s.append("\nrow, letters: ");
        add(s, x.overslept(), x.judge(), x.count(5), x.town(), x.count(3), x.count(4), x.count(6));
        s.append("\nimage: ");
        add(s, x.on());
        return s.append(Checks.stateOf(x)).toString();
    }

    private static void add(StringBuilder s, int... answers) {
        for (int answer : answers) {
            s.append(answer).append(' ');
        }
    }
}
