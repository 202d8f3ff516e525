import java.util.Random;

/** Random runs of calls, each answer held against the model's. The seeds are fixed: each run is always the same. */
public final class ModelTest {
    private static final int RUNS = 1200;
    /** An object is used for at most 512 calls; the last 110 or so are for looking at its state. */
    private static final int CALLS = 400;
    private static final int STEPS = 150;
    private static final String KINDS = "pqstbh";

    private final Checks checks = new Checks();
    private final Random random;
    private final LockedInByNext x = new LockedInByNext();
    private final Model m = new Model();
    private int calls;

    private ModelTest(int run) {
        random = new Random(run);
        checks.part("random run " + run);
    }

    public static void main(String[] args) {
        for (int run = 0; run < RUNS; run++) {
            ModelTest test = new ModelTest(run);
            test.start();
            for (int i = 0; i < STEPS && test.calls < CALLS - 90; i++) {
                test.step();
            }
            test.compareState();
            if (test.checks.wrong() > 0) {
                System.exit(1);
            }
        }
        System.out.println("ModelTest: " + RUNS + " random runs");
    }

    private int below(int n) {
        return random.nextInt(n);
    }

    private boolean seldom() {
        return below(12) == 0;
    }

    /** Mostly a person or key that there is. */
    private int number(int there) {
        return seldom() ? below(14) - 3 : below(Math.max(1, there));
    }

    private int what(int options) {
        return seldom() ? below(options + 6) - 3 : below(options);
    }

    private String digits(int most) {
        StringBuilder s = new StringBuilder();
        int n = 1 + below(most);
        for (int i = 0; i < n; i++) {
            s.append(below(10));
        }
        return s.toString();
    }

    private String personTold() {
        return "p" + KINDS.charAt(below(6)) + digits(2) + "," + digits(1) + "," + digits(3) + "," + digits(1) + ";";
    }

    private void start() {
        int people = below(8);
        for (int p = 0; p < people; p++) {
            tell(personTold());
        }
        if (below(3) == 0 && people > 0) {
            dealRing(people);
        } else {
            int keys = people == 0 ? 0 : below(11);
            for (int k = 0; k < keys; k++) {
                cast(below(people), below(people));
            }
        }
        tell(below(2) == 0 ? "r;" : "s" + below(10) + ";");
        if (people > 0) {
            int set = below(3) == 0 ? below(1 << people) : 1 << below(people);
            due("watch(" + set + ")", x.watch(set), m.watch(set));
        }
    }

    /** One key a person, one a door. */
    private void dealRing(int people) {
        int[] holders = new int[people];
        for (int p = 0; p < people; p++) {
            int other = below(p + 1);
            holders[p] = holders[other];
            holders[other] = p;
        }
        for (int p = 0; p < people; p++) {
            cast(p, holders[p]);
        }
    }

    private void due(String told, int got, int want) {
        calls++;
        checks.due(told, got, want);
    }

    private void cast(int door, int held) {
        due("cast(" + door + ", " + held + ")", x.cast(door, held), m.cast(door, held));
    }

    private void tell(String text) {
        for (char c : text.toCharArray()) {
            due("letter(" + (int) c + ")", x.letter(c), m.letter(c));
        }
        due("town() of " + text, x.town(), m.town());
    }

    private String statement() {
        int people = m.count(0);
        switch (below(9)) {
            case 0:
            case 1: return personTold();
            case 2:
            case 3: return "k" + below(Math.min(10, people + 1)) + below(Math.min(10, people + 1)) + ";";
            case 4:
            case 5: return "w" + below(Math.min(10, people + 1)) + ";";
            case 6: return "s" + below(10) + ";";
            case 7: return "r;";
            default: return "o;";
        }
    }

    private String text() {
        StringBuilder s = new StringBuilder();
        int statements = below(5);
        for (int i = 0; i < statements; i++) {
            s.append(statement());
        }
        if (below(3) == 0 && s.length() > 0) {
            int at = below(s.length());
            switch (below(4)) {
                case 0: s.deleteCharAt(at); break;
                case 1: s.insert(at, "pkwsro0123456789,;qtbhx".charAt(below(23))); break;
                case 2: s.setCharAt(at, "pkwsro0123456789,;qtbhx".charAt(below(23))); break;
                default: s.setLength(at);
            }
        }
        return s.toString();
    }

    private void step() {
        int people = m.count(0);
        int keys = m.count(1);
        int p = number(people);
        int k = number(keys);
        int bit = what(2);
        int v;
        switch (below(32)) {
            case 0: v = below(400) - 50; due("letter(" + v + ")", x.letter(v), m.letter(v)); break;
            case 1: tell(text()); break;
            case 2: v = what(8); due("person(" + p + ", " + v + ")", x.person(p, v), m.person(p, v)); break;
            case 3: due("key(" + k + ", " + bit + ")", x.key(k, bit), m.key(k, bit)); break;
            case 4: due("give(" + k + ", " + p + ")", x.give(k, p), m.give(k, p)); break;
            case 5: cast(p, number(people)); break;
            case 6: if (below(3) == 0) { due("lose(" + k + ")", x.lose(k), m.lose(k)); } break;
            case 7: v = seldom() ? random.nextInt() : below(1 << people);
                due("watch(" + v + ")", x.watch(v), m.watch(v)); break;
            case 8: v = seldom() ? random.nextInt() : below(104) - 2;
                due("wake(" + p + ", " + v + ")", x.wake(p, v), m.wake(p, v)); break;
            case 9: v = below(12) - 1; due("walk(" + v + ")", x.walk(v), m.walk(v)); break;
            case 10: due("out(" + p + ")", x.out(p), m.out(p)); break;
            case 11: due("all()", x.all(), m.all()); break;
            case 12: due("late()", x.late(), m.late()); break;
            case 13: due("by(" + p + ")", x.by(p), m.by(p)); break;
            case 14: due("fewest(" + bit + ")", x.fewest(bit), m.fewest(bit)); break;
            case 15: due("soonest(" + bit + ")", x.soonest(bit), m.soonest(bit)); break;
            case 16: due("copy()", x.copy(), m.copy()); break;
            case 17: v = seldom() ? random.nextInt() : below(260);
                if (below(4) == 0) { due("copies(" + v + ")", x.copies(v), m.copies(v)); } break;
            case 18: due("rings()", x.rings(), m.rings()); break;
            case 19: due("swap()", x.swap(), m.swap()); break;
            case 20: due("gone(" + k + ")", x.gone(k), m.gone(k)); break;
            case 21: due("breaking(" + bit + ")", x.breaking(bit), m.breaking(bit)); break;
            case 22: v = seldom() ? random.nextInt() : below(250);
                due("fire(" + p + ", " + v + ")", x.fire(p, v), m.fire(p, v)); break;
            case 23: v = below(11); int part = what(2);
                due("lot(" + v + ", " + bit + ", " + part + ")", x.lot(v, bit, part), m.lot(v, bit, part)); break;
            case 24: v = below(1100) - 40; due("row(" + v + ")", x.row(v), m.row(v)); break;
            case 25: tellRow(people); due("overslept()", x.overslept(), m.overslept()); break;
            case 26: tellRow(people); due("judge()", x.judge(), m.judge()); break;
            case 27: v = below(23) - 1; int z = random.nextInt();
                due("seeds(" + v + ", " + z + ")", x.seeds(v, z), m.seeds(v, z)); break;
            case 28: due("image()", x.image(), m.image()); break;
            case 29: if (seldom()) { due("on()", x.on(), m.on()); } break;
            case 30: dealAgain(people, keys); break;
            default: v = below(20) - 1; due("count(" + v + ")", x.count(v), m.count(v));
        }
        v = below(17);
        due("count(" + v + ")", x.count(v), m.count(v));
    }

    /** The row as it is due, or near to it. */
    private void tellRow(int people) {
        if (below(3) > 0) {
            due("judge()", x.judge(), m.judge());
            int length = below(4) == 0 ? below(8) : people;
            for (int i = 0; i < length; i++) {
                int out = i < people ? Math.max(0, m.morningOut(i)) : 0;
                int v = Math.min(999, Math.max(0, below(3) == 0 ? out + below(5) - 2 : out));
                due("row(" + v + ")", x.row(v), m.row(v));
            }
        }
    }

    private void dealAgain(int people, int keys) {
        if (people > 0 && below(3) == 0) {
            for (int i = 0; i < keys; i++) {
                due("lose(0)", x.lose(0), m.lose(0));
            }
            dealRing(people);
        }
    }

    private void compareState() {
        for (int what = 0; what <= 16; what++) {
            due("count(" + what + ")", x.count(what), m.count(what));
        }
        for (int p = 0; p < m.count(0); p++) {
            for (int what = 0; what <= 7; what++) {
                due("person(" + p + ", " + what + ")", x.person(p, what), m.person(p, what));
            }
        }
        for (int k = 0; k < m.count(1); k++) {
            due("key(" + k + ", 0)", x.key(k, 0), m.key(k, 0));
            due("key(" + k + ", 1)", x.key(k, 1), m.key(k, 1));
        }
        if (calls > 512) {
            throw new IllegalStateException("calls: " + calls);
        }
    }
}
