import java.util.function.ToIntFunction;

/** Counts what is not as it is due, and helps to tell towns. */
final class Checks {
    private int wrong;
    private int made;
    private String part = "";

    void part(String name) {
        part = name;
    }

    void due(String what, long got, long want) {
        made++;
        if (got != want) {
            wrong++;
            System.out.println(part + ": " + what + " answered " + got + ", due is " + want);
        }
    }

    void due(String what, String got, String want) {
        made++;
        if (!got.equals(want)) {
            wrong++;
            System.out.println(part + ": " + what + " was\n  " + got + "\ndue is\n  " + want);
        }
    }

    /** On a new object of the town the call is refused, and changes nothing but the count of that refusal. */
    void refused(String call, String town, int refusal, ToIntFunction<LockedInByNext> made) {
        refused(call, told(town), refusal, made);
    }

    void refused(String call, LockedInByNext x, int refusal, ToIntFunction<LockedInByNext> made) {
        String before = stateOf(x);
        int[] refusals = refusalsOf(x);
        due(call, made.applyAsInt(x), refusal);
        refusals[-refusal]++;
        due(call + " changed the state, which", stateOf(x), before);
        for (int r = 1; r <= 6; r++) {
            due(call + ", then count(" + (10 + r) + ")", x.count(10 + r), refusals[r]);
        }
    }

    int wrong() {
        return wrong;
    }

    void end(String name) {
        System.out.println(name + ": " + made + " answers looked at, " + wrong + " not as due");
        if (wrong != 0) {
            System.exit(1);
        }
    }

    /** A town that is too long for one text is told in several, each of whole statements. */
    static LockedInByNext told(String town) {
        LockedInByNext x = new LockedInByNext();
        String rest = town;
        while (!rest.isEmpty()) {
            int end = rest.length() <= 80 ? rest.length() : rest.lastIndexOf(';', 79) + 1;
            int answer = tell(x, rest.substring(0, end));
            if (answer < 1) {
                throw new IllegalStateException("no town: " + town + " " + answer);
            }
            rest = rest.substring(end);
        }
        return x;
    }

    static int tell(LockedInByNext x, String town) {
        letters(x, town);
        return x.town();
    }

    static void letters(LockedInByNext x, String text) {
        for (char c : text.toCharArray()) {
            x.letter(c);
        }
    }

    static void row(LockedInByNext x, int... numbers) {
        for (int v : numbers) {
            x.row(v);
        }
    }

    /** Without refusals: all that can be asked for without being refused. */
    static String stateOf(LockedInByNext x) {
        StringBuilder s = new StringBuilder();
        for (int what = 0; what <= 6; what++) {
            s.append(x.count(what)).append(' ');
        }
        for (int p = 0; p < x.count(0); p++) {
            s.append("| ");
            for (int what = 0; what <= 7; what++) {
                s.append(x.person(p, what)).append(' ');
            }
        }
        for (int k = 0; k < x.count(1); k++) {
            s.append("/ ").append(x.key(k, 0)).append(' ').append(x.key(k, 1)).append(' ');
        }
        return s.toString();
    }

    static int[] refusalsOf(LockedInByNext x) {
        int[] counts = new int[7];
        for (int r = 1; r <= 6; r++) {
            counts[r] = x.count(10 + r);
        }
        return counts;
    }
}
