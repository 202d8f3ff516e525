import java.util.ArrayList;
import java.util.List;
import java.util.TreeSet;
import java.util.regex.Matcher;
import java.util.regex.Pattern;

/**
 * The document once more, by other means than the program's (minute after minute, every set, every order,
 * patterns for texts), and slow: to be held against it.
 */
final class Model {
    /** Ten keys, each 9 times 6 minutes of walking and 9 at a door, behind a sleeper's 198, end ahead of it. */
    private static final int LAST_MINUTE = 1000;
    private static final Pattern STATEMENT = Pattern.compile(
            "p[pqstbh][0-9]{1,2},[0-9],[0-9]{1,3},[0-9];|k[0-9][0-9];|[ws][0-9];|[ro];");
    private static final Pattern TOWN = Pattern.compile("(?:" + STATEMENT.pattern() + ")+");

    static final class Person {
        char kind;
        int wakes;
        int takes;
        int due;
        int cost;

        Person(char kind, int wakes, int takes, int due, int cost) {
            this.kind = kind;
            this.wakes = wakes;
            this.takes = takes;
            this.due = due;
            this.cost = cost;
        }

        int up() {
            return kind == 's' ? wakes + wakes : kind == 'b' ? 0 : wakes;
        }

        int need() {
            return "qbh".indexOf(kind) >= 0 ? takes >> 1 : takes;
        }
    }

    static final class State {
        final List<Person> people = new ArrayList<>();
        final List<int[]> keys = new ArrayList<>();
        final TreeSet<Integer> watchers = new TreeSet<>();
        int walk = 1;
        boolean ring;

        State again() {
            State s = new State();
            for (Person p : people) {
                s.people.add(new Person(p.kind, p.wakes, p.takes, p.due, p.cost));
            }
            for (int[] k : keys) {
                s.keys.add(k.clone());
            }
            s.watchers.addAll(watchers);
            s.walk = walk;
            s.ring = ring;
            return s;
        }
    }

    State now = new State();
    private State image;
    private String text = "";
    private final List<Integer> row = new ArrayList<>();
    private final int[] refusals = new int[7];

    // ---- a morning, minute after minute ----

    static final class Result {
        int[] out;
        int[] by;
        int all;
    }

    static Result morning(State s, int broken, boolean windows) {
        int n = s.people.size();
        Result r = new Result();
        r.out = new int[n];
        r.by = new int[n];
        int[] opened = new int[n];
        for (int p = 0; p < n; p++) {
            r.out[p] = -9;
            r.by[p] = -9;
            opened[p] = (broken & 1 << p) != 0 ? 0 : Integer.MAX_VALUE;
        }
        for (int minute = 0; minute <= LAST_MINUTE; minute++) {
            boolean changed = true;
            while (changed) {
                changed = false;
                for (int p = 0; p < n; p++) {
                    Person who = s.people.get(p);
                    boolean comes = s.watchers.contains(p) || opened[p] <= minute && who.up() <= minute
                            || windows && who.kind == 't' && who.wakes + 60 <= minute;
                    if (r.out[p] < 0 && comes) {
                        r.out[p] = minute;
                        trip(s, p, minute, opened, r.by);
                        changed = true;
                    }
                }
            }
        }
        for (int p = 0; p < n; p++) {
            r.all = r.all < 0 || r.out[p] < 0 ? -9 : Math.max(r.all, r.out[p]);
        }
        return r;
    }

    private static void trip(State s, int p, int minute, int[] opened, int[] by) {
        TreeSet<Integer> doors = new TreeSet<>();
        for (int[] k : s.keys) {
            if (k[1] == p && k[0] != p) {
                doors.add(k[0]);
            }
        }
        int at = p;
        int clock = minute;
        for (int d : doors) {
            clock += (s.people.get(p).kind == 'h' ? 0 : s.walk * steps(s, at, d)) + s.people.get(p).need();
            at = d;
            if (clock < opened[d] || clock == opened[d] && p < by[d]) {
                opened[d] = clock;
                by[d] = p;
            }
        }
    }

    private static int steps(State s, int from, int to) {
        if (!s.ring) {
            return Math.abs(from - to);
        }
        int n = s.people.size();
        int right = 0;
        while ((from + right) % n != to) {
            right++;
        }
        int left = 0;
        while ((to + left) % n != from) {
            left++;
        }
        return Math.min(left, right);
    }

    private Result morning() {
        return morning(now, 0, true);
    }

    private static int orNever(int all) {
        return all < 0 ? Integer.MAX_VALUE : all;
    }

    // ---- the calls ----

    private int refuse(int n) {
        refusals[-n]++;
        return n;
    }

    private boolean none(int person) {
        return person < 0 || person >= now.people.size();
    }

    private boolean noKey(int key) {
        return key < 0 || key >= now.keys.size();
    }

    int letter(int c) {
        if (c < 0) {
            return refuse(-4);
        }
        if (c > 255 || text.length() == 80) {
            return refuse(-6);
        }
        text += (char) c;
        return text.length();
    }

    int town() {
        String all = text;
        text = "";
        for (int end = 0; end <= all.length(); end++) {
            Matcher m = TOWN.matcher(all.substring(0, end));
            boolean whole = m.matches();
            if (end == all.length() && whole) {
                break;
            }
            // The pattern has read to the end of what it was given, and more would do: a town can go on.
            boolean goesOn = whole || m.hitEnd();
            if (!goesOn) {
                return -1000 - (end - 1);
            }
            if (end == all.length()) {
                return -1000 - end;
            }
        }
        State s = now.again();
        Matcher m = STATEMENT.matcher(all);
        int count = 0;
        while (m.find()) {
            String[] parts = m.group().replaceAll(";", "").split(",");
            if (!tell(s, m.group(), parts)) {
                return -2000 - m.start();
            }
            count++;
        }
        now = s;
        return count;
    }

    private static boolean tell(State s, String statement, String[] parts) {
        int a = statement.length() > 2 ? statement.charAt(1) - '0' : 0;
        switch (statement.charAt(0)) {
            case 'p':
                s.people.add(new Person(statement.charAt(1), Integer.parseInt(parts[0].substring(2)),
                        Integer.parseInt(parts[1]), Integer.parseInt(parts[2]), Integer.parseInt(parts[3])));
                return s.people.size() <= 7;
            case 'k':
                int b = statement.charAt(2) - '0';
                s.keys.add(new int[] {a, b});
                return a < s.people.size() && b < s.people.size() && s.keys.size() <= 10;
            case 'w':
                if (!s.watchers.remove(a)) {
                    s.watchers.add(a);
                }
                return a < s.people.size();
            case 's':
                s.walk = a;
                return true;
            default:
                s.ring = statement.charAt(0) == 'r';
                return true;
        }
    }

    int person(int person, int what) {
        if (none(person)) {
            return refuse(-1);
        }
        if (what < 0 || what > 7) {
            return refuse(-2);
        }
        Person p = now.people.get(person);
        return new int[] {"pqstbh".indexOf(p.kind), p.wakes, p.takes, p.due, p.cost, p.up(), p.need(),
            now.watchers.contains(person) ? 1 : 0}[what];
    }

    int key(int key, int what) {
        return noKey(key) ? refuse(-1) : what < 0 || what > 1 ? refuse(-2) : now.keys.get(key)[what];
    }

    int give(int key, int person) {
        if (noKey(key) || none(person)) {
            return refuse(-1);
        }
        int was = now.keys.get(key)[1];
        now.keys.set(key, new int[] {now.keys.get(key)[0], person});
        return was;
    }

    int cast(int door, int held) {
        if (none(door) || none(held)) {
            return refuse(-1);
        }
        if (now.keys.size() == 10) {
            return refuse(-6);
        }
        now.keys.add(new int[] {door, held});
        return now.keys.size() - 1;
    }

    int lose(int key) {
        if (noKey(key)) {
            return refuse(-1);
        }
        now.keys.remove(key);
        return now.keys.size();
    }

    private static int bits(Iterable<Integer> set) {
        int bits = 0;
        for (int i : set) {
            bits += 1 << i;
        }
        return bits;
    }

    private static void setWatchers(State s, int bits) {
        s.watchers.clear();
        for (int p = 0; p < 7; p++) {
            if ((bits & 1 << p) != 0) {
                s.watchers.add(p);
            }
        }
    }

    int watch(int people) {
        if (people < 0 || people >= 1 << now.people.size()) {
            return refuse(-1);
        }
        int was = bits(now.watchers);
        setWatchers(now, people);
        return was;
    }

    int wake(int person, int minute) {
        if (none(person)) {
            return refuse(-1);
        }
        if (minute < 0 || minute > 99) {
            return refuse(minute < 0 ? -4 : -6);
        }
        int was = now.people.get(person).wakes;
        now.people.get(person).wakes = minute;
        return was;
    }

    int walk(int v) {
        if (v < 0 || v > 9) {
            return refuse(v < 0 ? -4 : -6);
        }
        int was = now.walk;
        now.walk = v;
        return was;
    }

    int morningOut(int person) {
        return morning().out[person];
    }

    int out(int person) {
        return none(person) ? refuse(-1) : morning().out[person];
    }

    int all() {
        return morning().all;
    }

    int late() {
        Result r = morning();
        int bits = 0;
        for (int p = 0; p < r.out.length; p++) {
            if (r.out[p] < 0 || r.out[p] > now.people.get(p).due) {
                bits += 1 << p;
            }
        }
        return bits;
    }

    int by(int person) {
        return none(person) ? refuse(-1) : morning().by[person];
    }

    /** By sizes: the sets of each, from the least bits on. */
    private int fewestSet() {
        int n = now.people.size();
        for (int size = 0; size <= n; size++) {
            for (int set = 0; set < 1 << n; set++) {
                if (Integer.bitCount(set) == size) {
                    State s = now.again();
                    setWatchers(s, set);
                    if (morning(s, 0, false).all >= 0) {
                        return set;
                    }
                }
            }
        }
        throw new IllegalStateException();
    }

    int fewest(int what) {
        return what == 0 ? Integer.bitCount(fewestSet()) : what == 1 ? fewestSet() : refuse(-2);
    }

    int soonest(int what) {
        if (what < 0 || what > 1) {
            return refuse(-2);
        }
        int size = Integer.bitCount(fewestSet());
        int least = Integer.MAX_VALUE;
        int best = 0;
        for (int set = (1 << now.people.size()) - 1; set >= 0; set--) {
            if (Integer.bitCount(set) == size) {
                State s = now.again();
                setWatchers(s, set);
                int all = orNever(morning(s, 0, true).all);
                if (all <= least) {
                    least = all;
                    best = set;
                }
            }
        }
        return what == 0 ? best : least;
    }

    private int allWith(int[]... more) {
        State s = now.again();
        for (int[] k : more) {
            s.keys.add(k);
        }
        return orNever(morning(s, 0, true).all);
    }

    int copy() {
        int n = now.people.size();
        if (n == 0) {
            return refuse(-3);
        }
        int least = allWith();
        int best = -9;
        for (int door = 0; door < n; door++) {
            for (int held = 0; held < n; held++) {
                int all = allWith(new int[] {door, held});
                if (all < least) {
                    least = all;
                    best = 10 * door + held;
                }
            }
        }
        return best;
    }

    int copies(int minute) {
        if (minute < 0) {
            return refuse(-4);
        }
        int n = now.people.size();
        long told = minute;
        if (morning().all >= 0 && morning().all <= told) {
            return 0;
        }
        boolean two = false;
        for (int a = 0; a < n * n; a++) {
            int[] one = {a / n, a % n};
            int all = allWith(one);
            if (all != Integer.MAX_VALUE && all <= told) {
                return 1;
            }
            for (int b = 0; b < n * n && !two; b++) {
                all = allWith(one, new int[] {b / n, b % n});
                two = all != Integer.MAX_VALUE && all <= told;
            }
        }
        return two ? 2 : -9;
    }

    private static int ringsOf(State s) {
        int n = s.people.size();
        int[] next = new int[n];
        int[] times = new int[n];
        int[] doors = new int[n];
        for (int[] k : s.keys) {
            next[k[1]] = k[0];
            times[k[1]]++;
            doors[k[0]]++;
        }
        for (int p = 0; p < n; p++) {
            if (times[p] != 1 || doors[p] != 1) {
                return -9;
            }
        }
        return ringsOf(next);
    }

    /** Each ring is counted at its least number. */
    private static int ringsOf(int[] next) {
        int rings = 0;
        for (int p = 0; p < next.length; p++) {
            int at = next[p];
            while (at > p) {
                at = next[at];
            }
            if (at == p) {
                rings++;
            }
        }
        return rings;
    }

    int rings() {
        return ringsOf(now);
    }

    int swap() {
        if (rings() < 0) {
            return -9;
        }
        for (int i = 0; i < now.keys.size(); i++) {
            for (int j = i + 1; j < now.keys.size(); j++) {
                State s = now.again();
                int[] one = s.keys.get(i);
                int[] other = s.keys.get(j);
                s.keys.set(i, new int[] {one[0], other[1]});
                s.keys.set(j, new int[] {other[0], one[1]});
                if (ringsOf(s) < rings()) {
                    return 10 * i + j;
                }
            }
        }
        return -9;
    }

    int gone(int key) {
        if (noKey(key)) {
            return refuse(-1);
        }
        State s = now.again();
        s.keys.remove(key);
        Result with = morning();
        Result without = morning(s, 0, true);
        int bits = 0;
        for (int p = 0; p < with.out.length; p++) {
            if (with.out[p] >= 0 && without.out[p] < 0) {
                bits += 1 << p;
            }
        }
        return bits;
    }

    int breaking(int what) {
        if (what < 0 || what > 1) {
            return refuse(-2);
        }
        int best = -1;
        int least = Integer.MAX_VALUE;
        for (int set = (1 << now.people.size()) - 1; set >= 0; set--) {
            int cost = 0;
            for (int p = 0; p < now.people.size(); p++) {
                cost += (set >> p) % 2 * now.people.get(p).cost;
            }
            if (cost <= least && morning(now, set, true).all >= 0) {
                least = cost;
                best = set;
            }
        }
        return what == 0 ? best : least;
    }

    int fire(int person, int minute) {
        if (none(person)) {
            return refuse(-1);
        }
        if (minute < 0) {
            return refuse(-4);
        }
        int out = morning().out[person];
        return out < 0 ? -9 : out <= minute ? 0 : out - minute;
    }

    /** For each n: how many orders there are, those of one ring, rings of all together. */
    private static final long[][] LOTS = new long[10][];

    private static long[] lots(int n) {
        if (LOTS[n] == null) {
            LOTS[n] = new long[3];
            orders(new int[n], 0, 0, LOTS[n]);
        }
        return LOTS[n];
    }

    private static void orders(int[] next, int at, int used, long[] sums) {
        if (at == next.length) {
            int rings = ringsOf(next);
            sums[0]++;
            sums[1] += rings == 1 ? 1 : 0;
            sums[2] += rings;
            return;
        }
        for (int d = 0; d < next.length; d++) {
            if ((used & 1 << d) == 0) {
                next[at] = d;
                orders(next, at + 1, used | 1 << d, sums);
            }
        }
    }

    int lot(int n, int what, int part) {
        if (n < 1 || n > 9) {
            return refuse(n < 1 ? -4 : -6);
        }
        if (what < 0 || what > 1 || part < 0 || part > 1) {
            return refuse(-2);
        }
        long above = lots(n)[1 + what];
        long below = lots(n)[0];
        for (long d = Math.min(above, below); d > 1; d--) {
            if (above % d == 0 && below % d == 0) {
                above /= d;
                below /= d;
            }
        }
        return (int) (part == 0 ? above : below);
    }

    int row(int v) {
        if (v < 0) {
            return refuse(-4);
        }
        if (v > 999 || row.size() == 7) {
            return refuse(-6);
        }
        row.add(v);
        return row.size();
    }

    int overslept() {
        if (row.size() != now.people.size()) {
            return refuse(-3);
        }
        int bits = 0;
        for (int p = 0; p < row.size(); p++) {
            if (row.get(p) > orNever(morning().out[p])) {
                bits += 1 << p;
            }
        }
        return bits;
    }

    int judge() {
        List<Integer> told = new ArrayList<>(row);
        row.clear();
        List<Integer> due = new ArrayList<>();
        for (int o : morning().out) {
            due.add(o);
        }
        if (told.equals(due)) {
            return -9;
        }
        int at = 0;
        while (at < told.size() && at < due.size() && told.get(at).equals(due.get(at))) {
            at++;
        }
        return at;
    }

    int seeds(int n, int z) {
        if (n < 1 || n > 20) {
            return refuse(n < 1 ? -4 : -6);
        }
        State s = now.again();
        long seed = z;
        int sum = 0;
        for (int i = 0; i < n; i++) {
            for (Person p : s.people) {
                seed = Math.floorMod(seed * 1664525L + 1013904223L, 1L << 32);
                p.wakes = (int) (seed % (1L << 31) / 256 % 100);
            }
            sum += Math.max(0, morning(s, 0, true).all);
        }
        return sum;
    }

    int image() {
        image = now.again();
        return image.people.size();
    }

    int on() {
        if (image == null) {
            return refuse(-3);
        }
        now = image.again();
        return now.people.size();
    }

    int count(int what) {
        int[] counts = {now.people.size(), now.keys.size(), bits(now.watchers), now.walk, now.ring ? 1 : 0,
            row.size(), text.length()};
        return what >= 0 && what < 7 ? counts[what] : what > 10 && what < 17 ? refusals[what - 10] : -9;
    }
}
