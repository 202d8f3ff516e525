/**
 * People in houses of a row or a ring, each locked in by keys that others hold, and who lets out whom.
 * The words in capitals are the terms of the document.
 */
public final class LockedInByNext {
    private static final int NOBODY = -1;
    private static final int OTHER = -2;
    private static final int STATE = -3;
    private static final int BELOW = -4;
    private static final int ROOM = -6;
    private static final int NONE = -9;

    private static final int MOST_PEOPLE = 7;
    private static final int MOST_KEYS = 10;
    private static final int MOST_LETTERS = 80;
    private static final int MOST_IN_ROW = 7;
    private static final int MOST_MORNINGS = 20;
    private static final int MOST_IN_LOT = 9;
    private static final int GREATEST_LETTER = 255;
    private static final int GREATEST_WAKES = 99;
    private static final int GREATEST_WALK = 9;
    private static final int GREATEST_SEEN = 999;

    /** More than any minute; nothing is ever added to it. */
    private static final int NEVER = 2147483647;

    private final int[] letters;
    private int letterCount;
    private final Reader reader;
    private final Town now;
    /** What is only tried: a TOWN that is being read, KEYS changed about, WAKES in mind. */
    private final Town draft;
    private final Town kept;
    private boolean imageTaken;
    private final Morning morning;
    private final int[] seen;
    private int seenCount;
    private final int[] refusals;

    public LockedInByNext() {
        letters = new int[MOST_LETTERS];
        reader = new Reader();
        now = new Town();
        draft = new Town();
        kept = new Town();
        morning = new Morning();
        seen = new int[MOST_IN_ROW];
        refusals = new int[7];
    }

    // ---- telling the town ----

    public int letter(int c) {
        if (c < 0) {
            return refuse(BELOW);
        }
        if (c > GREATEST_LETTER || letterCount >= MOST_LETTERS) {
            return refuse(ROOM);
        }
        letters[letterCount] = c;
        letterCount++;
        return letterCount;
    }

    public int town() {
        draft.become(now);
        int answer = reader.readInto(draft, letters, letterCount);
        letterCount = 0;
        if (answer >= 0) {
            now.become(draft);
        }
        return answer;
    }

    public int person(int person, int what) {
        if (!now.hasPerson(person)) {
            return refuse(NOBODY);
        }
        switch (what) {
            case 0: return now.kind[person];
            case 1: return now.wakes[person];
            case 2: return now.takes[person];
            case 3: return now.due[person];
            case 4: return now.cost[person];
            case 5: return now.upOf(person);
            case 6: return now.needOf(person);
            case 7: return now.watchers >> person & 1;
            default: return refuse(OTHER);
        }
    }

    public int key(int key, int what) {
        if (!now.hasKey(key)) {
            return refuse(NOBODY);
        }
        switch (what) {
            case 0: return now.door[key];
            case 1: return now.held[key];
            default: return refuse(OTHER);
        }
    }

    public int give(int key, int person) {
        if (!now.hasKey(key) || !now.hasPerson(person)) {
            return refuse(NOBODY);
        }
        int before = now.held[key];
        now.held[key] = person;
        return before;
    }

    public int cast(int door, int held) {
        if (!now.hasPerson(door) || !now.hasPerson(held)) {
            return refuse(NOBODY);
        }
        if (!now.addKey(door, held)) {
            return refuse(ROOM);
        }
        return now.keys - 1;
    }

    public int lose(int key) {
        if (!now.hasKey(key)) {
            return refuse(NOBODY);
        }
        now.dropKey(key);
        return now.keys;
    }

    public int watch(int people) {
        if ((people & ~now.everyone()) != 0) {
            return refuse(NOBODY);
        }
        int before = now.watchers;
        now.watchers = people;
        return before;
    }

    public int wake(int person, int minute) {
        if (!now.hasPerson(person)) {
            return refuse(NOBODY);
        }
        if (minute < 0) {
            return refuse(BELOW);
        }
        if (minute > GREATEST_WAKES) {
            return refuse(ROOM);
        }
        int before = now.wakes[person];
        now.wakes[person] = minute;
        return before;
    }

    public int walk(int v) {
        if (v < 0) {
            return refuse(BELOW);
        }
        if (v > GREATEST_WALK) {
            return refuse(ROOM);
        }
        int before = now.pace;
        now.pace = v;
        return before;
    }

    // ---- who comes out when ----

    public int out(int person) {
        if (!now.hasPerson(person)) {
            return refuse(NOBODY);
        }
        morningOf(now);
        return minuteOrNone(morning.outs[person]);
    }

    public int all() {
        return minuteOrNone(lastOutOf(now));
    }

    public int late() {
        morningOf(now);
        int bits = 0;
        for (int p = 0; p < now.people; p++) {
            if (morning.outs[p] > now.due[p]) {
                bits |= 1 << p;
            }
        }
        return bits;
    }

    public int by(int person) {
        if (!now.hasPerson(person)) {
            return refuse(NOBODY);
        }
        morningOf(now);
        return morning.opener[person];
    }

    // ---- which watchers ----

    public int fewest(int what) {
        if (what != 0 && what != 1) {
            return refuse(OTHER);
        }
        int set = fewestWatchers();
        return what == 0 ? Integer.bitCount(set) : set;
    }

    public int soonest(int what) {
        if (what != 0 && what != 1) {
            return refuse(OTHER);
        }
        int set = soonestWatchers(Integer.bitCount(fewestWatchers()));
        if (what == 0) {
            return set;
        }
        morning.pass(set, 0, true);
        return minuteOrNone(morning.lastOut());
    }

    // ---- keys more, changed about, gone ----

    public int copy() {
        if (now.people == 0) {
            return refuse(STATE);
        }
        int least = lastOutOf(now);
        int answer = NONE;
        for (int pair = 0; pair < MOST_PEOPLE * MOST_PEOPLE; pair++) {
            if (!addPair(pair)) {
                continue;
            }
            morning.pass(now.watchers, 0, true);
            int last = morning.lastOut();
            dropPair(pair);
            if (last < least) {
                least = last;
                answer = 10 * doorOf(pair) + holderOf(pair);
            }
        }
        return answer;
    }

    public int copies(int minute) {
        if (minute < 0) {
            return refuse(BELOW);
        }
        morning.prepare(now);
        if (allOutBy(minute)) {
            return 0;
        }
        if (oneMoreHelps(0, minute)) {
            return 1;
        }
        return twoMoreHelp(minute) ? 2 : NONE;
    }

    public int rings() {
        return now.ringCount();
    }

    public int swap() {
        int before = now.ringCount();
        if (before == NONE) {
            return NONE;
        }
        for (int lesser = 0; lesser < now.keys; lesser++) {
            for (int other = lesser + 1; other < now.keys; other++) {
                draft.become(now);
                draft.exchangeHolders(lesser, other);
                if (draft.ringCount() < before) {
                    return 10 * lesser + other;
                }
            }
        }
        return NONE;
    }

    public int gone(int key) {
        if (!now.hasKey(key)) {
            return refuse(NOBODY);
        }
        morningOf(now);
        int outNow = morning.everOut();
        draft.become(now);
        draft.dropKey(key);
        morningOf(draft);
        return outNow & ~morning.everOut();
    }

    // ---- doors broken, fires, lots ----

    public int breaking(int what) {
        if (what != 0 && what != 1) {
            return refuse(OTHER);
        }
        morning.prepare(now);
        int best = now.everyone();
        int least = NEVER;
        for (int doors = 0; doors <= now.everyone(); doors++) {
            int cost = now.costOf(doors);
            if (cost < least) {
                morning.pass(now.watchers, doors, true);
                if (morning.lastOut() != NEVER) {
                    best = doors;
                    least = cost;
                }
            }
        }
        return what == 0 ? best : now.costOf(best);
    }

    public int fire(int person, int minute) {
        if (!now.hasPerson(person)) {
            return refuse(NOBODY);
        }
        if (minute < 0) {
            return refuse(BELOW);
        }
        morningOf(now);
        int minuteOut = morning.outs[person];
        if (minuteOut == NEVER) {
            return NONE;
        }
        return Math.max(0, minuteOut - minute);
    }

    public int lot(int n, int what, int part) {
        if (n < 1) {
            return refuse(BELOW);
        }
        if (n > MOST_IN_LOT) {
            return refuse(ROOM);
        }
        if (what < 0 || what > 1 || part < 0 || part > 1) {
            return refuse(OTHER);
        }
        if (what == 0) {
            // Of n! orders (n - 1)! are one ring.
            return part == 0 ? 1 : n;
        }
        return meanRings(n, part);
    }

    // ---- mornings that were seen, mornings by seeds ----

    public int row(int v) {
        if (v < 0) {
            return refuse(BELOW);
        }
        if (v > GREATEST_SEEN || seenCount >= MOST_IN_ROW) {
            return refuse(ROOM);
        }
        seen[seenCount] = v;
        seenCount++;
        return seenCount;
    }

    public int overslept() {
        if (seenCount != now.people) {
            return refuse(STATE);
        }
        morningOf(now);
        int bits = 0;
        for (int p = 0; p < now.people; p++) {
            if (seen[p] > morning.outs[p]) {
                bits |= 1 << p;
            }
        }
        return bits;
    }

    public int judge() {
        int told = seenCount;
        seenCount = 0;
        morningOf(now);
        int both = Math.min(told, now.people);
        for (int p = 0; p < both; p++) {
            if (seen[p] != morning.outs[p]) {
                return p;
            }
        }
        return told == now.people ? NONE : both;
    }

    public int seeds(int n, int z) {
        if (n < 1) {
            return refuse(BELOW);
        }
        if (n > MOST_MORNINGS) {
            return refuse(ROOM);
        }
        draft.become(now);
        int seed = z;
        int together = 0;
        for (int day = 0; day < n; day++) {
            for (int p = 0; p < draft.people; p++) {
                seed = nextSeed(seed);
                draft.wakes[p] = drawBelowHundred(seed);
            }
            int last = lastOutOf(draft);
            if (last != NEVER) {
                together += last;
            }
        }
        return together;
    }

    // ---- the image, and what there is ----

    public int image() {
        kept.become(now);
        imageTaken = true;
        return kept.people;
    }

    public int on() {
        if (!imageTaken) {
            return refuse(STATE);
        }
        now.become(kept);
        return now.people;
    }

    public int count(int what) {
        switch (what) {
            case 0: return now.people;
            case 1: return now.keys;
            case 2: return now.watchers;
            case 3: return now.pace;
            case 4: return now.ring ? 1 : 0;
            case 5: return seenCount;
            case 6: return letterCount;
            default: return what >= 11 && what <= 16 ? refusals[what - 10] : NONE;
        }
    }

    // ---- helpers ----

    private int refuse(int refusal) {
        refusals[-refusal]++;
        return refusal;
    }

    private static int minuteOrNone(int minute) {
        return minute == NEVER ? NONE : minute;
    }

    private void morningOf(Town town) {
        morning.prepare(town);
        morning.pass(town.watchers, 0, true);
    }

    private int lastOutOf(Town town) {
        morningOf(town);
        return morning.lastOut();
    }

    private int fewestWatchers() {
        morning.prepare(now);
        int best = now.everyone();
        for (int set = 0; set < now.everyone(); set++) {
            if (Integer.bitCount(set) < Integer.bitCount(best)) {
                morning.pass(set, 0, false);
                if (morning.lastOut() != NEVER) {
                    best = set;
                }
            }
        }
        return best;
    }

    private int soonestWatchers(int size) {
        morning.prepare(now);
        int best = now.everyone();
        int least = NEVER;
        for (int set = 0; set <= now.everyone(); set++) {
            if (Integer.bitCount(set) == size) {
                morning.pass(set, 0, true);
                if (morning.lastOut() < least) {
                    least = morning.lastOut();
                    best = set;
                }
            }
        }
        return best;
    }

    /** A pair of DOOR and HOLDER goes by one number, in the order of 10 times DOOR and HELD. */
    private static int doorOf(int pair) {
        return pair / MOST_PEOPLE;
    }

    private static int holderOf(int pair) {
        return pair % MOST_PEOPLE;
    }

    /** False for a KEY that changes no morning, so that dropPair takes back just what came. */
    private boolean addPair(int pair) {
        int door = doorOf(pair);
        int holder = holderOf(pair);
        if (!now.hasPerson(door) || !now.hasPerson(holder) || door == holder) {
            return false;
        }
        if ((morning.doors[holder] >> door & 1) != 0) {
            return false;
        }
        morning.doors[holder] |= 1 << door;
        return true;
    }

    private void dropPair(int pair) {
        morning.doors[holderOf(pair)] &= ~(1 << doorOf(pair));
    }

    private boolean allOutBy(int minute) {
        morning.pass(now.watchers, 0, true);
        int last = morning.lastOut();
        // Any minute may be told, also the one that stands for NEVER.
        return last != NEVER && last <= minute;
    }

    private boolean oneMoreHelps(int firstPair, int minute) {
        for (int pair = firstPair; pair < MOST_PEOPLE * MOST_PEOPLE; pair++) {
            if (addPair(pair)) {
                boolean helps = allOutBy(minute);
                dropPair(pair);
                if (helps) {
                    return true;
                }
            }
        }
        return false;
    }

    private boolean twoMoreHelp(int minute) {
        for (int pair = 0; pair < MOST_PEOPLE * MOST_PEOPLE; pair++) {
            if (addPair(pair)) {
                boolean helps = oneMoreHelps(pair + 1, minute);
                dropPair(pair);
                if (helps) {
                    return true;
                }
            }
        }
        return false;
    }

    /** The mean is 1 / 1 + 1 / 2 + .. + 1 / n: a place is in a ring of each length just as often. */
    private static int meanRings(int n, int part) {
        int above = 0;
        int below = 1;
        for (int length = 1; length <= n; length++) {
            above = above * length + below;
            below = below * length;
        }
        int common = commonDivisor(above, below);
        if (common < 1) {
            return NONE;
        }
        return part == 0 ? above / common : below / common;
    }

    private static int commonDivisor(int a, int b) {
        int greater = a;
        int lesser = b;
        // Every second rest is less than half of what it was: an int has no more than 64 of them.
        for (int i = 0; i < 64 && lesser > 0; i++) {
            int rest = greater % lesser;
            greater = lesser;
            lesser = rest;
        }
        return greater;
    }

    private static int nextSeed(int seed) {
        return seed * 1664525 + 1013904223;
    }

    private static int drawBelowHundred(int seed) {
        return (seed & 0x7fffffff) / 256 % 100;
    }

    /** All that is told: PEOPLE, KEYS, WATCHERS, WALK, a ROW or a RING. */
    private static final class Town {
        private static final int QUICK = 1;
        private static final int SLEEPER = 2;
        private static final int THIN = 3;
        private static final int BAKER = 4;
        private static final int HELPER = 5;
        private static final int WINDOW_AFTER = 60;

        private final int[] kind;
        private final int[] wakes;
        private final int[] takes;
        private final int[] due;
        private final int[] cost;
        private int people;
        private final int[] door;
        private final int[] held;
        private int keys;
        private int watchers;
        private int pace;
        private boolean ring;

        Town() {
            kind = new int[MOST_PEOPLE];
            wakes = new int[MOST_PEOPLE];
            takes = new int[MOST_PEOPLE];
            due = new int[MOST_PEOPLE];
            cost = new int[MOST_PEOPLE];
            door = new int[MOST_KEYS];
            held = new int[MOST_KEYS];
            pace = 1;
        }

        void become(Town other) {
            System.arraycopy(other.kind, 0, kind, 0, MOST_PEOPLE);
            System.arraycopy(other.wakes, 0, wakes, 0, MOST_PEOPLE);
            System.arraycopy(other.takes, 0, takes, 0, MOST_PEOPLE);
            System.arraycopy(other.due, 0, due, 0, MOST_PEOPLE);
            System.arraycopy(other.cost, 0, cost, 0, MOST_PEOPLE);
            people = other.people;
            System.arraycopy(other.door, 0, door, 0, MOST_KEYS);
            System.arraycopy(other.held, 0, held, 0, MOST_KEYS);
            keys = other.keys;
            watchers = other.watchers;
            pace = other.pace;
            ring = other.ring;
        }

        boolean hasPerson(int number) {
            return number >= 0 && number < people;
        }

        boolean hasKey(int number) {
            return number >= 0 && number < keys;
        }

        int everyone() {
            return (1 << people) - 1;
        }

        int upOf(int number) {
            switch (kind[number]) {
                case SLEEPER: return 2 * wakes[number];
                case BAKER: return 0;
                default: return wakes[number];
            }
        }

        int needOf(int number) {
            switch (kind[number]) {
                case QUICK:
                case BAKER:
                case HELPER: return takes[number] / 2;
                default: return takes[number];
            }
        }

        int windowOf(int number) {
            return kind[number] == THIN ? WINDOW_AFTER + wakes[number] : NEVER;
        }

        int paceOf(int number) {
            return kind[number] == HELPER ? 0 : pace;
        }

        int wayBetween(int one, int other) {
            int apart = Math.abs(one - other);
            return ring ? Math.min(apart, people - apart) : apart;
        }

        int costOf(int doors) {
            int sum = 0;
            for (int p = 0; p < people; p++) {
                if ((doors >> p & 1) != 0) {
                    sum += cost[p];
                }
            }
            return sum;
        }

        /** Five numbers as they are told behind "p": which KIND, WAKES, TAKES, DUE, COST. */
        boolean addPerson(int[] told) {
            if (people >= MOST_PEOPLE || told.length < 5) {
                return false;
            }
            kind[people] = told[0];
            wakes[people] = told[1];
            takes[people] = told[2];
            due[people] = told[3];
            cost[people] = told[4];
            people++;
            return true;
        }

        boolean addKey(int ofDoor, int holder) {
            if (keys >= MOST_KEYS || !hasPerson(ofDoor) || !hasPerson(holder)) {
                return false;
            }
            door[keys] = ofDoor;
            held[keys] = holder;
            keys++;
            return true;
        }

        void dropKey(int number) {
            for (int k = number; k + 1 < keys; k++) {
                door[k] = door[k + 1];
                held[k] = held[k + 1];
            }
            keys--;
        }

        boolean changeWatcher(int number) {
            if (!hasPerson(number)) {
                return false;
            }
            watchers ^= 1 << number;
            return true;
        }

        void exchangeHolders(int one, int other) {
            int holder = held[one];
            held[one] = held[other];
            held[other] = holder;
        }

        int ringCount() {
            int doors = 0;
            int holders = 0;
            for (int k = 0; k < keys; k++) {
                doors |= 1 << door[k];
                holders |= 1 << held[k];
            }
            // As many KEYS as PEOPLE and nobody without one: then nobody has two.
            if (keys != people || doors != everyone() || holders != everyone()) {
                return NONE;
            }
            int met = 0;
            int rings = 0;
            for (int p = 0; p < people; p++) {
                if ((met >> p & 1) == 0) {
                    rings++;
                    met |= ringOf(p);
                }
            }
            return rings;
        }

        private int ringOf(int number) {
            int members = 0;
            int at = number;
            for (int step = 0; step < people; step++) {
                members |= 1 << at;
                at = doorHeldBy(at);
            }
            return members;
        }

        private int doorHeldBy(int number) {
            for (int k = 0; k < keys; k++) {
                if (held[k] == number) {
                    return door[k];
                }
            }
            return number;
        }
    }

    /** Reads letters as STATEMENTS into a TOWN. */
    private static final class Reader {
        private static final int FAULT_OF_LETTER = -1000;
        private static final int FAULT_OF_STATEMENT = -2000;
        private static final String KIND_LETTERS = "pqstbh";

        private int[] text;
        private int length;
        private int at;
        private int first;
        private final int[] numbers;
        private int numberCount;

        Reader() {
            text = new int[0];
            numbers = new int[5];
        }

        /** How many STATEMENTS, or the FAULT; with one the TOWN may hold a part of the text. */
        int readInto(Town town, int[] letters, int letterCount) {
            text = letters;
            length = Math.min(letterCount, letters.length);
            if (!allStatementsParse()) {
                return FAULT_OF_LETTER - at;
            }
            at = 0;
            int statements = 0;
            for (int i = 0; i < MOST_LETTERS && at < length; i++) {
                int start = at;
                if (!parseStatement() || !tell(town)) {
                    return FAULT_OF_STATEMENT - start;
                }
                statements++;
            }
            return statements;
        }

        private boolean allStatementsParse() {
            at = 0;
            if (!parseStatement()) {
                return false;
            }
            for (int i = 0; i < MOST_LETTERS && at < length; i++) {
                if (!parseStatement()) {
                    return false;
                }
            }
            return true;
        }

        /** Where no STATEMENT can go on it stops, and stays at that place. */
        private boolean parseStatement() {
            if (at >= length || at >= text.length) {
                return false;
            }
            first = text[at];
            numberCount = 0;
            switch (first) {
                case 'p':
                    at++;
                    return parseKind() && parseNumber(2) && parseSign(',') && parseNumber(1) && parseSign(',')
                            && parseNumber(3) && parseSign(',') && parseNumber(1) && parseSign(';');
                case 'k':
                    at++;
                    return parseNumber(1) && parseNumber(1) && parseSign(';');
                case 'w':
                case 's':
                    at++;
                    return parseNumber(1) && parseSign(';');
                case 'r':
                case 'o':
                    at++;
                    return parseSign(';');
                default:
                    return false;
            }
        }

        private boolean parseSign(char sign) {
            if (at >= length || text[at] != sign) {
                return false;
            }
            at++;
            return true;
        }

        private boolean parseKind() {
            for (int k = 0; k < KIND_LETTERS.length(); k++) {
                if (parseSign(KIND_LETTERS.charAt(k))) {
                    return keepNumber(k);
                }
            }
            return false;
        }

        private boolean parseNumber(int mostDigits) {
            int value = 0;
            int digits = 0;
            while (digits < mostDigits && at < length && text[at] >= '0' && text[at] <= '9') {
                value = 10 * value + text[at] - '0';
                digits++;
                at++;
            }
            return digits > 0 && keepNumber(value);
        }

        private boolean keepNumber(int value) {
            if (numberCount >= numbers.length) {
                return false;
            }
            numbers[numberCount] = value;
            numberCount++;
            return true;
        }

        private boolean tell(Town town) {
            switch (first) {
                case 'p':
                    return town.addPerson(numbers);
                case 'k':
                    return town.addKey(numbers[0], numbers[1]);
                case 'w':
                    return town.changeWatcher(numbers[0]);
                case 's':
                    town.pace = numbers[0];
                    return true;
                default:
                    town.ring = first == 'r';
                    return true;
            }
        }
    }

    /** One morning of a TOWN: who comes OUT when, by whose KEY. */
    private static final class Morning {
        private int people;
        private final int[][] ways;
        private final int[] up;
        private final int[] need;
        private final int[] window;
        private final int[] pace;
        /** Of each PERSON the DOORS (bits) to which his KEYS lead him. */
        private final int[] doors;

        private final int[] outs;
        private final int[] opened;
        private final int[] opener;

        Morning() {
            ways = new int[MOST_PEOPLE][MOST_PEOPLE];
            up = new int[MOST_PEOPLE];
            need = new int[MOST_PEOPLE];
            window = new int[MOST_PEOPLE];
            pace = new int[MOST_PEOPLE];
            doors = new int[MOST_PEOPLE];
            outs = new int[MOST_PEOPLE];
            opened = new int[MOST_PEOPLE];
            opener = new int[MOST_PEOPLE];
        }

        void prepare(Town town) {
            people = town.people;
            for (int p = 0; p < people; p++) {
                for (int house = 0; house < people; house++) {
                    ways[p][house] = town.wayBetween(p, house);
                }
                up[p] = town.upOf(p);
                need[p] = town.needOf(p);
                window[p] = town.windowOf(p);
                pace[p] = town.paceOf(p);
                doors[p] = 0;
            }
            for (int k = 0; k < town.keys; k++) {
                if (town.door[k] != town.held[k]) {
                    doors[town.held[k]] |= 1 << town.door[k];
                }
            }
        }

        /**
         * Sends the PEOPLE out in the order of their minutes: nobody opens before he is OUT himself,
         * so that the least minute among those still in can't become less.
         */
        void pass(int watchers, int broken, boolean windows) {
            for (int p = 0; p < people; p++) {
                outs[p] = NEVER;
                opened[p] = (broken >> p & 1) != 0 ? 0 : NEVER;
                opener[p] = NONE;
            }
            int gonePeople = 0;
            for (int turn = 0; turn < people; turn++) {
                int next = NONE;
                int least = NEVER;
                for (int p = 0; p < people; p++) {
                    if ((gonePeople >> p & 1) == 0) {
                        int minute = (watchers >> p & 1) != 0 ? 0 : minuteOut(p, windows);
                        if (minute < least) {
                            least = minute;
                            next = p;
                        }
                    }
                }
                if (next < 0) {
                    return;
                }
                gonePeople |= 1 << next;
                outs[next] = least;
                openDoors(next);
            }
        }

        private int minuteOut(int p, boolean windows) {
            int byDoor = Math.max(opened[p], up[p]);
            return windows ? Math.min(byDoor, window[p]) : byDoor;
        }

        private void openDoors(int p) {
            int minute = outs[p];
            int house = p;
            for (int d = 0; d < people; d++) {
                if ((doors[p] >> d & 1) != 0) {
                    minute += pace[p] * ways[house][d] + need[p];
                    house = d;
                    if (minute < opened[d] || minute == opened[d] && p < opener[d]) {
                        opened[d] = minute;
                        opener[d] = p;
                    }
                }
            }
        }

        int lastOut() {
            int last = 0;
            for (int p = 0; p < people; p++) {
                last = Math.max(last, outs[p]);
            }
            return last;
        }

        int everOut() {
            int bits = 0;
            for (int p = 0; p < people; p++) {
                if (outs[p] != NEVER) {
                    bits |= 1 << p;
                }
            }
            return bits;
        }
    }
}
