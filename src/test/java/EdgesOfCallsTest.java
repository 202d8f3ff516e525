import java.lang.reflect.Method;
import java.lang.reflect.Modifier;
import java.util.Arrays;
import java.util.List;
import java.util.function.Supplier;

/**
 * The calls themselves: sentence by sentence of "REFUSALS", "THE IMAGE" and of the promises 2 to 32, at the edges of
 * what may be asked, in three scenes: nobody, some (3 PEOPLE, 2 KEYS, 3 letters, 3 in the ROW) and all that there is
 * room for. Each REFUSAL is looked at for which it is, where two could be given, and that it changes nothing but
 * how many of it there were. The sentence stands in each remark.
 */
public final class EdgesOfCallsTest {
    private static final int LEAST = Integer.MIN_VALUE;
    private static final int GREATEST = Integer.MAX_VALUE;
    private static final Supplier<LockedInByNext> NONE = Scenes.NONE;
    private static final Supplier<LockedInByNext> SOME = Scenes.SOME;
    private static final Supplier<LockedInByNext> FULL = Scenes.FULL;

    private static final Checks C = new Checks();
    private static final Scenes SCENES = new Scenes(C);

    /** Of each scene: how many PEOPLE and KEYS there are, and what is beneath and above their numbers. */
    private enum Scene {
        NOBODY(NONE, 0, 0), A_FEW(SOME, 3, 2), ALL_OF_THEM(FULL, 7, 10);

        final Supplier<LockedInByNext> made;
        final int people;
        final int keys;

        Scene(Supplier<LockedInByNext> made, int people, int keys) {
            this.made = made;
            this.people = people;
            this.keys = keys;
        }

        int[] noPerson() {
            return new int[] {-1, people, people + 1, 10, LEAST, GREATEST};
        }

        int[] noKey() {
            return new int[] {-1, keys, keys + 1, 11, LEAST, GREATEST};
        }

        int[] somePeople() {
            return people == 0 ? new int[0] : new int[] {0, 1, people - 2, people - 1};
        }

        int[] someKeys() {
            return keys == 0 ? new int[0] : new int[] {0, 1, keys - 2, keys - 1};
        }
    }

    public static void main(String[] args) throws ReflectiveOperationException {
        letter();
        letterRoom();
        person();
        key();
        give();
        cast();
        castRoom();
        lose();
        watch();
        wake();
        walk();
        outAndBy();
        whatOfSets();
        copy();
        copies();
        gone();
        fire();
        lot();
        row();
        seeds();
        questionsChangeNothing();
        imageIsTaken();
        imageIsAllThatIsTold();
        imageIsNot();
        onOfNone();
        counts();
        countsOfRefusals();
        manyCalls();
        answersOfSome();
        answersOfFull();
        anyArguments();
        C.end("EdgesOfCallsTest");
    }

    private static LockedInByNext withLetters(int letters) {
        LockedInByNext x = SOME.get();
        for (int n = x.count(6); n < letters; n++) {
            x.letter(';');
        }
        return x;
    }

    /** Promise 2: "A letter (0 .. 255) comes: how many there are. -4; -6 (255 ..)". */
    private static void letter() {
        C.part("2, A letter (0 .. 255); -4; -6 (255)");
        for (Supplier<LockedInByNext> scene : List.of(NONE, SOME)) {
            int more = scene.get().count(6) + 1;
            for (int c : new int[] {0, 1, 254, 255}) {
                SCENES.alike(scene, "letter(" + c + ")", more, x -> x.letter(c), x -> x.letter(c));
            }
            for (int c : new int[] {-1, -2, -255, LEAST}) {
                SCENES.refused(scene, "letter(" + c + ")", -4, x -> x.letter(c));
            }
            for (int c : new int[] {256, 257, 1000, GREATEST}) {
                SCENES.refused(scene, "letter(" + c + ")", -6, x -> x.letter(c));
            }
        }
    }

    /** Promise 2: "-4; -6 (255; 80, too)": in this order. */
    private static void letterRoom() {
        C.part("2, -4; -6 (255; 80, too)");
        for (int n = 78; n <= 79; n++) {
            int there = n;
            SCENES.refused(() -> withLetters(there), "letter(256) behind " + n, -6, x -> x.letter(256));
            C.due("letter(0) behind " + n, withLetters(n).letter(0), n + 1);
            C.due("letter(255) behind " + n, withLetters(n).letter(255), n + 1);
        }
        for (int c : new int[] {0, 1, 'r', 255, 256, GREATEST}) {
            SCENES.refused(() -> withLetters(80), "letter(" + c + ") behind 80", -6, x -> x.letter(c));
            SCENES.refused(FULL, "letter(" + c + ") behind 80", -6, x -> x.letter(c));
        }
        for (int c : new int[] {-1, LEAST}) {
            SCENES.refused(FULL, "letter(" + c + ") behind 80", -4, x -> x.letter(c));
        }
    }

    /** Promise 4: "-1; -2". */
    private static void person() {
        C.part("4, -1; -2");
        for (Scene s : Scene.values()) {
            for (int p : s.noPerson()) {
                for (int what : new int[] {-1, 0, 7, 8}) {
                    SCENES.refused(s.made, "person(" + p + ", " + what + ")", -1, x -> x.person(p, what));
                }
            }
            for (int p : s.somePeople()) {
                for (int what : new int[] {-1, 8, 9, LEAST, GREATEST}) {
                    SCENES.refused(s.made, "person(" + p + ", " + what + ")", -2, x -> x.person(p, what));
                }
                for (int what = 0; what <= 7; what++) {
                    int asked = what;
                    SCENES.changesNothing(s.made, "person(" + p + ", " + what + ")", x -> x.person(p, asked));
                }
            }
        }
    }

    /** Promise 5: "-1; -2". */
    private static void key() {
        C.part("5, -1; -2");
        for (Scene s : Scene.values()) {
            for (int k : s.noKey()) {
                for (int what : new int[] {-1, 0, 1, 2}) {
                    SCENES.refused(s.made, "key(" + k + ", " + what + ")", -1, x -> x.key(k, what));
                }
            }
            for (int k : s.someKeys()) {
                for (int what : new int[] {-1, 2, 3, LEAST, GREATEST}) {
                    SCENES.refused(s.made, "key(" + k + ", " + what + ")", -2, x -> x.key(k, what));
                }
                SCENES.changesNothing(s.made, "key(" + k + ", 0)", x -> x.key(k, 0));
                SCENES.changesNothing(s.made, "key(" + k + ", 1)", x -> x.key(k, 1));
            }
        }
        SCENES.asked(SOME, "key(1, 0)", 2, x -> x.key(1, 0));
        SCENES.asked(SOME, "key(1, 1)", 1, x -> x.key(1, 1));
        SCENES.asked(FULL, "key(9, 0)", 3, x -> x.key(9, 0));
        SCENES.asked(FULL, "key(9, 1)", 2, x -> x.key(9, 1));
    }

    /** Promise 6: "A KEY is HELD by another one: by whom it was. -1 either." */
    private static void give() {
        C.part("6, by whom it was; -1 either");
        for (Scene s : Scene.values()) {
            for (int k : s.noKey()) {
                for (int p : s.noPerson()) {
                    SCENES.refused(s.made, "give(" + k + ", " + p + ")", -1, x -> x.give(k, p));
                }
                for (int p : s.somePeople()) {
                    SCENES.refused(s.made, "give(" + k + ", " + p + ")", -1, x -> x.give(k, p));
                }
            }
            for (int k : s.someKeys()) {
                for (int p : s.noPerson()) {
                    SCENES.refused(s.made, "give(" + k + ", " + p + ")", -1, x -> x.give(k, p));
                }
                int was = s.made.get().key(k, 1);
                for (int p : s.somePeople()) {
                    LockedInByNext x = s.made.get();
                    C.due("give(" + k + ", " + p + ")", x.give(k, p), was);
                    C.due("key(" + k + ", 1)", x.key(k, 1), p);
                    C.due("given back", x.give(k, was), p);
                    C.due("all is as it was", Scenes.look(x), Scenes.look(s.made.get()));
                }
            }
        }
    }

    /** Promise 7: "A KEY more: its number. -1 either". */
    private static void cast() {
        C.part("7, its number; -1 either");
        for (Scene s : Scene.values()) {
            for (int p : s.noPerson()) {
                for (int other : s.noPerson()) {
                    SCENES.refused(s.made, "cast(" + p + ", " + other + ")", -1, x -> x.cast(p, other));
                }
                for (int other : s.somePeople()) {
                    SCENES.refused(s.made, "cast(" + p + ", " + other + ")", -1, x -> x.cast(p, other));
                    SCENES.refused(s.made, "cast(" + other + ", " + p + ")", -1, x -> x.cast(other, p));
                }
            }
        }
        for (int door = 0; door < 3; door++) {
            for (int held = 0; held < 3; held++) {
                LockedInByNext x = SOME.get();
                C.due("cast(" + door + ", " + held + ")", x.cast(door, held), 2);
                C.due("its DOOR", x.key(2, 0), door);
                C.due("HELD", x.key(2, 1), held);
                C.due("lose(2)", x.lose(2), 2);
                C.due("all is as it was", Scenes.look(x), Scenes.look(SOME.get()));
            }
        }
    }

    /** Promise 7: "-1 either; -6 10": in this order. */
    private static void castRoom() {
        C.part("7, -6 10");
        for (int p : new int[] {0, 6}) {
            SCENES.refused(FULL, "cast(" + p + ", 0)", -6, x -> x.cast(p, 0));
            SCENES.refused(FULL, "cast(0, " + p + ")", -6, x -> x.cast(0, p));
        }
        SCENES.refused(FULL, "cast(7, 0)", -1, x -> x.cast(7, 0));
        SCENES.refused(FULL, "cast(0, 7)", -1, x -> x.cast(0, 7));
        LockedInByNext x = SOME.get();
        for (int k = 2; k <= 9; k++) {
            C.due("cast(1, 0), number " + k, x.cast(1, 0), k);
        }
        C.due("the eleventh", x.cast(1, 0), -6);
        C.due("lose(0)", x.lose(0), 9);
        C.due("the tenth again", x.cast(2, 1), 9);
        C.due("the eleventh again", x.cast(1, 0), -6);
        C.due("KEYS", x.count(1), 10);
    }

    /** Promise 8: "A KEY is gone (those behind it have numbers 1 less): how many are left. -1." */
    private static void lose() {
        C.part("8, numbers 1 less, how many are left; -1");
        for (Scene s : Scene.values()) {
            for (int k : s.noKey()) {
                SCENES.refused(s.made, "lose(" + k + ")", -1, x -> x.lose(k));
            }
            for (int gone = 0; gone < s.keys; gone++) {
                LockedInByNext x = s.made.get();
                LockedInByNext twin = s.made.get();
                C.due("lose(" + gone + ")", x.lose(gone), s.keys - 1);
                C.due("KEYS", x.count(1), s.keys - 1);
                C.due("the number behind the last", x.key(s.keys - 1, 0), -1);
                for (int k = 0; k < s.keys - 1; k++) {
                    int was = k < gone ? k : k + 1;
                    C.due("DOOR of " + k, x.key(k, 0), twin.key(was, 0));
                    C.due("HELD " + k, x.key(k, 1), twin.key(was, 1));
                }
            }
        }
        LockedInByNext x = FULL.get();
        for (int left = 9; left >= 0; left--) {
            C.due("lose(" + left / 2 + ")", x.lose(left / 2), left);
        }
        C.due("lose(0) of none", x.lose(0), -1);
    }

    /** Promise 9: "WATCHERS (bits): who it was. -1 bits that are none." */
    private static void watch() {
        C.part("9, who it was; -1 bits that are none");
        for (Scene s : Scene.values()) {
            int room = 1 << s.people;
            for (int bits : new int[] {-1, -2, LEAST, room, room + 1, 2 * room, 1 << 30, GREATEST, LEAST + 1}) {
                SCENES.refused(s.made, "watch(" + bits + ")", -1, x -> x.watch(bits));
            }
            int was = s.made.get().count(2);
            for (int bits = 0; bits < room; bits++) {
                LockedInByNext x = s.made.get();
                C.due("watch(" + bits + ")", x.watch(bits), was);
                C.due("count(2)", x.count(2), bits);
                for (int p = 0; p < s.people; p++) {
                    C.due("person(" + p + ", 7)", x.person(p, 7), bits >> p & 1);
                }
                C.due("watch() as it was", x.watch(was), bits);
                C.due("all is as it was", Scenes.look(x), Scenes.look(s.made.get()));
            }
        }
    }

    /** Promise 10: "WAKES: what it was. -1; -4; -6 99." */
    private static void wake() {
        C.part("10, what it was; -1; -4; -6 99");
        for (Scene s : Scene.values()) {
            for (int p : s.noPerson()) {
                for (int minute : new int[] {-1, 0, 99, 100}) {
                    SCENES.refused(s.made, "wake(" + p + ", " + minute + ")", -1, x -> x.wake(p, minute));
                }
            }
            for (int p : s.somePeople()) {
                for (int minute : new int[] {-1, -2, LEAST}) {
                    SCENES.refused(s.made, "wake(" + p + ", " + minute + ")", -4, x -> x.wake(p, minute));
                }
                for (int minute : new int[] {100, 101, GREATEST}) {
                    SCENES.refused(s.made, "wake(" + p + ", " + minute + ")", -6, x -> x.wake(p, minute));
                }
                int was = s.made.get().person(p, 1);
                for (int minute : new int[] {0, 1, 98, 99}) {
                    LockedInByNext x = s.made.get();
                    C.due("wake(" + p + ", " + minute + ")", x.wake(p, minute), was);
                    C.due("WAKES", x.person(p, 1), minute);
                    C.due("wake() as it was", x.wake(p, was), minute);
                    C.due("all is as it was", Scenes.look(x), Scenes.look(s.made.get()));
                }
            }
        }
    }

    /** Promise 11: "WALK: what it was. -4; -6 9." */
    private static void walk() {
        C.part("11, what it was; -4; -6 9");
        for (Scene s : Scene.values()) {
            int was = s.made.get().count(3);
            for (int v : new int[] {-1, -2, LEAST}) {
                SCENES.refused(s.made, "walk(" + v + ")", -4, x -> x.walk(v));
            }
            for (int v : new int[] {10, 11, GREATEST}) {
                SCENES.refused(s.made, "walk(" + v + ")", -6, x -> x.walk(v));
            }
            for (int v = 0; v <= 9; v++) {
                LockedInByNext x = s.made.get();
                C.due("walk(" + v + ")", x.walk(v), was);
                C.due("count(3)", x.count(3), v);
                C.due("walk() as it was", x.walk(was), v);
                C.due("all is as it was", Scenes.look(x), Scenes.look(s.made.get()));
            }
        }
    }

    /** Promise 12: "-1." Promise 15: "-1." */
    private static void outAndBy() {
        C.part("12 and 15, -1");
        for (Scene s : Scene.values()) {
            for (int p : s.noPerson()) {
                SCENES.refused(s.made, "out(" + p + ")", -1, x -> x.out(p));
                SCENES.refused(s.made, "by(" + p + ")", -1, x -> x.by(p));
            }
            for (int p : s.somePeople()) {
                SCENES.changesNothing(s.made, "out(" + p + ")", x -> x.out(p));
                SCENES.changesNothing(s.made, "by(" + p + ")", x -> x.by(p));
            }
        }
    }

    /** Promises 16, 17 and 23: "what 0 .. 1 .. -2." */
    private static void whatOfSets() {
        C.part("16, 17 and 23, -2");
        for (Scene s : Scene.values()) {
            for (int what : new int[] {-1, 2, 3, LEAST, GREATEST}) {
                SCENES.refused(s.made, "fewest(" + what + ")", -2, x -> x.fewest(what));
                SCENES.refused(s.made, "soonest(" + what + ")", -2, x -> x.soonest(what));
                SCENES.refused(s.made, "breaking(" + what + ")", -2, x -> x.breaking(what));
            }
            for (int what = 0; what <= 1; what++) {
                int asked = what;
                SCENES.changesNothing(s.made, "fewest(" + what + ")", x -> x.fewest(asked));
                SCENES.changesNothing(s.made, "soonest(" + what + ")", x -> x.soonest(asked));
                SCENES.changesNothing(s.made, "breaking(" + what + ")", x -> x.breaking(asked));
            }
        }
    }

    /** Promise 18: "-3 there are no PEOPLE." */
    private static void copy() {
        C.part("18, -3 there are no PEOPLE");
        SCENES.refused(NONE, "copy()", -3, x -> x.copy());
        SCENES.refused(() -> Checks.told("s4;r;"), "copy()", -3, x -> x.copy());
        SCENES.asked(() -> Checks.told("pp0,0,0,0;"), "copy()", -9, x -> x.copy());
        SCENES.changesNothing(SOME, "copy()", x -> x.copy());
        SCENES.changesNothing(FULL, "copy()", x -> x.copy());
    }

    /** Promise 19: "-4." */
    private static void copies() {
        C.part("19, -4");
        for (Scene s : Scene.values()) {
            for (int minute : new int[] {-1, -2, LEAST}) {
                SCENES.refused(s.made, "copies(" + minute + ")", -4, x -> x.copies(minute));
            }
            for (int minute : new int[] {0, 1, 998, 999, 1000, GREATEST}) {
                SCENES.changesNothing(s.made, "copies(" + minute + ")", x -> x.copies(minute));
            }
        }
    }

    /** Promise 22: "-1." */
    private static void gone() {
        C.part("22, -1");
        for (Scene s : Scene.values()) {
            for (int k : s.noKey()) {
                SCENES.refused(s.made, "gone(" + k + ")", -1, x -> x.gone(k));
            }
            for (int k : s.someKeys()) {
                SCENES.changesNothing(s.made, "gone(" + k + ")", x -> x.gone(k));
            }
        }
    }

    /** Promise 24: "-1; -4." */
    private static void fire() {
        C.part("24, -1; -4");
        for (Scene s : Scene.values()) {
            for (int p : s.noPerson()) {
                for (int minute : new int[] {-1, 0, LEAST, GREATEST}) {
                    SCENES.refused(s.made, "fire(" + p + ", " + minute + ")", -1, x -> x.fire(p, minute));
                }
            }
            for (int p : s.somePeople()) {
                for (int minute : new int[] {-1, -2, LEAST}) {
                    SCENES.refused(s.made, "fire(" + p + ", " + minute + ")", -4, x -> x.fire(p, minute));
                }
                for (int minute : new int[] {0, 1, 1000, GREATEST}) {
                    SCENES.changesNothing(s.made, "fire(" + p + ", " + minute + ")", x -> x.fire(p, minute));
                }
            }
        }
        SCENES.refused(() -> Checks.told("pp0,0,0,0;"), "fire(0, -1), never out", -4, x -> x.fire(0, -1));
    }

    /** Promise 25: "-4; -6 9; -2 either": in this order. */
    private static void lot() {
        C.part("25, -4; -6 9; -2 either");
        for (Scene s : Scene.values()) {
            for (int what : new int[] {-1, 0, 1, 2}) {
                for (int part : new int[] {-1, 0, 1, 2}) {
                    for (int n : new int[] {0, -1, LEAST}) {
                        SCENES.refused(s.made, "lot(" + n + ", " + what + ", " + part + ")", -4,
                                x -> x.lot(n, what, part));
                    }
                    for (int n : new int[] {10, 11, GREATEST}) {
                        SCENES.refused(s.made, "lot(" + n + ", " + what + ", " + part + ")", -6,
                                x -> x.lot(n, what, part));
                    }
                    boolean known = (what == 0 || what == 1) && (part == 0 || part == 1);
                    for (int n : new int[] {1, 2, 8, 9}) {
                        String call = "lot(" + n + ", " + what + ", " + part + ")";
                        if (known) {
                            SCENES.changesNothing(s.made, call, x -> x.lot(n, what, part));
                        } else {
                            SCENES.refused(s.made, call, -2, x -> x.lot(n, what, part));
                        }
                    }
                }
            }
            SCENES.refused(s.made, "lot(5, least, 0)", -2, x -> x.lot(5, LEAST, 0));
            SCENES.refused(s.made, "lot(5, 0, greatest)", -2, x -> x.lot(5, 0, GREATEST));
        }
    }

    private static LockedInByNext withRow(int numbers) {
        LockedInByNext x = Checks.told("pp0,0,0,0;");
        for (int n = 0; n < numbers; n++) {
            x.row(n);
        }
        return x;
    }

    /** Promise 26: "A number more of the ROW (0 .. 999): how many. -4; -6 (999; 7, too)": in this order. */
    private static void row() {
        C.part("26, how many; -4; -6 (999; 7, too)");
        for (int there = 0; there <= 7; there++) {
            int n = there;
            for (int v : new int[] {-1, -2, LEAST}) {
                SCENES.refused(() -> withRow(n), "row(" + v + ") behind " + n, -4, x -> x.row(v));
            }
            for (int v : new int[] {1000, 1001, GREATEST}) {
                SCENES.refused(() -> withRow(n), "row(" + v + ") behind " + n, -6, x -> x.row(v));
            }
            for (int v : new int[] {0, 1, 998, 999}) {
                if (n < 7) {
                    SCENES.alike(() -> withRow(n), "row(" + v + ") behind " + n, n + 1, x -> x.row(v), x -> x.row(v));
                } else {
                    SCENES.refused(() -> withRow(n), "row(" + v + ") behind " + n, -6, x -> x.row(v));
                }
            }
        }
        SCENES.refused(FULL, "row(0)", -6, x -> x.row(0));
        SCENES.refused(FULL, "row(-1)", -4, x -> x.row(-1));
    }

    /** Promise 29: "SEEDS. -4; -6 20." */
    private static void seeds() {
        C.part("29, -4; -6 20");
        for (Scene s : Scene.values()) {
            for (int z : new int[] {0, -1, LEAST, GREATEST}) {
                for (int n : new int[] {0, -1, LEAST}) {
                    SCENES.refused(s.made, "seeds(" + n + ", " + z + ")", -4, x -> x.seeds(n, z));
                }
                for (int n : new int[] {21, 22, GREATEST}) {
                    SCENES.refused(s.made, "seeds(" + n + ", " + z + ")", -6, x -> x.seeds(n, z));
                }
                for (int n : new int[] {1, 2, 19, 20}) {
                    SCENES.changesNothing(s.made, "seeds(" + n + ", " + z + ")", x -> x.seeds(n, z));
                }
            }
        }
    }

    /** Promises 13, 14, 20, 21 and 27, that ask without a REFUSAL here: nothing is changed by it. */
    private static void questionsChangeNothing() {
        C.part("13, 14, 20, 21, 27: questions");
        for (Scene s : Scene.values()) {
            SCENES.changesNothing(s.made, "all()", x -> x.all());
            SCENES.changesNothing(s.made, "late()", x -> x.late());
            SCENES.changesNothing(s.made, "rings()", x -> x.rings());
            SCENES.changesNothing(s.made, "swap()", x -> x.swap());
            SCENES.changesNothing(s.made, "overslept()", x -> x.overslept());
            for (int what = -1; what <= 17; what++) {
                int asked = what;
                SCENES.changesNothing(s.made, "count(" + what + ")", x -> x.count(asked));
            }
        }
    }

    /** Promise 30: "THE IMAGE is taken: how many PEOPLE." Promise 31: "ON from it: how many PEOPLE." */
    private static void imageIsTaken() {
        C.part("30 and 31, how many PEOPLE");
        for (Scene s : Scene.values()) {
            LockedInByNext x = s.made.get();
            C.due("image()", x.image(), s.people);
            C.due("on()", x.on(), s.people);
            C.due("on() again", x.on(), s.people);
            LockedInByNext twin = s.made.get();
            twin.image();
            C.due("nothing has come between", Scenes.look(x), Scenes.look(twin));
        }
        SCENES.alike(NONE, "image(), on(), of nobody", 0, x -> x.image() + x.on(), x -> x.image());
        LockedInByNext x = SOME.get();
        x.all();
        C.due("on(), the image is older", x.on(), 1);
        C.due("PEOPLE", x.count(0), 1);
        C.due("image(), a later one", x.image(), 1);
        Checks.tell(x, "pp0,0,0,0;");
        C.due("on() from the later one", x.on(), 1);
    }

    /** THE IMAGE: "all that is told ..; ON from it all is as then." */
    private static void imageIsAllThatIsTold() {
        C.part("THE IMAGE, all that is told");
        Scenes.Change[] changes = {
            x -> x.wake(0, 50), x -> x.wake(2, 51), x -> x.walk(3), x -> x.watch(0), x -> x.watch(7),
            x -> x.give(0, 2), x -> x.give(1, 0), x -> x.cast(0, 2), x -> x.lose(0), x -> x.lose(1),
            x -> say(x, "pp1,2,3,4;"), x -> say(x, "k12;"), x -> say(x, "w2;"), x -> say(x, "s9;"),
            x -> say(x, "r;"), x -> say(x, "ph1,2,3,4;ph1,2,3,4;w4;k43;k34;s0;r;")};
        for (int i = 0; i < changes.length; i++) {
            LockedInByNext x = SOME.get();
            x.town();
            x.image();
            String before = Checks.stateOf(x);
            changes[i].of(x);
            C.due("change " + i + " is one", Checks.stateOf(x).equals(before) ? 1 : 0, 0);
            x.all();
            C.due("on()", x.on(), 3);
            C.due("as then", Checks.stateOf(x), before);
            changes[i].of(x);
            x.all();
            x.on();
            C.due("as then, again", Checks.stateOf(x), before);
            for (int p : Scene.A_FEW.noPerson()) {
                nobodyIs(x, p);
            }
            LockedInByNext twin = SOME.get();
            twin.town();
            twin.image();
            C.due("all that is seen", Scenes.look(x), Scenes.look(twin));
        }
    }

    private static void nobodyIs(LockedInByNext x, int p) {
        int[] answers = {x.person(p, 0), x.give(0, p), x.cast(p, 0), x.cast(0, p), x.wake(p, 0), x.out(p), x.by(p),
            x.fire(p, 0)};
        for (int i = 0; i < answers.length; i++) {
            C.due("of nobody, " + p + ", " + i, answers[i], -1);
        }
        C.due("watch(8)", x.watch(8), -1);
    }

    private static void say(LockedInByNext x, String text) {
        C.due("town() of " + text, x.count(6) == 0 && Checks.tell(x, text) > 0 ? 1 : 0, 1);
    }

    /** THE IMAGE: "(not the ROW, letters, REFUSALS)". */
    private static void imageIsNot() {
        C.part("THE IMAGE, not the ROW, letters, REFUSALS");
        LockedInByNext x = SOME.get();
        x.image();
        Checks.row(x, 5, 6);
        Checks.letters(x, "r;");
        x.out(-1);
        x.key(0, 2);
        x.overslept();
        x.walk(-1);
        x.walk(10);
        int[] refusals = Checks.refusalsOf(x);
        C.due("on()", x.on(), 3);
        C.due("the ROW", x.count(5), 5);
        C.due("letters", x.count(6), 5);
        int[] want = {0, 2, 3, 1, 4, 0, 5};
        for (int r = 1; r <= 6; r++) {
            C.due("count(" + (10 + r) + ")", x.count(10 + r), refusals[r]);
            C.due("count(" + (10 + r) + ")", x.count(10 + r), want[r]);
        }
        C.due("the letters are those told", x.town(), 2);
        C.due("by them", x.count(3), 7);
        C.due("by them", x.count(4), 1);
        LockedInByNext y = SOME.get();
        y.judge();
        y.town();
        y.image();
        Checks.row(y, 68, 0, 46);
        Checks.letters(y, "x");
        y.judge();
        y.town();
        C.due("on()", y.on(), 3);
        C.due("no ROW comes back", y.count(5), 0);
        C.due("no letters come back", y.count(6), 0);
    }

    /** Promise 31: "-3 there is none." */
    private static void onOfNone() {
        C.part("31, -3 there is none");
        SCENES.refused(NONE, "on()", -3, x -> x.on());
        SCENES.refused(() -> Checks.told("pp1,2,3,4;w0;k00;"), "on()", -3, x -> x.on());
        SCENES.refused(() -> {
            LockedInByNext x = Checks.told("pp1,2,3,4;w0;k00;");
            x.on();
            return x;
        }, "on() again", -3, x -> x.on());
        SCENES.alike(SOME, "on()", 1, x -> x.on(), x -> x.on());
        SCENES.alike(FULL, "on()", 2, x -> x.on(), x -> x.on());
    }

    /** Promise 32: "0 PEOPLE, 1 KEYS, 2 WATCHERS (bits), 3 WALK, 4 1 a RING, 5 in the ROW, 6 letters ..; -9". */
    private static void counts() {
        C.part("32, counts; -9 for another what");
        int[][] want = {{0, 0, 0, 1, 0, 0, 0}, {3, 2, 2, 4, 0, 3, 3}, {7, 10, 2, 5, 1, 7, 80}};
        for (Scene s : Scene.values()) {
            for (int what = 0; what <= 6; what++) {
                int asked = what;
                SCENES.asked(s.made, "count(" + what + ")", want[s.ordinal()][what], x -> x.count(asked));
            }
            for (int what : new int[] {-1, -2, 7, 8, 9, 10, 17, 18, 1 << 20, LEAST, GREATEST}) {
                SCENES.asked(s.made, "count(" + what + ")", -9, x -> x.count(what));
            }
        }
    }

    /** Promise 32: "11 .. 16 REFUSALS -1 .. -6"; each is counted by its own number. */
    private static void countsOfRefusals() {
        C.part("32, REFUSALS");
        int[] want = {1, 2, 0, 3, 0, 4};
        for (int r = 0; r < 6; r++) {
            int what = 11 + r;
            SCENES.asked(SOME, "count(" + what + ")", want[r], x -> x.count(what));
            SCENES.asked(FULL, "count(" + what + ")", want[r], x -> x.count(what));
            SCENES.asked(NONE, "count(" + what + ")", 0, x -> x.count(what));
        }
        LockedInByNext x = FULL.get();
        C.due("overslept() is none", x.judge(), 0);
        C.due("overslept()", x.overslept(), -3);
        C.due("count(13)", x.count(13), 1);
        C.due("a FAULT is none", Checks.tell(x, ""), 27);
        C.due("a FAULT is none", x.town(), -1000);
        C.due("-9 is none", x.count(99), -9);
        for (int r = 0; r < 6; r++) {
            C.due("count(" + (11 + r) + ")", x.count(11 + r), r == 2 ? 1 : want[r]);
        }
    }

    /** "An object is used for at most 512 calls after it has been made": up to the last of them all holds. */
    private static void manyCalls() {
        C.part("512 calls");
        LockedInByNext x = new LockedInByNext();
        for (int call = 1; call <= 511; call++) {
            C.due("on() " + call, x.on(), -3);
        }
        C.due("the 512th", x.count(13), 511);
        LockedInByNext y = new LockedInByNext();
        Checks.tell(y, "pp0,0,0,0;pp0,9,0,0;w1;k01;");
        for (int call = 29; call <= 511; call++) {
            C.due("walk " + call, y.walk(call % 10), call == 29 ? 1 : (call + 9) % 10);
        }
        C.due("the 512th", y.out(0), 10);
        LockedInByNext z = new LockedInByNext();
        for (int round = 0; round < 128; round++) {
            z.letter('r');
            z.letter(';');
            C.due("town() " + round, z.town(), 1);
            C.due("image() " + round, z.image(), 0);
        }
        LockedInByNext judged = new LockedInByNext();
        for (int round = 0; round < 256; round++) {
            C.due("row(1) " + round, judged.row(1), 1);
            C.due("judge() " + round, judged.judge(), 0);
        }
    }

    /** Promises 4 to 29 in the scene of some: what it answers, worked by hand. */
    private static void answersOfSome() {
        C.part("some: all answers");
        int[][] people = {{3, 8, 7, 6, 5, 8, 7, 0}, {0, 10, 2, 20, 1, 10, 2, 1}, {2, 20, 3, 40, 2, 40, 3, 0}};
        int[] outs = {68, 0, 40};
        int[] bys = {-9, -9, 1};
        for (int person = 0; person < 3; person++) {
            int p = person;
            for (int what = 0; what < 8; what++) {
                int asked = what;
                SCENES.asked(SOME, "person(" + p + ", " + what + ")", people[p][what], x -> x.person(p, asked));
            }
            SCENES.asked(SOME, "out(" + p + ")", outs[p], x -> x.out(p));
            SCENES.asked(SOME, "by(" + p + ")", bys[p], x -> x.by(p));
            SCENES.asked(SOME, "fire(" + p + ", 1)", Math.max(0, outs[p] - 1), x -> x.fire(p, 1));
        }
        SCENES.asked(SOME, "all()", 68, x -> x.all());
        SCENES.asked(SOME, "late()", 1, x -> x.late());
        SCENES.asked(SOME, "fewest(0)", 2, x -> x.fewest(0));
        SCENES.asked(SOME, "fewest(1)", 3, x -> x.fewest(1));
        SCENES.asked(SOME, "soonest(0)", 3, x -> x.soonest(0));
        SCENES.asked(SOME, "soonest(1)", 40, x -> x.soonest(1));
        SCENES.asked(SOME, "copy()", 1, x -> x.copy());
        SCENES.asked(SOME, "copies(68)", 0, x -> x.copies(68));
        SCENES.asked(SOME, "copies(67)", 1, x -> x.copies(67));
        SCENES.asked(SOME, "copies(40)", 1, x -> x.copies(40));
        SCENES.asked(SOME, "copies(39)", -9, x -> x.copies(39));
        SCENES.asked(SOME, "rings()", -9, x -> x.rings());
        SCENES.asked(SOME, "swap()", -9, x -> x.swap());
        SCENES.asked(SOME, "gone(0)", 0, x -> x.gone(0));
        SCENES.asked(SOME, "gone(1)", 4, x -> x.gone(1));
        SCENES.asked(SOME, "breaking(0)", 0, x -> x.breaking(0));
        SCENES.asked(SOME, "breaking(1)", 0, x -> x.breaking(1));
        SCENES.asked(SOME, "overslept()", 4, x -> x.overslept());
        SCENES.alike(SOME, "judge()", 2, x -> x.judge(), x -> x.judge());
        SCENES.asked(SOME, "seeds(1, 0)", 172, x -> x.seeds(1, 0));
        LockedInByNext x = SOME.get();
        C.due("watch(0)", x.watch(0), 2);
        C.due("fewest(1)", x.fewest(1), 3);
        C.due("breaking(0)", x.breaking(0), 2);
        C.due("breaking(1)", x.breaking(1), 1);
        C.due("late()", x.late(), 7);
        C.due("judge()", x.judge(), 1);
        C.due("seeds(1, 0)", x.seeds(1, 0), 0);
        C.due("copy()", x.copy(), 10);
        C.due("all()", x.all(), -9);
    }

    /** Promises 12 to 23 in the scene of all that there is room for: what it answers, worked by hand. */
    private static void answersOfFull() {
        C.part("full: answers");
        int[] outs = {91, 0, 50, 58, 65, 73, 77};
        int[] bys = {6, 0, 1, 2, 3, 4, 5};
        for (int person = 0; person < 7; person++) {
            int p = person;
            SCENES.asked(FULL, "out(" + p + ")", outs[p], x -> x.out(p));
            SCENES.asked(FULL, "by(" + p + ")", bys[p], x -> x.by(p));
        }
        SCENES.asked(FULL, "all()", 91, x -> x.all());
        SCENES.asked(FULL, "late()", 17, x -> x.late());
        SCENES.asked(FULL, "fewest(0)", 1, x -> x.fewest(0));
        SCENES.asked(FULL, "fewest(1)", 1, x -> x.fewest(1));
        SCENES.asked(FULL, "copies(91)", 0, x -> x.copies(91));
        SCENES.asked(FULL, "rings()", -9, x -> x.rings());
        SCENES.asked(FULL, "swap()", -9, x -> x.swap());
        int[] goneThen = {0, 0, 0, 113, 97, 65, 1, 0, 0, 0};
        for (int key = 0; key < 10; key++) {
            int k = key;
            SCENES.asked(FULL, "gone(" + k + ")", goneThen[k], x -> x.gone(k));
        }
        SCENES.asked(FULL, "breaking(0)", 0, x -> x.breaking(0));
        SCENES.asked(FULL, "overslept()", 6, x -> x.overslept());
        SCENES.alike(FULL, "judge()", 0, x -> x.judge(), x -> x.judge());
    }

    /** LANGUAGE.md, 7: "No call may ever throw or fail to end, for any arguments in any state". */
    private static void anyArguments() throws ReflectiveOperationException {
        C.part("any arguments");
        int[] wild = {LEAST, LEAST + 1, -1000, -1, 0, 1, 2, 7, 32, 63, 1 << 30, GREATEST - 1, GREATEST};
        for (Method m : LockedInByNext.class.getDeclaredMethods()) {
            int arguments = m.getParameterCount();
            if (!Modifier.isPublic(m.getModifiers()) || arguments == 0) {
                continue;
            }
            for (Scene s : Scene.values()) {
                for (int first : wild) {
                    for (int second : arguments < 2 ? new int[1] : wild) {
                        Object[] given = new Integer[] {first, second, second / 2};
                        LockedInByNext x = s.made.get();
                        Object answer = m.invoke(x, Arrays.copyOf(given, arguments));
                        C.due(m.getName() + " answers", answer instanceof Integer ? 1 : 0, 1);
                        C.due(m.getName() + ", PEOPLE", x.count(0), s.people);
                    }
                }
            }
        }
    }
}
