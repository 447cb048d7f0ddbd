/** The sentences of promises 21 to 29: what follows from laws. */
public final class KeyFinderFollowsTest extends Sentences {
    public static void main(String[] args) {
        width();
        widthOutside();
        closure();
        follows();
        stepsTillThere();
        followsOutside();
        step();
        keys();
        key();
        prime();
        cover();
        covered();
        end(21, 29);
    }

    private static void width() {
        of(21, "WIDTH becomes n: what it was; PARTS go.");
        Finder k = new Finder();
        int was = 4;
        for (int n : new int[] {1, 8, 8, 2, 7, 4, 4, 3, 5, 6, 1}) {
            part(k, 1, 1);
            due(k.width(n), was);
            due(k.told(5), n);
            partsAre(k);
            due(k.closure((1 << n) - 1), (1 << n) - 1);
            due(k.closure(1 << n), OUTSIDE);
            was = n;
        }
        // The same WIDTH makes PARTS go, too; LAWS, STEPS, what is FOUND and where one broke stay.
        k = new Finder();
        lived(k);
        due(k.width(4), 4);
        partsAre(k);
        due(k.told(0), 8);
        due(k.told(1), 2);
        stepsAre(k, 0);
        foundAre(k, 4, 0, 1, 2);
        breaksAt(k, 0, 1);
        due(k.width(1), 4);
        stepsAre(k, 0);
        // A LAW that was cut is whole again when there is room.
        k = telling(1, 1, 128);
        due(k.closure(1), 1);
        due(k.width(8), 1);
        due(k.closure(1), 129);
    }

    private static void widthOutside() {
        of(21, "OUTSIDE: n is not 1 .. 8.");
        for (int n : new int[] {0, 9, -1, 256, MIN, MAX}) {
            refused(Sentences::lived, k -> k.width(n), OUTSIDE);
            refused(Sentences::fresh, k -> k.width(n), OUTSIDE);
        }
        due(new Finder().width(1), 4);
        due(new Finder().width(8), 4);
    }

    private static void closure() {
        of(22, "THE CLOSURE.");
        Finder k = telling(5, 2, 4, 1, 2, 6, 8);
        int[][] pairs = {{0, 0}, {1, 15}, {2, 14}, {4, 4}, {6, 14}, {8, 8}, {16, 16}, {17, 31}, {31, 31}};
        for (int[] pair : pairs) {
            due(k.closure(pair[0]), pair[1]);
            // Asked once more, it is the same.
            due(k.closure(pair[0]), pair[1]);
        }
        // It goes by the LAWS as they are now.
        due(k.law(TELLS, 0, 16), 3);
        due(k.closure(0), 16);
        due(k.closure(1), 31);
        due(k.unlaw(0), 1);
        due(k.closure(1), 19);
        due(k.law(KEY, 16, 0), 4);
        due(k.closure(0), 31);
        of(22, "OUTSIDE: x has a column not in ALL.");
        for (int x : new int[] {16, 17, 128, 255, 256, -1, MIN, MAX}) {
            refused(Sentences::lived, f -> f.closure(x), OUTSIDE);
        }
        k = telling(8, 1, 2);
        due(k.closure(255), 255);
        due(k.closure(256), OUTSIDE);
        due(k.closure(-1), OUTSIDE);
        due(k.width(1), 8);
        due(k.closure(2), OUTSIDE);
        due(k.closure(1), 1);
    }

    private static void follows() {
        of(23, "Whether X TELLS Y: 1, 0;");
        Finder k = telling(4, 1, 2, 2, 4);
        due(k.follows(1, 4), 1);
        due(k.follows(1, 7), 1);
        due(k.follows(1, 8), 0);
        due(k.follows(1, 12), 0);
        due(k.follows(2, 1), 0);
        due(k.follows(0, 0), 1);
        due(k.follows(0, 1), 0);
        due(k.follows(15, 15), 1);
        due(k.follows(8, 0), 1);
        due(k.follows(8, 8), 1);
    }

    private static void stepsTillThere() {
        of(23, "1: LAWS that were taken for it, in order, till Y was there, are STEPS.");
        // Nothing had to be taken.
        Finder k = telling(4, 0, 8, 1, 2, 2, 4);
        due(k.follows(1, 1), 1);
        stepsAre(k);
        due(k.follows(1, 0), 1);
        stepsAre(k);
        // By the least number, though it was not needed, and no more once Y is there.
        due(k.follows(1, 2), 1);
        stepsAre(k, 0, 1);
        due(k.follows(1, 4), 1);
        stepsAre(k, 0, 1, 2);
        due(k.follows(1, 8), 1);
        stepsAre(k, 0);
        due(k.follows(9, 2), 1);
        stepsAre(k, 1);
        // Laws that were dropped are not taken; they are numbered as ever.
        due(k.unlaw(0), 1);
        due(k.follows(1, 4), 1);
        stepsAre(k, 1, 2);
        // One that has nothing more to tell is not taken; one that comes to tell all of Y ends it.
        k = telling(5, 1, 1, 1, 6, 2, 4, 4, 24);
        due(k.follows(1, 16), 1);
        stepsAre(k, 1, 3);
        due(k.follows(1, 30), 1);
        stepsAre(k, 1, 3);
        // As many as can be: each of eight brings one column.
        k = telling(8, 64, 128, 32, 64, 16, 32, 8, 16, 4, 8, 2, 4, 1, 2, 0, 1);
        due(k.follows(0, 128), 1);
        stepsAre(k, 7, 6, 5, 4, 3, 2, 1, 0);
        due(k.follows(0, 255), 1);
        stepsAre(k, 7, 6, 5, 4, 3, 2, 1, 0);
        // LAW 39, and a KEY.
        k = new Finder();
        for (int law = 0; law < 39; law++) {
            due(k.law(SEVERAL, 1, 2), law);
        }
        due(k.law(KEY, 1, 0), 39);
        due(k.follows(1, 8), 1);
        stepsAre(k, 39);
    }

    private static void followsOutside() {
        of(23, "OUTSIDE: x, y.");
        for (int set : new int[] {16, 17, 128, 256, -1, MIN, MAX}) {
            refused(Sentences::lived, k -> k.follows(set, 0), OUTSIDE);
            refused(Sentences::lived, k -> k.follows(0, set), OUTSIDE);
            refused(Sentences::lived, k -> k.follows(set, set), OUTSIDE);
        }
        Finder k = new Finder();
        due(k.width(8), 4);
        due(k.follows(255, 255), 1);
        due(k.follows(256, 0), OUTSIDE);
        due(k.width(1), 8);
        due(k.follows(1, 2), OUTSIDE);
        due(k.follows(2, 1), OUTSIDE);
    }

    private static void step() {
        of(24, "The LAW of STEP i of the latest follows() that answered 1;");
        Finder k = telling(4, 2, 4, 1, 2);
        due(k.follows(1, 4), 1);
        stepsAre(k, 1, 0);
        // One that answered 0, and one that was refused, leave them, as do LAWS that come and go.
        due(k.follows(4, 1), 0);
        stepsAre(k, 1, 0);
        due(k.follows(16, 1), OUTSIDE);
        stepsAre(k, 1, 0);
        due(k.unlaw(1), 1);
        due(k.law(TELLS, 1, 8), 2);
        due(k.closure(1), 9);
        due(k.width(8), 4);
        stepsAre(k, 1, 0);
        due(k.follows(1, 8), 1);
        stepsAre(k, 2);
        due(k.follows(1, 1), 1);
        stepsAre(k);
        of(24, "NONE.");
        due(k.step(0), NONE);
        due(new Finder().step(0), NONE);
        for (int i : new int[] {-1, 1, 8, MIN, MAX}) {
            refused(Sentences::lived, f -> f.step(i), NONE);
        }
    }

    private static void keys() {
        of(25, "How many KEYS.");
        Finder k = new Finder();
        due(k.keys(), 1);
        due(k.law(TELLS, 1, 14), 0);
        due(k.keys(), 1);
        due(k.law(TELLS, 2, 1), 1);
        due(k.keys(), 2);
        due(k.law(TELLS, 12, 1), 2);
        due(k.keys(), 3);
        due(k.unlaw(1), 1);
        due(k.keys(), 2);
        due(k.width(1), 4);
        due(k.keys(), 1);
        due(k.key(0), 0);
        // As many as 40 LAWS can make: sets of four of eight columns, none of them within another.
        k = new Finder();
        due(k.width(8), 4);
        int law = 0;
        int last = 0;
        for (int x = 0; x < 256 && law < 40; x++) {
            if (Integer.bitCount(x) == 4) {
                due(k.law(KEY, x, 0), law);
                law++;
                last = x;
            }
        }
        due(k.keys(), 40);
        due(k.key(0), 15);
        due(k.key(39), last);
        due(k.key(40), NONE);
    }

    private static void key() {
        of(26, "KEY i;");
        keysAre(telling(4, 8, 7, 4, 8, 3, 4), 3, 4, 8);
        keysAre(telling(3, 0, 7), 0);
        Finder k = new Finder();
        due(k.key(0), 15);
        due(k.law(KEY, 2, 0), 0);
        due(k.key(0), 2);
        due(k.unlaw(0), 1);
        due(k.key(0), 15);
        due(k.width(8), 4);
        due(k.key(0), 255);
        of(26, "NONE.");
        for (int i : new int[] {-1, 1, 70, MIN, MAX}) {
            refused(Sentences::lived, f -> f.key(i), NONE);
            refused(Sentences::fresh, f -> f.key(i), NONE);
        }
    }

    private static void prime() {
        of(27, "All columns of KEYS.");
        due(new Finder().prime(), 15);
        due(telling(1).prime(), 1);
        due(telling(8).prime(), 255);
        due(telling(3, 0, 7).prime(), 0);
        due(telling(3, 1, 6).prime(), 1);
        due(telling(3, 1, 6, 6, 1).prime(), 7);
        due(telling(4, 1, 2).prime(), 13);
        due(telling(4, 1, 2, 2, 1).prime(), 15);
        Finder k = telling(4, 1, 14);
        due(k.prime(), 1);
        due(k.unlaw(0), 1);
        due(k.prime(), 15);
        due(k.width(2), 4);
        due(k.prime(), 3);
    }

    private static void cover() {
        of(28, "How many laws THE COVER has.");
        Finder k = new Finder();
        due(k.cover(), 0);
        due(k.law(TELLS, 1, 1), 0);
        due(k.cover(), 0);
        due(k.law(TELLS, 1, 14), 1);
        due(k.cover(), 3);
        due(k.law(TELLS, 2, 4), 2);
        due(k.cover(), 3);
        due(k.law(SEVERAL, 8, 1), 3);
        due(k.cover(), 3);
        due(k.width(2), 4);
        due(k.cover(), 1);
        due(k.unlaw(1), 1);
        due(k.cover(), 0);
        // 35 laws that are all wanted, each three of the first seven columns to the last; five longer ones are not.
        k = new Finder();
        due(k.width(8), 4);
        int law = 0;
        for (int x = 0; x < 128; x++) {
            if (Integer.bitCount(x) == 3) {
                due(k.law(TELLS, x, 128), law);
                law++;
            }
        }
        due(law, 35);
        due(k.cover(), 35);
        for (int i = 0; i < 5; i++) {
            due(k.law(TELLS, 15 << (i % 4), 128), law + i);
        }
        due(k.cover(), 35);
        due(k.covered(34, 1), 7);
    }

    private static void covered() {
        of(29, "Of law i of THE COVER: 0 X, 1 the column told.");
        Finder k = telling(8, 128, 65, 2, 4);
        due(k.covered(0, 0), 128);
        due(k.covered(0, 1), 0);
        due(k.covered(1, 0), 128);
        due(k.covered(1, 1), 6);
        due(k.covered(2, 0), 2);
        due(k.covered(2, 1), 2);
        // As the LAWS are now, with no cover() between.
        due(k.unlaw(0), 1);
        due(k.covered(0, 0), 2);
        due(k.covered(1, 0), UNKNOWN);
        due(k.law(KEY, 0, 0), 2);
        due(k.covered(0, 0), 0);
        due(k.width(2), 8);
        due(k.covered(1, 1), 1);
        due(k.covered(2, 1), UNKNOWN);
        of(29, "UNKNOWN;");
        // Of the two LAWS in force, 0 to 1 and the KEY 0, THE COVER is 0 to 1, to 2 and to 3.
        for (int i : new int[] {-1, 3, 320, MIN, MAX}) {
            refused(Sentences::lived, f -> f.covered(i, 0), UNKNOWN);
            refused(Sentences::lived, f -> f.covered(i, 2), UNKNOWN);
        }
        refused(Sentences::fresh, f -> f.covered(0, 0), UNKNOWN);
        of(29, "OUTSIDE.");
        for (int what : new int[] {-1, 2, MIN, MAX}) {
            refused(Sentences::lived, f -> f.covered(0, what), OUTSIDE);
            refused(Sentences::lived, f -> f.covered(2, what), OUTSIDE);
        }
    }
}
