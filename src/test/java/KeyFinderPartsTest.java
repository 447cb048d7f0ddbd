/** The sentences of promises 30 to 38: parts, how they are made and judged. */
public final class KeyFinderPartsTest extends Sentences {
    public static void main(String[] args) {
        third();
        thirdFull();
        strict();
        strictFull();
        part();
        partRefusals();
        unpart();
        parted();
        form();
        lossless();
        lack();
        keeps();
        end(30, 38);
    }

    /** So many pairs of columns 0 .. 5 that each tell column 7: no KEY is within any of them. */
    private static int[] pairsThatTell(int many) {
        int[] laws = new int[2 * many];
        int n = 0;
        for (int x = 0; x < 64 && n < many; x++) {
            if (Integer.bitCount(x) == 2) {
                laws[2 * n] = x;
                laws[2 * n + 1] = 128;
                n++;
            }
        }
        return laws;
    }

    private static void third() {
        of(30, "PARTS are THIRD: how many.");
        Finder k = new Finder();
        due(k.third(), 1);
        partsAre(k, 15);
        // What was there goes.
        k = telling(4, 1, 2, 4, 8);
        part(k, 1, 2, 4, 8, 3);
        due(k.third(), 3);
        partsAre(k, 3, 12, 5);
        due(k.third(), 3);
        partsAre(k, 3, 12, 5);
        // It goes by the LAWS as they are now.
        due(k.unlaw(0), 1);
        partsAre(k, 3, 12, 5);
        due(k.third(), 2);
        partsAre(k, 12, 7);
        due(k.width(1), 4);
        due(k.third(), 1);
        partsAre(k, 1);
        // Of a group, and of groups, that were there before, nothing is left.
        k = telling(4, 1, 2, 1, 4);
        due(k.third(), 2);
        partsAre(k, 7, 9);
        due(k.unlaw(1), 1);
        due(k.third(), 2);
        partsAre(k, 3, 13);
        k = telling(3, 4, 1, 3, 4);
        due(k.third(), 1);
        due(k.unlaw(1), 1);
        due(k.third(), 2);
        partsAre(k, 5, 6);
        // Eleven, and the KEY: twelve is not too many.
        k = telling(8, pairsThatTell(11));
        due(k.third(), 12);
        due(k.told(3), 12);
        due(k.parted(0), 131);
        due(k.parted(11), 127);
        due(k.parted(12), UNKNOWN);
        due(k.part(1), FULL);
        // Twelve that have a KEY within one of them.
        k = telling(8, 96, 2, 80, 4, 33, 128, 6, 8, 3, 32, 5, 16, 136, 64, 36, 64, 192, 1, 48, 1, 66, 128, 24, 128);
        due(k.third(), 12);
        partsAre(k, 98, 84, 161, 14, 35, 21, 200, 100, 193, 49, 194, 152);
        due(k.lossless(), 1);
        due(k.lack(), 0);
    }

    private static void thirdFull() {
        of(30, "FULL: more than 12 (PARTS stay).");
        // Twelve, and the KEY.
        refused(k -> {
            tell(k, 8, pairsThatTell(12));
            part(k, 5, 9);
        }, Finder::third, FULL);
        refused(k -> tell(k, 8, pairsThatTell(15)), Finder::third, FULL);
        // Thirteen that have a KEY within one of them.
        refused(k -> {
            tell(k, 8, 12, 16, 80, 32, 34, 128, 144, 1, 18, 64, 66, 4, 24, 2, 9, 128, 96, 128, 40, 64, 20, 128, 17, 2, 48, 1);
            part(k, 1, 2, 3, 4, 5, 6, 7, 8, 9, 10, 11, 12);
        }, Finder::third, FULL);
        Finder k = telling(8, pairsThatTell(12));
        due(k.third(), FULL);
        due(k.unlaw(0), 1);
        due(k.third(), 12);
    }

    private static void strict() {
        of(31, "PARTS are STRICT: how many.");
        Finder k = new Finder();
        due(k.strict(), 1);
        partsAre(k, 15);
        k = telling(4, 1, 2, 4, 8);
        part(k, 1, 2, 4, 8, 7);
        due(k.strict(), 3);
        partsAre(k, 3, 12, 5);
        due(k.unlaw(1), 1);
        partsAre(k, 3, 12, 5);
        due(k.strict(), 2);
        partsAre(k, 3, 13);
        due(k.width(2), 4);
        due(k.strict(), 1);
        partsAre(k, 3);
        // Of what third() made before, and of a larger WIDTH, nothing is left.
        k = telling(8, 64, 128, 4, 3);
        due(k.third(), 3);
        partsAre(k, 192, 7, 124);
        due(k.width(2), 8);
        due(k.strict(), 1);
        partsAre(k, 3);
        // Twelve are not too many.
        k = telling(8, 128, 64, 63, 64, 79, 32, 80, 32, 100, 1, 104, 2);
        due(k.strict(), 12);
        partsAre(k, 101, 106, 108, 85, 90, 92, 165, 170, 172, 149, 154, 156);
        due(k.lossless(), 1);
        for (int i = 0; i < 12; i++) {
            due(k.form(k.parted(i)), 3);
        }
    }

    private static void strictFull() {
        of(31, "FULL: more than 12 (PARTS stay).");
        // Thirteen.
        refused(k -> {
            tell(k, 8, 32, 128, 30, 128, 145, 32, 64, 32, 161, 2, 136, 4, 134, 8, 176, 8);
            part(k, 5, 9);
        }, Finder::strict, FULL);
        // Fourteen.
        refused(k -> {
            tell(k, 8, 143, 16, 148, 1, 152, 2, 211, 8, 63, 128, 64, 128, 160, 16);
            part(k, 1, 2, 3, 4, 5, 6, 7, 8, 9, 10, 11, 12);
        }, Finder::strict, FULL);
        Finder k = telling(8, 32, 128, 30, 128, 145, 32, 64, 32, 161, 2, 136, 4, 134, 8, 176, 8);
        due(k.strict(), FULL);
        partsAre(k);
    }

    private static void part() {
        of(32, "A PART more: how many.");
        Finder k = new Finder();
        int[] sets = {1, 15, 8, 8, 3};
        for (int i = 0; i < sets.length; i++) {
            due(k.part(sets[i]), i + 1);
            due(k.told(3), i + 1);
        }
        partsAre(k, sets);
        // Behind those that third() made.
        due(k.third(), 1);
        due(k.part(2), 2);
        partsAre(k, 15, 2);
        due(k.width(8), 4);
        due(k.part(255), 1);
        due(k.part(128), 2);
        partsAre(k, 255, 128);
        due(k.width(1), 8);
        due(k.part(1), 1);
        partsAre(k, 1);
    }

    private static void partRefusals() {
        of(32, "OUTSIDE: it is empty, or has a column not in ALL;");
        for (int set : new int[] {0, 16, 17, 31, 128, 256, -1, MIN, MAX}) {
            refused(Sentences::lived, k -> k.part(set), OUTSIDE);
            refused(Sentences::fresh, k -> k.part(set), OUTSIDE);
        }
        Finder k = new Finder();
        due(k.width(8), 4);
        due(k.part(256), OUTSIDE);
        due(k.part(0), OUTSIDE);
        due(k.part(255), 1);
        of(32, "FULL.");
        refused(f -> part(f, 1, 2, 3, 4, 5, 6, 7, 8, 9, 10, 11, 12), f -> f.part(13), FULL);
        refused(f -> part(f, 1, 1, 1, 1, 1, 1, 1, 1, 1, 1, 1, 1), f -> f.part(1), FULL);
        k = new Finder();
        part(k, 1, 2, 3, 4, 5, 6, 7, 8, 9, 10, 11, 12);
        due(k.part(1), FULL);
        due(k.unpart(), 12);
        due(k.part(13), 1);
        partsAre(k, 13);
    }

    private static void unpart() {
        of(33, "PARTS go: how many there were.");
        Finder k = new Finder();
        due(k.unpart(), 0);
        for (int n = 1; n <= 12; n++) {
            for (int i = 1; i <= n; i++) {
                due(k.part(i), i);
            }
            due(k.unpart(), n);
            due(k.told(3), 0);
            due(k.parted(0), UNKNOWN);
            due(k.unpart(), 0);
        }
        due(k.third(), 1);
        due(k.unpart(), 1);
        partsAre(k);
        due(k.lossless(), 0);
    }

    private static void parted() {
        of(34, "PART i.");
        Finder k = new Finder();
        part(k, 12, 11, 10, 9, 8, 7, 6, 5, 4, 3, 2, 1);
        for (int i = 0; i < 12; i++) {
            due(k.parted(i), 12 - i);
        }
        due(k.parted(12), UNKNOWN);
        of(34, "UNKNOWN.");
        for (int i : new int[] {-1, 2, 12, MIN, MAX}) {
            refused(Sentences::lived, f -> f.parted(i), UNKNOWN);
        }
        refused(Sentences::fresh, f -> f.parted(0), UNKNOWN);
    }

    private static void form() {
        of(35, "FORMS of a set: 1 third, 2 strict, both 3, none 0.");
        Finder k = telling(4, 3, 4, 4, 1);
        due(k.form(1), 3);
        due(k.form(3), 3);
        due(k.form(7), 1);
        due(k.form(15), 1);
        due(k.law(TELLS, 1, 8), 2);
        due(k.form(15), 0);
        due(k.form(7), 1);
        due(k.unlaw(1), 1);
        due(k.form(7), 3);
        due(k.width(8), 4);
        due(k.form(255), 0);
        due(k.unlaw(0), 1);
        due(k.unlaw(2), 1);
        due(k.form(255), 3);
        of(35, "OUTSIDE: it is empty, or has a column not in ALL.");
        for (int set : new int[] {0, 16, 17, 31, 128, 256, -1, MIN, MAX}) {
            refused(Sentences::lived, f -> f.form(set), OUTSIDE);
        }
        due(k.form(256), OUTSIDE);
        due(k.width(1), 8);
        due(k.form(1), 3);
        due(k.form(2), OUTSIDE);
        due(k.form(3), OUTSIDE);
    }

    private static void lossless() {
        of(36, "Whether PARTS are LOSSLESS: 1, 0 (0: there are none).");
        Finder k = new Finder();
        due(k.lossless(), 0);
        due(k.law(TELLS, 0, 15), 0);
        due(k.lossless(), 0);
        due(k.part(1), 1);
        due(k.lossless(), 0);
        due(k.part(14), 2);
        due(k.lossless(), 1);
        due(k.unlaw(0), 1);
        due(k.lossless(), 0);
        due(k.unpart(), 2);
        due(k.lossless(), 0);
        due(k.part(15), 1);
        due(k.lossless(), 1);
        due(k.width(3), 4);
        due(k.lossless(), 0);
        // Twelve PARTS of eight columns; only the last makes it so.
        k = telling(8, 1, 254);
        part(k, 2, 4, 8, 16, 32, 64, 128, 6, 12, 24, 48);
        due(k.lossless(), 0);
        due(k.part(255), 12);
        due(k.lossless(), 1);
        k = telling(8, 1, 254);
        part(k, 3, 5, 9, 17, 33, 65, 2, 4, 8, 16, 32);
        due(k.lossless(), 0);
        due(k.part(129), 12);
        due(k.lossless(), 1);
    }

    private static void lack() {
        of(37, "How many LAWS in force are not KEPT by PARTS.");
        Finder k = new Finder();
        due(k.lack(), 0);
        for (int n = 0; n < 40; n++) {
            due(k.law(TELLS, 1, 2), n);
        }
        due(k.lack(), 40);
        due(k.unlaw(5), 1);
        due(k.lack(), 39);
        due(k.part(3), 1);
        due(k.lack(), 0);
        due(k.unpart(), 1);
        due(k.lack(), 39);
        k = telling(4, 1, 2, 4, 8);
        due(k.law(SEVERAL, 1, 4), 2);
        due(k.law(KEY, 1, 0), 3);
        due(k.law(NEVER, 1, 0), 4);
        due(k.lack(), 3);
        due(k.part(3), 1);
        due(k.lack(), 2);
        due(k.part(12), 2);
        due(k.lack(), 1);
        due(k.part(5), 3);
        due(k.lack(), 0);
        due(k.width(1), 4);
        due(k.lack(), 0);
    }

    private static void keeps() {
        of(38, "Whether PARTS KEEP a LAW: 1, 0.");
        Finder k = new Finder();
        for (int n = 0; n < 39; n++) {
            due(k.law(n % 2 == 0 ? TELLS : SEVERAL, 1, 2), n);
        }
        due(k.law(TELLS, 2, 8), 39);
        due(k.keeps(0), 0);
        due(k.keeps(39), 0);
        due(k.part(10), 1);
        due(k.keeps(0), 0);
        due(k.keeps(39), 1);
        due(k.part(7), 2);
        due(k.keeps(0), 1);
        due(k.keeps(38), 1);
        due(k.unpart(), 2);
        due(k.keeps(39), 0);
        of(38, "UNKNOWN;");
        for (int law : new int[] {-1, 8, 40, MIN, MAX}) {
            refused(Sentences::lived, f -> f.keeps(law), UNKNOWN);
        }
        refused(Sentences::fresh, f -> f.keeps(0), UNKNOWN);
        of(38, "STATE: it is not in force.");
        for (int law = 2; law < 8; law++) {
            int none = law;
            refused(Sentences::lived, f -> f.keeps(none), STATE);
        }
        for (int law = 0; law < 2; law++) {
            int dropped = law;
            refused(f -> {
                lived(f);
                due(f.unlaw(dropped), 1);
            }, f -> f.keeps(dropped), STATE);
        }
    }
}
