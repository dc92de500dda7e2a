/**
 * The promises one by one: ordinary inputs, the edges that the document names, and wrong inputs.
 *
 * Terms are written here with every part before its own parts, as part() counts them:
 * v3 variable, g3 global, s3 sort, r3.1 rec of family 3 into sort 1, @ application,
 * fun3 and all3 binders with name 3, fun_ and all_ binders without a name.
 */
public final class FamilyRulesPromises {
    private static final int NONE = FamilyRules.NONE;
    private static final int[] FAR = {
        Integer.MIN_VALUE, Integer.MIN_VALUE + 1, -1000, -3, -2, -1, 1500, 1501, 30000, Integer.MAX_VALUE - 1, Integer.MAX_VALUE
    };

    private static int wrong = 0;
    private static int promise = 0;

    private static void due(String call, long got, long want) {
        if (got != want) {
            wrong++;
            System.out.println("promise " + promise + ": " + call + " answered " + got + ", due is " + want);
        }
    }

    private static void dueTerm(String call, FamilyRules x, int t, String want) {
        String got = t < 0 ? "no term (" + t + ")" : show(x, t);
        if (!got.equals(want)) {
            wrong++;
            System.out.println("promise " + promise + ": " + call + "\n  made   " + got + "\n  due is " + want);
        }
    }

    // ---- terms as texts

    private static int tell(FamilyRules x, String text) {
        String[] words = text.trim().split("\\s+");
        int[] at = {0};
        int t = tellFrom(x, words, at);
        if (at[0] != words.length) {
            throw new IllegalArgumentException("words are left over in: " + text);
        }
        return t;
    }

    private static int tellFrom(FamilyRules x, String[] words, int[] at) {
        String word = words[at[0]++];
        if (word.equals("@")) {
            int a = tellFrom(x, words, at);
            int b = tellFrom(x, words, at);
            return x.apply(a, b);
        }
        if (word.startsWith("fun") || word.startsWith("all")) {
            String name = word.substring(3);
            int a = tellFrom(x, words, at);
            int b = tellFrom(x, words, at);
            return x.binder(word.startsWith("fun") ? 5 : 6, name.equals("_") ? NONE : Integer.parseInt(name), a, b);
        }
        if (word.startsWith("r")) {
            int dot = word.indexOf('.');
            return x.leaf(3, Integer.parseInt(word.substring(1, dot)), Integer.parseInt(word.substring(dot + 1)));
        }
        return x.leaf("vgs".indexOf(word.charAt(0)), Integer.parseInt(word.substring(1)), 0);
    }

    private static String show(FamilyRules x, int t) {
        StringBuilder text = new StringBuilder();
        int nodes = x.part(t, 0, 3);
        for (int i = 0; i < nodes; i++) {
            int kind = x.part(t, i, 0);
            int number = x.part(t, i, 1);
            text.append(i == 0 ? "" : " ");
            switch (kind) {
                case 0: text.append('v').append(number); break;
                case 1: text.append('g').append(number); break;
                case 2: text.append('s').append(number); break;
                case 3: text.append('r').append(number).append('.').append(x.part(t, i, 2)); break;
                case 4: text.append(number == 0 ? "@" : "@" + number); break;
                case 5: text.append("fun").append(number == NONE ? "_" : "" + number); break;
                case 6: text.append("all").append(number == NONE ? "_" : "" + number); break;
                default: text.append('?').append(kind);
            }
        }
        return text.toString();
    }

    // ---- families that several promises use

    /** Global 0, with 1 (zero) and 2 (successor). */
    private static FamilyRules nat() {
        FamilyRules x = new FamilyRules();
        due("nat", x.family(tell(x, "s1"), 0, 2), 0);
        due("zero", x.constructor(1, tell(x, "g0")), 0);
        due("successor", x.constructor(2, tell(x, "all0 g0 g0")), 1);
        return x;
    }

    /** Nat, and global 3 with a parameter and an index, with 4 (nil) and 5 (cons). */
    private static FamilyRules vec() {
        FamilyRules x = nat();
        due("vec", x.family(tell(x, "all10 s1 all11 g0 s1"), 1, 2), 3);
        due("nil", x.constructor(4, tell(x, "all10 s1 @ @ g3 v0 g1")), 0);
        due("cons", x.constructor(5, tell(x,
                "all10 s1 all12 g0 all13 v1 all14 @ @ g3 v2 v1 @ @ g3 v3 @ g2 v2")), 1);
        return x;
    }

    /** Global 0 with two parameters, a sort and a family over it, and 1 (sup), whose second argument has one y. */
    private static FamilyRules wellOrder() {
        FamilyRules x = new FamilyRules();
        due("w", x.family(tell(x, "all20 s0 all21 all_ v0 s0 s0"), 2, 1), 0);
        due("sup", x.constructor(1, tell(x,
                "all20 s0 all21 all_ v0 s0 all22 v1 all23 all24 @ v1 v0 @ @ g0 v3 v2 @ @ g0 v3 v2")), 1);
        return x;
    }

    /** Global 0, accessibility: two parameters, an index, and 1 (intro), whose argument has two ys. */
    private static FamilyRules acc() {
        FamilyRules x = new FamilyRules();
        due("acc", x.family(tell(x, "all30 s0 all31 all_ v0 all_ v1 s0 all32 v1 s0"), 2, 1), 0);
        due("intro", x.constructor(1, tell(x,
                "all30 s0 all31 all_ v0 all_ v1 s0 all32 v1 "
                + "all33 all34 v2 all35 @ @ v2 v0 v1 @ @ @ g0 v4 v3 v1 @ @ @ g0 v3 v2 v1")), 1);
        return x;
    }

    // ---- the promises

    private static void newObject() {
        FamilyRules x = new FamilyRules();
        due("terms()", x.terms(), 0);
        due("part(0, 0, 0)", x.part(0, 0, 0), NONE);
        due("about(0, 0)", x.about(0, 0), NONE);
        due("leaf(1, 0, 0)", x.leaf(1, 0, 0), NONE);
        due("apply(0, 0)", x.apply(0, 0), NONE);
        due("axiom()", x.axiom(), 0);
        due("leaf(2, 0, 0)", x.leaf(2, 0, 0), 0);
        due("a second object's terms()", new FamilyRules().terms(), 0);
        due("NONE", FamilyRules.NONE, -1);
    }

    private static void leaf() {
        FamilyRules x = nat();
        int n = x.terms();
        due("axiom()", x.axiom(), 3);
        due("leaf(0, 0, 0)", x.leaf(0, 0, 0), n);
        due("leaf(0, 100, 0)", x.leaf(0, 100, 0), n + 1);
        due("leaf(0, 101, 0)", x.leaf(0, 101, 0), NONE);
        due("leaf(0, -1, 0)", x.leaf(0, -1, 0), NONE);
        due("leaf(0, 1, 1)", x.leaf(0, 1, 1), NONE);
        due("leaf(2, 0, 0)", x.leaf(2, 0, 0), n + 2);
        due("leaf(2, 100, 0)", x.leaf(2, 100, 0), n + 3);
        due("leaf(2, 101, 0)", x.leaf(2, 101, 0), NONE);
        due("leaf(2, -1, 0)", x.leaf(2, -1, 0), NONE);
        due("leaf(2, 0, -1)", x.leaf(2, 0, -1), NONE);
        due("leaf(1, 0, 0) of a family", x.leaf(1, 0, 0), n + 4);
        due("leaf(1, 2, 0) of a constructor", x.leaf(1, 2, 0), n + 5);
        due("leaf(1, 3, 0) of an axiom", x.leaf(1, 3, 0), n + 6);
        due("leaf(1, 4, 0)", x.leaf(1, 4, 0), NONE);
        due("leaf(1, -1, 0)", x.leaf(1, -1, 0), NONE);
        due("leaf(1, 0, 1)", x.leaf(1, 0, 1), NONE);
        due("leaf(3, 0, 0)", x.leaf(3, 0, 0), n + 7);
        due("leaf(3, 0, 100)", x.leaf(3, 0, 100), n + 8);
        due("leaf(3, 0, 101)", x.leaf(3, 0, 101), NONE);
        due("leaf(3, 0, -1)", x.leaf(3, 0, -1), NONE);
        due("leaf(3, 1, 0) of a constructor", x.leaf(3, 1, 0), NONE);
        due("leaf(3, 3, 0) of an axiom", x.leaf(3, 3, 0), NONE);
        due("leaf(3, 4, 0)", x.leaf(3, 4, 0), NONE);
        due("leaf(4, 0, 0)", x.leaf(4, 0, 0), NONE);
        due("leaf(5, 0, 0)", x.leaf(5, 0, 0), NONE);
        due("leaf(6, 0, 0)", x.leaf(6, 0, 0), NONE);
        due("leaf(-1, 0, 0)", x.leaf(-1, 0, 0), NONE);
        for (int far : FAR) {
            due("leaf(0, far, 0)", x.leaf(0, far, 0), NONE);
            due("leaf(1, far, 0)", x.leaf(1, far, 0), NONE);
            due("leaf(2, 1, far)", x.leaf(2, 1, far), NONE);
            due("leaf(3, far, 0)", x.leaf(3, far, 0), NONE);
            due("leaf(3, 0, far)", x.leaf(3, 0, far), NONE);
            due("leaf(far, 0, 0)", x.leaf(far, 0, 0), NONE);
        }
        due("terms()", x.terms(), n + 9);
        dueTerm("leaf(0, 100, 0)", x, n + 1, "v100");
        dueTerm("leaf(2, 100, 0)", x, n + 3, "s100");
        dueTerm("leaf(3, 0, 100)", x, n + 8, "r0.100");
    }

    private static void apply() {
        FamilyRules x = new FamilyRules();
        x.leaf(2, 3, 0);
        x.leaf(0, 7, 0);
        due("apply(0, 1)", x.apply(0, 1), 2);
        due("apply(2, 0)", x.apply(2, 0), 3);
        due("apply(0, 2)", x.apply(0, 2), 4);
        due("apply(3, 3)", x.apply(3, 3), 5);
        dueTerm("apply(0, 1)", x, 2, "@ s3 v7");
        dueTerm("apply(2, 0)", x, 3, "@ @ s3 v7 s3");
        dueTerm("apply(0, 2)", x, 4, "@ s3 @ s3 v7");
        dueTerm("apply(3, 3)", x, 5, "@ @ @ s3 v7 s3 @ @ s3 v7 s3");
        due("apply(6, 0)", x.apply(6, 0), NONE);
        due("apply(0, 6)", x.apply(0, 6), NONE);
        for (int far : FAR) {
            due("apply(far, 0)", x.apply(far, 0), NONE);
            due("apply(0, far)", x.apply(0, far), NONE);
        }
        due("terms()", x.terms(), 6);
    }

    private static void binder() {
        FamilyRules x = new FamilyRules();
        x.leaf(2, 3, 0);
        x.leaf(0, 0, 0);
        due("binder(5, 0, 0, 1)", x.binder(5, 0, 0, 1), 2);
        due("binder(6, 99, 0, 1)", x.binder(6, 99, 0, 1), 3);
        due("binder(6, NONE, 2, 3)", x.binder(6, NONE, 2, 3), 4);
        dueTerm("binder(5, 0, 0, 1)", x, 2, "fun0 s3 v0");
        dueTerm("binder(6, 99, 0, 1)", x, 3, "all99 s3 v0");
        dueTerm("binder(6, NONE, 2, 3)", x, 4, "all_ fun0 s3 v0 all99 s3 v0");
        due("binder(5, 100, 0, 1)", x.binder(5, 100, 0, 1), NONE);
        due("binder(5, -2, 0, 1)", x.binder(5, -2, 0, 1), NONE);
        due("binder(4, 0, 0, 1)", x.binder(4, 0, 0, 1), NONE);
        due("binder(7, 0, 0, 1)", x.binder(7, 0, 0, 1), NONE);
        due("binder(0, 0, 0, 1)", x.binder(0, 0, 0, 1), NONE);
        due("binder(5, 0, 5, 1)", x.binder(5, 0, 5, 1), NONE);
        due("binder(5, 0, 0, 5)", x.binder(5, 0, 0, 5), NONE);
        for (int far : FAR) {
            if (far != NONE) {
                due("binder(6, far, 0, 1)", x.binder(6, far, 0, 1), NONE);
            }
            due("binder(far, 0, 0, 1)", x.binder(far, 0, 0, 1), NONE);
            due("binder(6, 0, far, 1)", x.binder(6, 0, far, 1), NONE);
            due("binder(6, 0, 0, far)", x.binder(6, 0, 0, far), NONE);
        }
        due("terms()", x.terms(), 5);
    }

    /** A term has an odd number of nodes, so 999 is the most and 1001 the first that is too much. */
    private static void nodesOfOneTerm() {
        FamilyRules x = new FamilyRules();
        int t = x.leaf(2, 0, 0);
        for (int nodes = 3; nodes <= 511; nodes = 2 * nodes + 1) {
            t = x.apply(t, t);
        }
        due("nodes of the eighth", x.part(t, 0, 3), 511);
        int half = t;
        int nearly = x.apply(t - 1, t - 2);
        due("nodes of 255 and 127", x.part(nearly, 0, 3), 383);
        int n = x.terms();
        due("511 + 511 + 1", x.apply(half, half), NONE);
        due("binder of 511 + 511 + 1", x.binder(6, 0, half, half), NONE);
        int rest = nearly;
        for (int part = t - 3; part >= 0 && x.part(rest, 0, 3) + x.part(part, 0, 3) + 1 <= 487; part--) {
            rest = x.apply(rest, part);
        }
        while (x.part(rest, 0, 3) < 487) {
            rest = x.apply(rest, 0);
        }
        due("nodes of the rest", x.part(rest, 0, 3), 487);
        n = x.terms();
        due("511 + 487 + 1", x.apply(half, rest), n);
        due("its nodes", x.part(n, 0, 3), 999);
        due("its last part", x.part(n, 998, 0), 2);
        due("behind its last part", x.part(n, 999, 0), NONE);
        due("511 + 487 + 1 as a binder", x.binder(5, 4, half, rest), n + 1);
        due("511 + 489 + 1", x.apply(half, x.apply(rest, 0)), NONE);
        due("999 + 1 + 1", x.apply(n, 0), NONE);
        due("999 + 1 + 1 as a binder", x.binder(6, 0, 0, n), NONE);
    }

    /** Fills an object up to 30000 nodes in all and asks for one more of every maker. */
    private static void nodesInAll() {
        FamilyRules x = nat();
        int used = 0;
        for (int i = 0; i < x.terms(); i++) {
            used += x.part(i, 0, 3);
        }
        int t = x.leaf(2, 0, 0);
        used += 1;
        int zero = t;
        for (int nodes = 3; nodes <= 511; nodes = 2 * nodes + 1) {
            t = x.apply(t, t);
            used += nodes;
        }
        int most = t - 1;
        int larger = x.apply(t, most);
        used += 767;
        while (used + 767 <= 30000) {
            due("one of 767 more", x.apply(t, most) >= 0 ? 1 : 0, 1);
            used += 767;
        }
        due("one of 767 too much", x.apply(t, most), NONE);
        due("a binder of 767 too much", x.binder(6, 0, t, most), NONE);
        due("its nodes", x.part(larger, 0, 3), 767);
        int small = t;
        for (int nodes = 511; nodes >= 3; nodes = (nodes - 1) / 2) {
            while (used + nodes <= 30000 && 30000 - used - nodes != 2) {
                due("one of " + nodes + " more", x.apply(small - 1, small - 1) >= 0 ? 1 : 0, 1);
                used += nodes;
            }
            small--;
        }
        while (used < 29997) {
            x.leaf(2, 0, 0);
            used++;
        }
        int n = x.terms();
        due("type with 3 nodes left", x.type(0, 0), NONE);
        due("size with 3 nodes left", x.size(0), 25);
        due("brings that takes the last 3", x.brings(2, 0), n);
        due("brings with none left", x.brings(2, 0), NONE);
        due("leaf with none left", x.leaf(2, 0, 0), NONE);
        due("leaf of rec with none left", x.leaf(3, 0, 0), NONE);
        due("apply with none left", x.apply(zero, zero), NONE);
        due("binder with none left", x.binder(5, 0, zero, zero), NONE);
        due("terms()", x.terms(), n + 1);
        due("axiom()", x.axiom(), 3);
        due("positive()", x.positive(0, 1, 0), 2);
    }

    /** As above, but the last node goes to a leaf, and two nodes are too few for brings. */
    private static void lastNodes() {
        FamilyRules x = nat();
        int used = 7;
        int t = x.leaf(2, 0, 0);
        used += 1;
        for (int nodes = 3; nodes <= 511; nodes = 2 * nodes + 1) {
            t = x.apply(t, t);
            used += nodes;
        }
        while (used + 511 <= 29998) {
            x.apply(t - 1, t - 1);
            used += 511;
        }
        int step = t - 1;
        for (int nodes = 255; nodes >= 3; nodes = (nodes - 1) / 2) {
            step--;
            while (used + nodes <= 29998) {
                x.apply(step, step);
                used += nodes;
            }
        }
        while (used < 29998) {
            x.leaf(2, 0, 0);
            used++;
        }
        int n = x.terms();
        due("brings with 2 nodes left", x.brings(2, 0), NONE);
        due("apply with 2 nodes left", x.apply(0, 0), NONE);
        due("binder with 2 nodes left", x.binder(6, 0, 0, 0), NONE);
        due("leaf with 2 nodes left", x.leaf(2, 0, 0), n);
        due("leaf with 1 node left", x.leaf(1, 0, 0), n + 1);
        due("leaf with none left", x.leaf(1, 0, 0), NONE);
        due("terms()", x.terms(), n + 2);
    }

    private static void axiom() {
        FamilyRules x = new FamilyRules();
        for (int g = 0; g < 100; g++) {
            due("axiom()", x.axiom(), g);
        }
        due("axiom() behind 100", x.axiom(), NONE);
        due("about(99, 0)", x.about(99, 0), 0);
        due("about(100, 0)", x.about(100, 0), NONE);
        due("leaf(1, 99, 0)", x.leaf(1, 99, 0), 0);
        due("leaf(3, 99, 0)", x.leaf(3, 99, 0), NONE);
        due("leaf(1, 100, 0)", x.leaf(1, 100, 0), NONE);
        due("size(0)", x.size(0), NONE);
        due("type(0, 0)", x.type(0, 0), NONE);
        due("constructor(0, 0)", x.constructor(0, 0), NONE);
        due("brings(0, 0)", x.brings(0, 0), NONE);
        due("positive(0, 0, 0)", x.positive(0, 0, 0), NONE);
        due("family behind 100", x.family(x.leaf(2, 0, 0), 0, 0), NONE);
    }

    private static void family() {
        FamilyRules x = new FamilyRules();
        int sort = tell(x, "s100");
        int two = tell(x, "all1 s0 all_ v0 s0");
        int n = x.terms();
        due("family(sort, 0, 0)", x.family(sort, 0, 0), 0);
        due("family(sort, 1, 0)", x.family(sort, 1, 0), NONE);
        due("family(two, 0, 12)", x.family(two, 0, 12), 1);
        due("family(two, 2, 1)", x.family(two, 2, 1), 14);
        due("family(two, 1, 0)", x.family(two, 1, 0), 16);
        due("family(two, 3, 0)", x.family(two, 3, 0), NONE);
        due("family(two, -1, 0)", x.family(two, -1, 0), NONE);
        due("family(two, 0, 13)", x.family(two, 0, 13), NONE);
        due("family(two, 0, -1)", x.family(two, 0, -1), NONE);
        due("family(n, 0, 0)", x.family(n, 0, 0), NONE);
        due("terms()", x.terms(), n);
        String[] none = {
            "v0", "g0", "r0.1", "@ s0 s0", "fun_ s0 s0", "all_ s0 v0", "all_ s0 g0", "all_ s0 fun_ s0 s0",
            "all_ s0 @ v0 s0", "all_ v0 s0", "all_ s0 all_ v1 s0", "all_ s0 all_ fun_ v1 s0 s0",
            "all_ s0 all_ fun_ v0 v2 s0", "all_ @ s0 v100 s0", "all_ s0 all_ s0 r0.0"
        };
        for (String text : none) {
            due("family of " + text, x.family(tell(x, text), 0, 0), NONE);
        }
        for (int far : FAR) {
            due("family(far, 0, 0)", x.family(far, 0, 0), NONE);
            due("family(two, far, 0)", x.family(two, far, 0), NONE);
            due("family(two, 0, far)", x.family(two, 0, far), NONE);
        }
        due("axiom()", x.axiom(), 17);
        due("a family with others in its type",
                x.family(tell(x, "all3 @ fun_ v0 v0 g1 all3 r0.7 all4 all_ v0 v2 s3"), 1, 3), NONE);
        due("a family with others in its type",
                x.family(tell(x, "all3 @ fun_ s0 v0 g1 all3 r0.7 all4 all_ v0 v2 s3"), 1, 3), 18);
        due("its indices", x.about(18, 2), 2);
    }

    private static void globalsInAll() {
        FamilyRules x = new FamilyRules();
        int sort = tell(x, "s0");
        for (int i = 0; i < 7; i++) {
            due("family(sort, 0, 12)", x.family(sort, 0, 12), 13 * i);
        }
        due("family of 10 more", x.family(sort, 0, 9), NONE);
        due("family of 9 more", x.family(sort, 0, 8), 91);
        due("about(99, 3)", x.about(99, 3), 7);
        due("family of 1 more", x.family(sort, 0, 0), NONE);
        due("axiom()", x.axiom(), NONE);
        FamilyRules y = new FamilyRules();
        sort = tell(y, "s0");
        for (int g = 0; g < 99; g++) {
            y.axiom();
        }
        due("family with a constructor at 99", y.family(sort, 0, 1), NONE);
        due("family at 99", y.family(sort, 0, 0), 99);
        due("about(99, 0)", y.about(99, 0), 3);
        due("axiom()", y.axiom(), NONE);
    }

    private static void constructor() {
        FamilyRules x = new FamilyRules();
        int nat = x.family(tell(x, "s1"), 0, 2);
        int g0 = tell(x, "g0");
        due("of a family", x.constructor(0, g0), NONE);
        due("of no global", x.constructor(3, g0), NONE);
        due("of no term", x.constructor(1, 99), NONE);
        due("told", x.constructor(1, g0), 0);
        due("told again", x.constructor(1, g0), NONE);
        String[] none = {
            "s1", "v0", "r0.0", "g1", "@ g0 g0", "all_ g0 s1", "all_ g0 v0", "all_ g0 fun_ g0 g0", "fun_ g0 g0",
            "all_ v0 g0", "all_ g0 all_ v1 g0", "@ fun_ g0 g0 g0", "all_ all_ g0 g0 g1"
        };
        for (String text : none) {
            due("constructor of " + text, x.constructor(2, tell(x, text)), NONE);
        }
        due("negative first", x.constructor(2, tell(x, "all_ all_ g0 g0 g0")), -2);
        due("negative second", x.constructor(2, tell(x, "all_ g0 all_ all_ g0 g0 all_ s1 g0")), -3);
        due("of two the first", x.constructor(2, tell(x, "all_ g0 all_ all_ g0 g0 all_ @ g0 g0 g0")), -3);
        due("rec of the family", x.constructor(2, tell(x, "all_ s0 all_ g0 all_ r0.1 g0")), -4);
        due("put to one too many", x.constructor(2, tell(x, "all_ @ g0 s1 g0")), -2);
        due("a fun with it", x.constructor(2, tell(x, "all_ fun_ g0 s1 g0")), -2);
        due("an open one with a negative one", x.constructor(2, tell(x, "all_ all_ g0 g0 all_ v5 g0")), NONE);
        due("no result with a negative one", x.constructor(2, tell(x, "all_ all_ g0 g0 s1")), NONE);
        due("about(2, 2), not told", x.about(2, 2), NONE);
        due("its constructors may be there", x.constructor(2, tell(x, "all_ @ g1 g2 all_ g0 all_ all_ s1 all_ s2 g0 g0")), 2);
        due("about(2, 2)", x.about(2, 2), 3);
        due("told again", x.constructor(2, g0), NONE);
        due("nat", nat, 0);
        for (int far : FAR) {
            due("constructor(far, 0)", x.constructor(far, g0), NONE);
            due("constructor(1, far)", x.constructor(1, far), NONE);
        }
    }

    private static void constructorWithParameters() {
        FamilyRules x = new FamilyRules();
        due("family", x.family(tell(x, "all1 s0 all2 s0 all3 s0 s0"), 2, 10), 0);
        int open = x.family(tell(x, "all1 s0 s0"), 0, 6);
        due("a second family", open, 11);
        due("too few alls", x.constructor(1, tell(x, "all_ s0 @ @ @ g0 v0 v0 s0")), NONE);
        due("parameters turned", x.constructor(1, tell(x, "all_ s0 all_ s0 @ @ @ g0 v0 v1 s0")), NONE);
        due("too few terms", x.constructor(1, tell(x, "all_ s0 all_ s0 @ @ g0 v1 v0")), NONE);
        due("too many terms", x.constructor(1, tell(x, "all_ s0 all_ s0 @ @ @ @ g0 v1 v0 s0 s0")), NONE);
        due("another family", x.constructor(1, tell(x, "all_ s0 all_ s0 @ @ @ g11 v1 v0 s0")), NONE);
        due("a parameter that is none", x.constructor(1, tell(x, "all_ s0 all_ s0 @ @ @ g0 v1 g0 s0")), NONE);
        due("an argument for a parameter", x.constructor(1, tell(x, "all_ s0 all_ s0 all_ s0 @ @ @ g0 v1 v0 s0")), NONE);
        due("the family in parameters and result", x.constructor(1, tell(x, "all_ g0 all_ r0.0 @ @ @ g0 v1 v0 g0")), 0);
        due("rec in the result", x.constructor(2, tell(x, "all_ v0 all_ s0 @ @ @ g0 v1 v0 s0")), NONE);
        due("rec in the result", x.constructor(2, tell(x, "all_ s0 all_ all_ g0 s0 @ @ @ g0 v1 v0 r0.4")), 0);
        due("recursive", x.constructor(3, tell(x, "all_ s0 all_ s0 all5 @ @ @ g0 v1 v0 s7 @ @ @ g0 v2 v1 v0")), 1);
        due("recursive with ys", x.constructor(4, tell(x,
                "all_ s0 all_ s0 all5 s0 all6 all7 v0 all8 v1 @ @ @ g0 v4 v3 v0 @ @ @ g0 v3 v2 v0")), 1);
        due("the family in a y", x.constructor(5, tell(x,
                "all_ s0 all_ s0 all5 s0 all6 all7 v0 all8 @ @ @ g0 v3 v2 v1 @ @ @ g0 v4 v3 v0 @ @ @ g0 v3 v2 v0")), -3);
        due("the family in a j", x.constructor(5, tell(x,
                "all_ s0 all_ s0 all5 @ @ @ g0 v1 v0 @ @ @ g0 v1 v0 s0 @ @ @ g0 v2 v1 v0")), -2);
        due("a rec in a j", x.constructor(5, tell(x,
                "all_ s0 all_ s0 all5 @ @ @ g0 v1 v0 r0.3 @ @ @ g0 v2 v1 v0")), -2);
        due("other parameters", x.constructor(5, tell(x,
                "all_ s0 all_ s0 all5 @ @ @ g0 v0 v1 s0 @ @ @ g0 v2 v1 v0")), -2);
        due("parameters not lifted", x.constructor(5, tell(x,
                "all_ s0 all_ s0 all5 all_ s0 @ @ @ g0 v1 v0 s0 @ @ @ g0 v2 v1 v0")), -2);
        due("too few terms", x.constructor(5, tell(x,
                "all_ s0 all_ s0 all5 @ @ g0 v1 v0 @ @ @ g0 v2 v1 v0")), -2);
        due("other families are nothing", x.constructor(5, tell(x,
                "all_ s0 all_ s0 all5 all_ g11 @ g11 v0 all_ r11.0 @ @ @ g0 v3 v2 @ g11 v0")), 0);
        due("its own index", x.constructor(12, tell(x, "all_ @ g11 @ g11 s0 @ g11 s0")), -2);
        due("an index alone", x.constructor(12, tell(x, "all4 @ g11 s0 @ g11 v0")), 1);
    }

    private static void about() {
        FamilyRules x = vec();
        due("axiom()", x.axiom(), 6);
        due("another family", x.family(tell(x, "all1 s0 all2 s0 all3 s0 s0"), 2, 2), 7);
        int[][] due = {
            {0, 3, 0, 0, 2}, {1, 4, 0, 0, 0}, {2, 4, 0, 1, 1}, {3, 3, 1, 1, 2}, {4, 4, 1, 0, 0}, {5, 4, 1, 3, 1},
            {6, 0, 0, 0, 0}, {7, 3, 2, 1, 2}, {8, 4, 2, NONE, 0}, {9, 4, 2, NONE, 1}, {10, NONE, NONE, NONE, NONE}
        };
        for (int[] row : due) {
            for (int what = 0; what < 4; what++) {
                due("about(" + row[0] + ", " + what + ")", x.about(row[0], what), row[1 + what]);
            }
            due("about(" + row[0] + ", -1)", x.about(row[0], -1), NONE);
            due("about(" + row[0] + ", 4)", x.about(row[0], 4), NONE);
        }
        for (int far : FAR) {
            due("about(far, 0)", x.about(far, 0), NONE);
            due("about(6, far)", x.about(6, far), NONE);
            due("about(0, far)", x.about(0, far), NONE);
        }
    }

    private static void positive() {
        FamilyRules x = vec();
        due("not there", x.positive(3, tell(x, "s0"), 0), 1);
        due("another family", x.positive(3, tell(x, "g0"), 0), 1);
        due("a constructor", x.positive(3, tell(x, "@ g4 g5"), 0), 1);
        int plain = tell(x, "@ @ g3 v0 g1");
        due("behind 0", x.positive(3, plain, 0), 2);
        due("behind 1", x.positive(3, plain, 1), 0);
        due("of another family", x.positive(0, plain, 0), 1);
        int third = tell(x, "@ @ g3 v2 v7");
        due("behind 2", x.positive(3, third, 2), 2);
        due("behind 1", x.positive(3, third, 1), 0);
        due("behind 3", x.positive(3, third, 3), 0);
        int far = tell(x, "@ @ g3 v100 v100");
        due("behind 100", x.positive(3, far, 100), 2);
        due("behind 99", x.positive(3, far, 99), 0);
        due("behind 101", x.positive(3, far, 101), NONE);
        due("behind -1", x.positive(3, far, -1), NONE);
        int ys = tell(x, "all1 s0 all2 v9 @ @ g3 v3 v0");
        due("under two behind 1", x.positive(3, ys, 1), 2);
        due("under two behind 0", x.positive(3, ys, 0), 0);
        due("in a y", x.positive(3, tell(x, "all1 @ @ g3 v0 g1 @ @ g3 v1 g1"), 0), 0);
        due("a rec in a y", x.positive(3, tell(x, "all1 r3.0 @ @ g3 v1 g1"), 0), 0);
        due("in a j", x.positive(3, tell(x, "@ @ g3 v0 g3"), 0), 0);
        due("a rec in a j", x.positive(3, tell(x, "@ @ g3 v0 r3.1"), 0), 0);
        due("another rec in a j", x.positive(3, tell(x, "@ @ g3 v0 r0.1"), 0), 2);
        due("a rec alone", x.positive(3, tell(x, "r3.1"), 0), 0);
        due("a rec put to terms", x.positive(3, tell(x, "@ @ r3.1 v0 g1"), 0), 0);
        due("another rec alone", x.positive(3, tell(x, "r0.1"), 0), 1);
        due("the family alone", x.positive(3, tell(x, "g3"), 0), 0);
        due("the family under funs", x.positive(3, tell(x, "fun1 s0 @ @ g3 v1 g1"), 0), 0);
        due("the family inside", x.positive(3, tell(x, "@ v0 @ @ g3 v0 g1"), 0), 0);
        due("put to one too many", x.positive(3, tell(x, "@ @ @ g3 v0 g1 g1"), 0), 0);
        due("a y alone", x.positive(3, tell(x, "all1 @ @ g3 v0 g1 s0"), 0), 0);
        due("nat", x.positive(0, tell(x, "all1 s0 g0"), 5), 2);
        due("of a constructor", x.positive(4, plain, 0), NONE);
        due("of no global", x.positive(6, plain, 0), NONE);
        due("no term", x.positive(3, x.terms(), 0), NONE);
        for (int wide : FAR) {
            due("positive(far, plain, 0)", x.positive(wide, plain, 0), NONE);
            due("positive(3, far, 0)", x.positive(3, wide, 0), NONE);
            due("positive(3, plain, far)", x.positive(3, plain, wide), NONE);
        }
        FamilyRules y = new FamilyRules();
        due("untold", y.family(tell(y, "all1 s0 all2 s0 all3 s0 s0"), 3, 2), 0);
        due("three behind 2", y.positive(0, tell(y, "@ @ @ g0 v4 v3 v2"), 2), 2);
        due("three turned", y.positive(0, tell(y, "@ @ @ g0 v2 v3 v4"), 2), 0);
    }

    private static void brings() {
        FamilyRules x = nat();
        int n = x.terms();
        due("brings(2, 0)", x.brings(2, 0), n);
        dueTerm("brings(2, 0)", x, n, "@ v1 v0");
        due("brings(2, 1)", x.brings(2, 1), NONE);
        due("brings(2, -1)", x.brings(2, -1), NONE);
        due("brings(1, 0)", x.brings(1, 0), NONE);
        due("brings(0, 0)", x.brings(0, 0), NONE);
        due("brings(3, 0)", x.brings(3, 0), NONE);
        for (int far : FAR) {
            due("brings(far, 0)", x.brings(far, 0), NONE);
            due("brings(2, far)", x.brings(2, far), NONE);
        }
        due("terms()", x.terms(), n + 1);
        x = vec();
        // Loose: Q 4, the parameter 3, n 2, a 1, the tail 0.
        dueTerm("brings of cons", x, x.brings(5, 0), "@ @ v4 v2 v0");
        x = wellOrder();
        // Loose: Q 4, A 3, B 2, a 1, f 0; under one fun all by one more.
        dueTerm("brings of sup", x, x.brings(1, 0), "fun24 @ v2 v1 @ v5 @ v1 v0");
        x = acc();
        // Loose: Q 4, A 3, R 2, x 1, h 0.
        dueTerm("brings of intro", x, x.brings(1, 0), "fun34 v3 fun35 @ @ v3 v0 v2 @ @ v6 v1 @ @ v2 v1 v0");
        x = new FamilyRules();
        x.family(tell(x, "all_ s0 s0"), 0, 2);
        due("three among five", x.constructor(2, tell(x,
                "all1 s0 all2 @ g0 v0 all3 v1 all4 all5 v1 @ g0 fun6 v0 @ v3 v0 all7 all_ s1 @ g0 v4 @ g0 v1")), 3);
        due("untold", x.brings(1, 0), NONE);
        dueTerm("the first", x, x.brings(2, 0), "@ @ v2 v1 v0");
        dueTerm("the second", x, x.brings(2, 1), "fun5 v2 @ @ v5 fun6 v0 @ v4 v0 @ v1 v0");
        dueTerm("the third", x, x.brings(2, 2), "fun_ s1 @ @ v6 v5 @ v1 v0");
        due("the fourth", x.brings(2, 3), NONE);
    }

    private static void size() {
        FamilyRules x = new FamilyRules();
        due("size(0) without a family", x.size(0), NONE);
        x.family(tell(x, "s1"), 0, 2);
        due("size(0) with none told", x.size(0), NONE);
        x.constructor(1, tell(x, "g0"));
        due("size(0) with one told", x.size(0), NONE);
        due("refused", x.constructor(2, tell(x, "all_ all_ g0 g0 g0")), -2);
        due("size(0) with one refused", x.size(0), NONE);
        x.constructor(2, tell(x, "all_ g0 g0"));
        int n = x.terms();
        due("size(0)", x.size(0), 25);
        due("size(0) again", x.size(0), 25);
        due("size(1) of a constructor", x.size(1), NONE);
        due("size(x.axiom())", x.size(x.axiom()), NONE);
        due("terms()", x.terms(), n);
        due("size of vec", vec().size(3), 65);
        for (int far : FAR) {
            due("size(far)", x.size(far), NONE);
        }
    }

    private static void sizeAndType() {
        FamilyRules x = nat();
        int n = x.terms();
        due("size(0)", x.size(0), 25);
        due("type(0, 1)", x.type(0, 1), n);
        dueTerm("type of nat", x, n, "all98 all_ g0 s1 all_ @ v0 g1 "
                + "all_ all0 g0 all_ @ v2 v0 @ v3 @ g2 v1 all99 g0 @ v3 v0");
        due("type(0, 100)", x.type(0, 100), n + 1);
        due("its sort", x.part(n + 1, 3, 1), 100);
        due("type(0, 101)", x.type(0, 101), NONE);
        due("type(0, -1)", x.type(0, -1), NONE);
        due("type(1, 0)", x.type(1, 0), NONE);
        due("size(1)", x.size(1), NONE);
        due("size(3)", x.size(3), NONE);
        for (int far : FAR) {
            due("size(far)", x.size(far), NONE);
            due("type(far, 0)", x.type(far, 0), NONE);
            due("type(0, far)", x.type(0, far), NONE);
        }
        due("terms()", x.terms(), n + 2);
        FamilyRules y = new FamilyRules();
        y.family(tell(y, "s0"), 0, 0);
        due("size of an empty family", y.size(0), 9);
        dueTerm("type of an empty family", y, y.type(0, 7), "all98 all_ g0 s7 all99 g0 @ v1 v0");
        y.family(tell(y, "s0"), 0, 2);
        y.constructor(3, tell(y, "g1"));
        due("size with one of two told", y.size(1), NONE);
        due("type with one of two told", y.type(1, 0), NONE);
        y.constructor(2, tell(y, "g1"));
        due("size with both told", y.size(1), 17);
        dueTerm("type of two", y, y.type(1, 0), "all98 all_ g1 s0 all_ @ v0 g2 all_ @ v1 g3 all99 g1 @ v3 v0");
    }

    private static void typesWithParametersAndIndices() {
        FamilyRules x = vec();
        String due = "all10 s1 all98 all11 g0 all_ @ @ g3 v1 v0 s2 "
                + "all_ @ @ v0 g1 @ g4 v1 "
                + "all_ all12 g0 all13 v3 all14 @ @ g3 v4 v1 all_ @ @ v4 v2 v0 "
                + "@ @ v5 @ g2 v3 @ @ @ @ g5 v6 v3 v2 v1 "
                + "all11 g0 all99 @ @ g3 v4 v0 @ @ v4 v1 v0";
        dueTerm("type of vec", x, x.type(3, 2), due);
        due("size of vec", x.size(3), due.split(" ").length);
        x = wellOrder();
        due = "all20 s0 all21 all_ v0 s0 all98 all_ @ @ g0 v1 v0 s1 "
                + "all_ all22 v2 all23 all24 @ v2 v0 @ @ g0 v4 v3 "
                + "all_ all24 @ v3 v1 @ v3 @ v1 v0 "
                + "@ v3 @ @ @ @ g1 v5 v4 v2 v1 "
                + "all99 @ @ g0 v3 v2 @ v2 v0";
        due("size of w", x.size(0), due.split(" ").length);
        dueTerm("type of w", x, x.type(0, 1), due);
        x = acc();
        due = "all30 s0 all31 all_ v0 all_ v1 s0 all98 all32 v1 all_ @ @ @ g0 v2 v1 v0 s3 "
                + "all_ all32 v2 all33 all34 v3 all35 @ @ v3 v0 v1 @ @ @ g0 v5 v4 v1 "
                + "all_ all34 v4 all35 @ @ v4 v0 v2 @ @ v4 v1 @ @ v2 v1 v0 "
                + "@ @ v3 v2 @ @ @ @ g1 v5 v4 v2 v1 "
                + "all32 v3 all99 @ @ @ g0 v4 v3 v0 @ @ v3 v1 v0";
        due("size of acc", x.size(0), due.split(" ").length);
        dueTerm("type of acc", x, x.type(0, 3), due);
    }

    /** Parameters in every place, and two recursive arguments behind another constructor. */
    private static void typeWithTwoRecursive() {
        FamilyRules x = new FamilyRules();
        due("family", x.family(tell(x, "all1 s0 all2 s0 s0"), 1, 2), 0);
        due("the first", x.constructor(1, tell(x, "all1 s0 @ @ g0 v0 v0")), 0);
        due("the second", x.constructor(2, tell(x,
                "all1 s0 all3 @ @ g0 v0 v0 all4 v1 all5 all6 v2 @ @ g0 v3 v1 @ @ g0 v3 v3")), 2);
        String due = "all1 s0 all98 all2 s0 all_ @ @ g0 v1 v0 s4 "
                + "all_ @ @ v0 v1 @ g1 v1 "
                + "all_ all3 @ @ g0 v2 v2 all4 v3 all5 all6 v4 @ @ g0 v5 v1 "
                + "all_ @ @ v4 v5 v2 all_ all6 v6 @ @ v6 v3 @ v2 v0 "
                + "@ @ v6 v7 @ @ @ @ g2 v7 v4 v3 v2 "
                + "all2 s0 all99 @ @ g0 v4 v0 @ @ v4 v1 v0";
        int t = x.type(0, 4);
        dueTerm("its type", x, t, due);
        for (int i = 0; i < due.split(" ").length; i++) {
            due("part(t, " + i + ", 2)", x.part(t, i, 2), 0);
        }
    }

    /** A type that is counted, but has too many nodes to be made; one that just fits. */
    private static void typesBeyondTheLimit() {
        FamilyRules x = new FamilyRules();
        int sort = tell(x, "s0");
        x.family(sort, 0, 1);
        int text = tell(x, "g0");
        int g0 = text;
        for (int i = 0; i < 150; i++) {
            text = x.binder(6, i % 100, g0, text);
        }
        due("150 recursive arguments", x.constructor(1, text), 150);
        // M 4; the case 1 + 2 * 150 + 4 * 150 + 2 + 1 + 2 * 150; x and the end 5.
        due("its size", x.size(0), 4 + 1 + 300 + 600 + 2 + 301 + 5);
        int n = x.terms();
        due("its type", x.type(0, 0), NONE);
        due("terms()", x.terms(), n);
        int last = x.brings(1, 149);
        due("brings(1, 149)", last, n);
        dueTerm("brings(1, 149)", x, last, "@ v150 v0");
        FamilyRules y = new FamilyRules();
        y.family(tell(y, "s0"), 0, 1);
        text = g0 = tell(y, "g0");
        for (int i = 0; i < 123; i++) {
            text = y.binder(6, NONE, g0, text);
        }
        due("123 recursive arguments", y.constructor(1, text), 123);
        due("its size", y.size(0), 13 + 8 * 123);
        n = y.terms();
        due("its type", y.type(0, 0), n);
        due("nodes of its type", y.part(n, 0, 3), 997);
        due("its last part", y.part(n, 996, 1), 0);
        due("M at the end of the case", y.part(n, 997 - 5 - 2 * 123 - 2, 1), 246);
        FamilyRules z = new FamilyRules();
        z.family(tell(z, "s0"), 0, 1);
        text = g0 = tell(z, "g0");
        for (int i = 0; i < 124; i++) {
            text = z.binder(6, NONE, g0, text);
        }
        due("124 recursive arguments", z.constructor(1, text), 124);
        due("its size", z.size(0), 1005);
        due("its type", z.type(0, 0), NONE);
    }

    private static void bringsBeyondTheLimit() {
        FamilyRules x = new FamilyRules();
        x.family(tell(x, "s0"), 0, 1);
        int g0 = tell(x, "g0");
        int sort = tell(x, "s0");
        int wide = sort;
        for (int nodes = 3; nodes <= 511; nodes = 2 * nodes + 1) {
            wide = x.apply(wide, wide);
        }
        int rest = x.apply(wide - 1, x.apply(wide - 2, x.apply(wide - 4, wide - 4)));
        rest = x.apply(rest, x.apply(x.apply(sort, sort), sort));
        due("nodes of the rest", x.part(rest, 0, 3), 453);
        wide = x.apply(wide, rest);
        due("nodes of the widest y", x.part(wide, 0, 3), 965);
        int argument = g0;
        for (int i = 0; i < 8; i++) {
            argument = x.binder(6, NONE, sort, argument);
        }
        argument = x.binder(6, NONE, wide, argument);
        due("nodes of the argument", x.part(argument, 0, 3), 983);
        due("nine ys", x.constructor(1, x.binder(6, 1, argument, g0)), 1);
        int n = x.terms();
        // 9 funs with 965 + 8 nodes, Q put to the argument, and this put to 9 variables.
        due("1003 nodes", x.brings(1, 0), NONE);
        due("terms()", x.terms(), n);
        due("size(0)", x.size(0), 4 + 1 + (1 + 983) + (1 + 1003) + 2 + 3 + 5);
        FamilyRules y = new FamilyRules();
        due("family", y.family(tell(y, "s0"), 0, 1), 0);
        int text = tell(y, "g0");
        for (int i = 0; i < 100; i++) {
            text = y.binder(6, i, 0, text);
        }
        due("a hundred ys", y.constructor(1, y.binder(6, 1, text, 1)), 1);
        int made = y.brings(1, 0);
        due("nodes of what it brings", y.part(made, 0, 3), 200 + 2 + 201);
        due("Q", y.part(made, 201, 1), 101);
        due("the argument", y.part(made, 302, 1), 100);
        due("the first y", y.part(made, 303, 1), 99);
        due("the last y", y.part(made, 402, 1), 0);
    }

    private static void terms() {
        FamilyRules x = new FamilyRules();
        due("terms()", x.terms(), 0);
        x.leaf(2, 0, 0);
        x.leaf(2, 0, 0);
        due("equal or not", x.terms(), 2);
        x.leaf(2, 101, 0);
        x.apply(0, 5);
        due("refused ones", x.terms(), 2);
        x.family(0, 0, 0);
        x.axiom();
        due("globals are none", x.terms(), 2);
        x.type(0, 0);
        due("with a type", x.terms(), 3);
        x = nat();
        due("of nat", x.terms(), 5);
        x.size(0);
        x.positive(0, 0, 0);
        x.part(0, 0, 0);
        x.about(0, 0);
        due("asked", x.terms(), 5);
        x.brings(2, 0);
        due("with what it brings", x.terms(), 6);
    }

    private static void part() {
        FamilyRules x = nat();
        int t = tell(x, "all7 fun_ s3 @ g2 v0 @ @ r0.5 v100 g0");
        int[][] due = {
            {6, 7, 0, 11}, {5, NONE, 0, 5}, {2, 3, 0, 1}, {4, 0, 0, 3}, {1, 2, 0, 1}, {0, 0, 0, 1},
            {4, 0, 0, 5}, {4, 0, 0, 3}, {3, 0, 5, 1}, {0, 100, 0, 1}, {1, 0, 0, 1}
        };
        for (int i = 0; i < due.length; i++) {
            for (int what = 0; what < 4; what++) {
                due("part(t, " + i + ", " + what + ")", x.part(t, i, what), due[i][what]);
            }
            due("part(t, " + i + ", 4)", x.part(t, i, 4), NONE);
            due("part(t, " + i + ", -1)", x.part(t, i, -1), NONE);
        }
        for (int what = -1; what <= 4; what++) {
            due("part(t, 11, " + what + ")", x.part(t, 11, what), NONE);
            due("part(t, -1, " + what + ")", x.part(t, -1, what), NONE);
        }
        due("part of no term", x.part(x.terms(), 0, 0), NONE);
        for (int far : FAR) {
            due("part(far, 0, 0)", x.part(far, 0, 0), NONE);
            due("part(t, far, 3)", x.part(t, far, 3), NONE);
            due("part(t, 0, far)", x.part(t, 0, far), NONE);
        }
    }

    public static void main(String[] args) {
        promise = 1;
        newObject();
        promise = 2;
        leaf();
        promise = 3;
        apply();
        nodesOfOneTerm();
        nodesInAll();
        promise = 4;
        binder();
        promise = 2;
        lastNodes();
        promise = 5;
        axiom();
        promise = 6;
        family();
        globalsInAll();
        promise = 7;
        constructor();
        constructorWithParameters();
        promise = 8;
        about();
        promise = 9;
        positive();
        promise = 10;
        brings();
        bringsBeyondTheLimit();
        promise = 11;
        size();
        promise = 12;
        sizeAndType();
        typesWithParametersAndIndices();
        typeWithTwoRecursive();
        typesBeyondTheLimit();
        promise = 13;
        terms();
        promise = 14;
        part();
        System.out.println(wrong == 0 ? "all answers are as due" : wrong + " answers are not as due");
        if (wrong != 0) {
            System.exit(1);
        }
    }
}
