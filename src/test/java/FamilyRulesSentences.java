import java.nio.file.Files;
import java.nio.file.Path;
import java.util.ArrayList;
import java.util.List;

/**
 * The document's boundary cases, sentence by sentence: every test here bears the number of a promise
 * and the words of the document that it holds the class to (0 where the words stand before the first
 * promise and belong to all of them).
 *
 * Terms are written with every part before its own parts, as part() counts them: v3 variable,
 * g3 global, s3 sort, r3.1 rec of family 3 into sort 1, @ application, fun3 and all3 binders with
 * name 3, fun_ and all_ binders without a name.
 *
 * With the path of the document as an argument it also looks whether the words stand there.
 */
public final class FamilyRulesSentences {
    private static final int NONE = -1;
    private static final int MOST_CALLS = 512;
    private static final int MOST_NODES_IN_ALL = 30000;

    private static int wrong = 0;
    private static int asked = 0;
    private static String heading = "";
    private static String lastCall = "";
    private static final List<String> QUOTES = new ArrayList<>();

    // ---- a test: a promise, the words, and the calls

    private static void test(int promise, String words, Runnable calls) {
        QUOTES.add(words);
        heading = "promise " + promise + ", \"" + words + "\"";
        lastCall = "the first call";
        int before = asked;
        try {
            calls.run();
        } catch (RuntimeException thrown) {
            tellWrong(lastCall + " ended with " + thrown);
        }
        if (asked == before) {
            tellWrong("nothing was asked");
        }
    }

    private static void tellWrong(String text) {
        wrong++;
        System.out.println(heading + ": " + text);
    }

    private static void due(int got, int want) {
        asked++;
        if (got != want) {
            tellWrong(lastCall + " answered " + got + ", due is " + want);
        }
    }

    private static void dueTerm(Rules x, int t, String want) {
        asked++;
        String call = lastCall;
        String got = t < 0 ? "no term (" + t + ")" : x.show(t);
        if (!got.equals(want)) {
            tellWrong(call + "\n  made   " + got + "\n  due is " + want);
        }
        if (t >= 0) {
            due(x.part(t, x.nodesOf(t), 0), NONE);
        }
    }

    /** Numbers out of a range: next to it, far from it, and such as fall into it when bits are lost. */
    private static int[] outside(int first, int last) {
        return new int[] {
            first - 1, first - 2, first - 256, first - 65536, Integer.MIN_VALUE, Integer.MIN_VALUE + 1,
            Integer.MIN_VALUE + Math.max(last, 0), last + 1, last + 2, last + 256, last + 65536,
            Integer.MAX_VALUE - 1, Integer.MAX_VALUE
        };
    }

    /**
     * The class with its calls counted, since behind the 512th its answers are free, and with what
     * is known of its terms and globals, so that a refused call can be seen to change nothing.
     */
    private static final class Rules {
        private final FamilyRules rules = new FamilyRules();
        private final List<Integer> sizes = new ArrayList<>();
        private final int[] doubled = new int[9];
        private int globals = 0;
        private int nodes = 0;
        private int calls = 0;

        private void call(String name, int... numbers) {
            calls++;
            if (calls > MOST_CALLS) {
                throw new IllegalStateException("the test makes more than 512 calls");
            }
            StringBuilder text = new StringBuilder(name).append('(');
            for (int i = 0; i < numbers.length; i++) {
                text.append(i == 0 ? "" : ", ").append(numbers[i]);
            }
            lastCall = text.append(')').toString();
        }

        private int kept(int answer, int ownNodes) {
            if (answer >= 0) {
                due(answer, sizes.size());
                sizes.add(ownNodes);
                nodes += ownNodes;
            }
            return answer;
        }

        private int keptGlobals(int answer, int more) {
            if (answer >= 0) {
                due(answer, globals);
                globals += more;
            }
            return answer;
        }

        private int nodesOf(int t) {
            return t >= 0 && t < sizes.size() ? sizes.get(t) : 0;
        }

        int leaf(int kind, int a, int b) {
            call("leaf", kind, a, b);
            return kept(rules.leaf(kind, a, b), 1);
        }

        int apply(int a, int b) {
            call("apply", a, b);
            return kept(rules.apply(a, b), 1 + nodesOf(a) + nodesOf(b));
        }

        int binder(int kind, int name, int a, int b) {
            call("binder", kind, name, a, b);
            return kept(rules.binder(kind, name, a, b), 1 + nodesOf(a) + nodesOf(b));
        }

        int axiom() {
            call("axiom");
            return keptGlobals(rules.axiom(), 1);
        }

        int family(int t, int parameters, int constructors) {
            call("family", t, parameters, constructors);
            return keptGlobals(rules.family(t, parameters, constructors), 1 + constructors);
        }

        int constructor(int g, int t) {
            call("constructor", g, t);
            return rules.constructor(g, t);
        }

        int about(int g, int what) {
            call("about", g, what);
            return rules.about(g, what);
        }

        int positive(int g, int t, int arguments) {
            call("positive", g, t, arguments);
            return rules.positive(g, t, arguments);
        }

        int brings(int g, int k) {
            call("brings", g, k);
            return cameOut(rules.brings(g, k));
        }

        int size(int g) {
            call("size", g);
            return rules.size(g);
        }

        int type(int g, int sort) {
            call("type", g, sort);
            return cameOut(rules.type(g, sort));
        }

        private int cameOut(int answer) {
            calls += answer >= 0 ? 1 : 0;
            return kept(answer, answer >= 0 ? rules.part(answer, 0, 3) : 0);
        }

        int terms() {
            call("terms");
            return rules.terms();
        }

        int part(int t, int i, int what) {
            call("part", t, i, what);
            return rules.part(t, i, what);
        }

        void refused(int answer) {
            refused(answer, NONE);
        }

        void refused(int answer, int want) {
            due(answer, want);
            String before = lastCall;
            int termsNow = terms();
            lastCall = "terms() behind the refused " + before;
            due(termsNow, sizes.size());
            int behind = about(globals, 0);
            lastCall = "about(" + globals + ", 0) behind the refused " + before;
            due(behind, NONE);
        }

        /** A told term has so many nodes, which is always an odd number. */
        int wide(int ownNodes) {
            int k = 0;
            while (k < 8 && (4 << k) - 1 <= ownNodes) {
                k++;
            }
            int most = (2 << k) - 1;
            if (most == ownNodes) {
                return doubled(k);
            }
            int step = most + 2 > ownNodes ? k - 1 : k;
            int left = doubled(step);
            return apply(left, wide(ownNodes - 1 - nodesOf(left)));
        }

        private int doubled(int k) {
            if (doubled[k] == 0) {
                int half = k == 0 ? 0 : doubled(k - 1);
                doubled[k] = 1 + (k == 0 ? leaf(2, 0, 0) : apply(half, half));
            }
            return doubled[k] - 1;
        }

        /** Tells terms until so many of the nodes in all are left. */
        void fill(int left) {
            doubled(8);
            for (int k = 8; k >= 0; k--) {
                while (MOST_NODES_IN_ALL - nodes - ((2 << k) - 1) >= left) {
                    int t = k == 0 ? leaf(2, 0, 0) : apply(doubled(k - 1), doubled(k - 1));
                    due(t < 0 ? NONE : 0, 0);
                    if (t < 0) {
                        return;
                    }
                }
            }
            due(MOST_NODES_IN_ALL - nodes, left);
        }

        int tell(String text) {
            String[] words = text.trim().split("\\s+");
            int[] at = {0};
            int t = tellFrom(words, at);
            if (at[0] != words.length) {
                throw new IllegalArgumentException("words are left over in: " + text);
            }
            return t;
        }

        private int tellFrom(String[] words, int[] at) {
            String word = words[at[0]++];
            if (word.equals("@")) {
                int a = tellFrom(words, at);
                return apply(a, tellFrom(words, at));
            }
            if (word.startsWith("fun") || word.startsWith("all")) {
                int name = word.endsWith("_") ? NONE : Integer.parseInt(word.substring(3));
                int a = tellFrom(words, at);
                return binder(word.startsWith("fun") ? 5 : 6, name, a, tellFrom(words, at));
            }
            if (word.startsWith("r")) {
                int dot = word.indexOf('.');
                return leaf(3, Integer.parseInt(word.substring(1, dot)), Integer.parseInt(word.substring(dot + 1)));
            }
            return leaf("vgs".indexOf(word.charAt(0)), Integer.parseInt(word.substring(1)), 0);
        }

        String show(int t) {
            StringBuilder text = new StringBuilder();
            int own = part(t, 0, 3);
            for (int i = 0; i < own; i++) {
                int kind = part(t, i, 0);
                int number = part(t, i, 1);
                String name = number == NONE ? "_" : "" + number;
                text.append(i == 0 ? "" : " ");
                switch (kind) {
                    case 0: text.append('v').append(number); break;
                    case 1: text.append('g').append(number); break;
                    case 2: text.append('s').append(number); break;
                    case 3: text.append('r').append(number).append('.').append(part(t, i, 2)); break;
                    case 4: text.append(number == 0 ? "@" : "@" + number); break;
                    case 5: text.append("fun").append(name); break;
                    case 6: text.append("all").append(name); break;
                    default: text.append('?').append(kind);
                }
            }
            return text.toString();
        }
    }

    // ---- objects that many tests begin with

    /** Global 0 without parameters and indices, its constructors not told. */
    private static Rules plain(int constructors) {
        Rules x = new Rules();
        due(x.family(x.tell("s1"), 0, constructors), 0);
        return x;
    }

    /** Global 0 with 1 (zero) and 2 (successor). */
    private static Rules nat() {
        Rules x = plain(2);
        int g0 = x.tell("g0");
        due(x.constructor(1, g0), 0);
        due(x.constructor(2, x.binder(6, 0, g0, g0)), 1);
        return x;
    }

    /** Global 0 with so many alls in its type, the types of all of them being a sort. */
    private static Rules withAlls(int alls, int parameters, int constructors) {
        Rules x = new Rules();
        int sort = x.leaf(2, 0, 0);
        int t = sort;
        for (int i = 0; i < alls; i++) {
            t = x.binder(6, alls - 1 - i, sort, t);
        }
        due(x.family(t, parameters, constructors), 0);
        return x;
    }

    /** So many alls of one type over a term. */
    private static int alls(Rules x, int count, int type, int under) {
        int t = under;
        for (int i = 0; i < count; i++) {
            t = x.binder(6, NONE, type, t);
        }
        return t;
    }

    // ---- what stands before the promises

    private static void noneItself() {
        lastCall = "NONE";
        due(FamilyRules.NONE, NONE);
    }

    private static void theLastCall() {
        Rules x = new Rules();
        for (int i = 0; i < 511; i++) {
            due(x.leaf(2, i % 101, 0), i);
        }
        due(x.leaf(0, 100, 0), 511);
        Rules y = nat();
        for (int i = y.calls; i < 510; i++) {
            due(y.size(0), 25);
        }
        due(y.type(0, 3), 3);
        Rules z = new Rules();
        due(z.leaf(2, 7, 0), 0);
        for (int i = 1; i < 511; i++) {
            due(z.about(0, 0), NONE);
        }
        due(z.part(0, 0, 1), 7);
    }

    /** The answers are free there, but rule 7 of LANGUAGE.md is not: nothing is thrown, and limits hold. */
    private static void behindTheLastCall() {
        FamilyRules x = new FamilyRules();
        for (int i = 0; i < 2000; i++) {
            x.leaf(2, 0, 0);
        }
        lastCall = "terms() behind 2000 leaves";
        due(Math.max(x.terms(), 1500), 1500);
        int[] any = {Integer.MIN_VALUE, -1, 0, 1, 1499, 1500, 1999, Integer.MAX_VALUE};
        for (int a : any) {
            for (int b : any) {
                x.leaf(a, b, 0);
                x.apply(a, b);
                x.binder(6, 0, a, b);
                x.axiom();
                x.family(a, b, 12);
                x.constructor(a, b);
                x.about(a, b);
                x.positive(a, b, 0);
                x.brings(a, b);
                x.size(a);
                x.type(a, b);
                x.part(a, b, 0);
            }
        }
        due(Math.max(x.terms(), 1500), 1500);
    }

    /**
     * No run of 512 calls gets there, and behind them the answers are free; this holds the class to
     * the limit all the same, since an object that is used on must not grow without end.
     */
    private static void termsAreFifteenHundred() {
        FamilyRules x = new FamilyRules();
        lastCall = "leaf(2, 0, 0), many times";
        for (int i = 0; i < 1500; i++) {
            due(x.leaf(2, 0, 0), i);
        }
        due(x.leaf(2, 0, 0), NONE);
        due(x.apply(0, 1499), NONE);
        due(x.binder(6, 0, 0, 1499), NONE);
        due(x.family(1499, 0, 0), 0);
        due(x.type(0, 0), NONE);
        due(x.size(0), 9);
        due(x.terms(), 1500);
        FamilyRules y = new FamilyRules();
        y.family(y.leaf(2, 0, 0), 0, 1);
        int g0 = y.leaf(1, 0, 0);
        due(y.constructor(1, y.binder(6, 0, g0, g0)), 1);
        for (int i = 3; i < 1499; i++) {
            y.leaf(2, 0, 0);
        }
        due(y.brings(1, 0), 1499);
        due(y.brings(1, 0), NONE);
        due(y.terms(), 1500);
    }

    private static void boundByTheInnermost() {
        Rules x = new Rules();
        due(x.family(x.tell("all_ s0 all_ v0 s0"), 0, 0), 0);
        due(x.family(x.tell("all_ s0 all_ s0 all_ v1 s0"), 0, 0), 1);
        due(x.family(x.tell("all_ fun_ s0 v0 s0"), 0, 0), 2);
        due(x.family(x.tell("all_ fun_ s0 fun_ v0 v1 s0"), 0, 0), 3);
        x.refused(x.family(x.tell("all_ s0 all_ v1 s0"), 0, 0));
        x.refused(x.family(x.tell("all_ s0 all_ s0 all_ v2 s0"), 0, 0));
        x.refused(x.family(x.tell("all_ fun_ s0 v1 s0"), 0, 0));
        x.refused(x.family(x.tell("all_ fun_ s0 fun_ v0 v2 s0"), 0, 0));
    }

    /** Variable 100 is the greatest that can be told: 100 binders are one too few for it. */
    private static void aHundredBinders() {
        Rules x = new Rules();
        int sort = x.leaf(2, 0, 0);
        int t = x.binder(6, NONE, x.leaf(0, 100, 0), sort);
        t = alls(x, 100, sort, t);
        x.refused(x.family(t, 0, 0));
        t = alls(x, 1, sort, t);
        due(x.family(t, 102, 0), 0);
        due(x.about(0, 1), 102);
    }

    private static void theFirstPartLiesOutside() {
        Rules x = new Rules();
        x.refused(x.family(x.tell("all_ v0 s0"), 0, 0));
        x.refused(x.family(x.tell("all_ fun_ v0 s0 s0"), 0, 0));
        x.refused(x.family(x.tell("all_ s0 all_ all_ v1 s0 s0"), 0, 0));
        due(x.family(x.tell("all_ s0 all_ all_ v0 s0 s0"), 0, 0), 0);
        due(x.family(x.tell("all_ all_ s0 v0 s0"), 0, 0), 1);
        // The binder in a first part does not reach into the second one.
        x.refused(x.family(x.tell("all_ @ fun_ s0 s0 v0 s0"), 0, 0));
        due(x.family(x.tell("all_ @ fun_ s0 v0 s0 s0"), 0, 0), 2);
    }

    private static void nothingIsShared() {
        Rules x = new Rules();
        int t = x.leaf(2, 0, 0);
        for (int nodes = 3; nodes <= 511; nodes = 2 * nodes + 1) {
            t = x.apply(t, t);
            due(x.part(t, 0, 3), nodes);
        }
        x.refused(x.apply(t, t));
        int own = x.binder(5, 1, 1, 1);
        due(x.part(own, 0, 3), 7);
        due(x.part(own, 4, 3), 3);
        due(x.part(own, 6, 0), 2);
        due(x.part(own, 7, 0), NONE);
    }

    private static void globalsAreAHundred() {
        Rules x = new Rules();
        int sort = x.leaf(2, 0, 0);
        due(x.family(sort, 0, 12), 0);
        for (int g = 13; g < 99; g++) {
            due(x.axiom(), g);
        }
        x.refused(x.family(sort, 0, 1));
        due(x.family(sort, 0, 0), 99);
        x.refused(x.family(sort, 0, 0));
        x.refused(x.axiom());
        due(x.about(0, 0), 3);
        due(x.about(12, 0), 4);
        due(x.about(99, 0), 3);
        due(x.about(100, 0), NONE);
        due(x.leaf(1, 99, 0), 1);
        x.refused(x.leaf(1, 100, 0));
    }

    private static void theGlobalsBehindAFamily() {
        Rules x = new Rules();
        int sort = x.leaf(2, 0, 0);
        due(x.family(sort, 0, 0), 0);
        due(x.family(sort, 0, 1), 1);
        due(x.family(sort, 0, 12), 3);
        due(x.axiom(), 16);
        int[] kinds = {3, 3, 4, 3, 4, 4, 4, 4, 4, 4, 4, 4, 4, 4, 4, 4, 0, NONE};
        for (int g = 0; g < kinds.length; g++) {
            due(x.about(g, 0), kinds[g]);
        }
        due(x.constructor(2, x.tell("g0")), NONE);
        due(x.constructor(2, x.tell("g1")), 0);
        due(x.constructor(4, x.tell("g1")), NONE);
        due(x.constructor(15, x.tell("g3")), 0);
    }

    private static void parameterTypesAreNotAsked() {
        Rules x = withAlls(2, 2, 4);
        due(x.constructor(1, x.tell("all_ s0 all_ s0 @ @ g0 v1 v0")), 0);
        due(x.constructor(2, x.tell("all_ s7 all_ v0 @ @ g0 v1 v0")), 0);
        due(x.constructor(3, x.tell("all50 all_ s0 s0 all51 fun_ v0 v1 @ @ g0 v1 v0")), 0);
        due(x.constructor(4, x.tell("all_ g0 all_ r0.0 all_ v0 @ @ g0 v2 v1")), 0);
        // The names and types of parameters in a rec's type are those in the family's type.
        int t = x.type(0, 0);
        due(x.part(t, 0, 1), 0);
        due(x.part(t, 1, 0), 2);
        due(x.part(t, 2, 1), 1);
        due(x.part(t, 3, 0), 2);
        due(x.part(t, 4, 1), 98);
    }

    private static void familyInResultAndParameters() {
        Rules x = withAlls(2, 1, 5);
        due(x.constructor(1, x.tell("all_ s0 @ @ g0 v0 @ @ g0 v0 s0")), 0);
        due(x.constructor(2, x.tell("all_ s0 @ @ g0 v0 r0.100")), 0);
        due(x.constructor(3, x.tell("all_ @ @ g0 s0 s0 @ @ g0 v0 s0")), 0);
        due(x.constructor(4, x.tell("all_ all_ g0 g0 all_ @ @ g0 v0 s0 @ @ g0 v1 g0")), 1);
        x.refused(x.constructor(5, x.tell("all_ s0 all_ @ @ g0 v0 g0 @ @ g0 v1 s0")), -2);
        x.refused(x.constructor(5, x.tell("all_ g0 all_ @ v0 g0 @ @ g0 v1 g0")), -2);
        due(x.about(5, 2), NONE);
    }

    private static void ysMayBeNone() {
        Rules x = nat();
        int g0 = x.tell("g0");
        due(x.positive(0, g0, 0), 2);
        due(x.positive(0, x.tell("all_ s0 g0"), 0), 2);
        int many = alls(x, 120, x.tell("s0"), g0);
        due(x.positive(0, many, 0), 2);
        due(x.positive(0, x.tell("all_ s0 all_ g0 g0"), 0), 0);
        // Only alls: a fun over the family makes no recursive type.
        due(x.positive(0, x.tell("fun_ s0 g0"), 0), 0);
        due(x.positive(0, x.tell("all_ s0 fun_ s0 g0"), 0), 0);
    }

    private static void putToAllItsTerms() {
        Rules x = withAlls(2, 1, 1);
        due(x.positive(0, x.tell("@ @ g0 v0 s0"), 0), 2);
        due(x.positive(0, x.tell("@ g0 v0"), 0), 0);
        due(x.positive(0, x.tell("g0"), 0), 0);
        due(x.positive(0, x.tell("@ @ @ g0 v0 s0 s0"), 0), 0);
        due(x.positive(0, x.tell("@ g0 @ v0 s0"), 0), 0);
        due(x.positive(0, x.tell("@ @ r0.0 v0 s0"), 0), 0);
        due(x.positive(0, x.tell("@ @ g1 v0 s0"), 0), 1);
        due(x.positive(0, x.tell("@ @ g0 @ v0 v0 s0"), 0), 0);
        due(x.positive(0, x.tell("@ @ g0 s0 v0"), 0), 0);
    }

    private static void notInARecEither() {
        Rules x = plain(1);
        due(x.family(0, 0, 1), 2);
        due(x.positive(0, x.tell("r0.0"), 0), 0);
        due(x.positive(0, x.tell("r0.100"), 0), 0);
        due(x.positive(0, x.tell("@ s0 fun_ r0.5 v0"), 0), 0);
        due(x.positive(0, x.tell("r2.0"), 0), 1);
        due(x.positive(2, x.tell("r2.0"), 0), 0);
        due(x.positive(0, x.tell("g1"), 0), 1);
        due(x.positive(0, x.tell("s0"), 0), 1);
        due(x.positive(0, x.tell("v0"), 0), 1);
        due(x.positive(0, x.tell("@ g2 all_ g1 fun_ g3 v9"), 0), 1);
        x.refused(x.constructor(1, x.tell("all_ r0.0 g0")), -2);
        due(x.constructor(1, x.tell("all_ r2.0 g0")), 0);
    }

    private static void inNoYAndNoJ() {
        Rules x = withAlls(1, 0, 1);
        due(x.positive(0, x.tell("all_ s0 all_ s0 @ g0 v0"), 0), 2);
        due(x.positive(0, x.tell("all_ @ g0 s0 all_ s0 @ g0 v0"), 0), 0);
        due(x.positive(0, x.tell("all_ s0 all_ @ g0 v0 @ g0 v0"), 0), 0);
        due(x.positive(0, x.tell("all_ s0 all_ all_ s0 g0 @ g0 v0"), 0), 0);
        due(x.positive(0, x.tell("all_ s0 all_ r0.0 @ g0 v0"), 0), 0);
        due(x.positive(0, x.tell("@ g0 g0"), 0), 0);
        due(x.positive(0, x.tell("@ g0 r0.1"), 0), 0);
        due(x.positive(0, x.tell("@ g0 fun_ s0 @ v0 g0"), 0), 0);
        due(x.positive(0, x.tell("@ g0 g1"), 0), 2);
        due(x.positive(0, x.tell("all_ g1 @ g0 v0"), 0), 2);
        Rules y = withAlls(2, 0, 1);
        due(y.positive(0, y.tell("@ @ g0 s0 s0"), 0), 2);
        due(y.positive(0, y.tell("@ @ g0 g0 s0"), 0), 0);
        due(y.positive(0, y.tell("@ @ g0 s0 g0"), 0), 0);
    }

    private static void allMustBePositive() {
        Rules x = plain(1);
        int bad = x.tell("all_ g0 s0");
        int g0 = x.tell("g0");
        int good = x.tell("s0");
        x.refused(x.constructor(1, x.binder(6, 0, bad, g0)), -2);
        x.refused(x.constructor(1, x.binder(6, 0, bad, x.binder(6, 0, good, g0))), -2);
        x.refused(x.constructor(1, x.binder(6, 0, good, x.binder(6, 0, bad, g0))), -3);
        due(x.constructor(1, x.binder(6, 0, good, x.binder(6, 0, g0, g0))), 1);
    }

    private static void countedAsTheyComeOut() {
        Rules x = nat();
        due(x.terms(), 3);
        due(x.brings(2, 0), 3);
        due(x.brings(2, 0), 4);
        due(x.type(0, 1), 5);
        due(x.type(0, 1), 6);
        due(x.leaf(2, 1, 0), 7);
        due(x.leaf(2, 1, 0), 8);
        due(x.apply(7, 8), 9);
        due(x.apply(7, 8), 10);
        x.refused(x.apply(7, 11));
        x.refused(x.brings(2, 1));
        x.refused(x.type(0, 101));
        due(x.binder(5, 0, 3, 5), 11);
        due(x.terms(), 12);
        dueTerm(x, 3, "@ v1 v0");
        dueTerm(x, 4, "@ v1 v0");
        for (int t = 5; t <= 6; t++) {
            dueTerm(x, t, "all98 all_ g0 s1 all_ @ v0 g1 all_ all0 g0 all_ @ v2 v0 @ v3 @ g2 v1 all99 g0 @ v3 v0");
        }
    }

    /** Every term has an odd number of nodes: 999 is the most that can be, 1001 the first too many. */
    private static void nodesOfOneTerm() {
        Rules x = new Rules();
        int half = x.wide(511);
        int most = x.apply(half, x.wide(487));
        due(x.part(most, 0, 3), 999);
        due(x.part(most, 998, 0), 2);
        due(x.part(most, 999, 0), NONE);
        due(x.part(x.binder(6, 0, x.wide(487), half), 0, 3), 999);
        x.refused(x.apply(half, x.wide(489)));
        x.refused(x.binder(5, 0, x.wide(489), half));
        x.refused(x.apply(most, 0));
        x.refused(x.apply(0, most));
        x.refused(x.apply(most, most));
    }

    private static void nodesInAll() {
        Rules x = new Rules();
        int half = x.wide(511);
        int rest = x.wide(487);
        x.fill(999);
        int most = x.apply(half, rest);
        due(x.part(most, 0, 3), 999);
        x.refused(x.leaf(2, 0, 0));
        Rules y = new Rules();
        half = y.wide(511);
        rest = y.wide(487);
        y.fill(998);
        y.refused(y.apply(half, rest));
        y.refused(y.binder(6, 0, half, rest));
        y.fill(0);
        y.refused(y.leaf(2, 0, 0));
    }

    /** Were a refused term's nodes counted, fill() would end too early. */
    private static void refusedTermsTakeNoNodes() {
        Rules x = nat();
        int half = x.wide(511);
        for (int i = 0; i < 30; i++) {
            x.refused(x.apply(half, half));
            x.refused(x.binder(6, 100, half, 0));
            x.refused(x.leaf(0, 101, 0));
            x.refused(x.type(0, 101));
        }
        x.fill(0);
    }

    // ---- promise 1

    private static void nothingThere() {
        due(new Rules().terms(), 0);
        for (int i = -1; i <= 1; i++) {
            due(new Rules().part(i, 0, 0), NONE);
            due(new Rules().part(0, i, 3), NONE);
            due(new Rules().about(i, 0), NONE);
            due(new Rules().about(0, 2 * i), NONE);
            Rules x = new Rules();
            x.refused(x.leaf(1, i, 0));
            x.refused(x.leaf(3, i, 0));
            x.refused(x.apply(i, 0));
            x.refused(x.apply(0, i));
            x.refused(x.binder(5, 0, i, 0));
            x.refused(x.binder(6, NONE, 0, i));
            x.refused(x.family(i, 0, 0));
            x.refused(x.constructor(i, 0));
            x.refused(x.brings(i, 0));
            x.refused(x.type(i, 0));
            due(x.leaf(0, 0, 0), 0);
            due(new Rules().constructor(i, 0), NONE);
            due(new Rules().positive(i, 0, 0), NONE);
            due(new Rules().brings(i, 0), NONE);
            due(new Rules().size(i), NONE);
            due(new Rules().type(i, 0), NONE);
        }
        due(new Rules().axiom(), 0);
        due(new Rules().leaf(0, 0, 0), 0);
    }

    private static void objectsAreApart() {
        Rules first = nat();
        Rules second = new Rules();
        due(second.terms(), 0);
        due(second.about(0, 0), NONE);
        due(second.size(0), NONE);
        due(second.axiom(), 0);
        due(second.leaf(0, 5, 0), 0);
        due(first.terms(), 3);
        due(first.about(0, 0), 3);
        due(first.part(0, 0, 0), 2);
        due(first.brings(2, 0), 3);
        due(second.part(0, 0, 1), 5);
        due(second.terms(), 1);
    }

    // ---- promise 2

    private static void kindsOfALeaf() {
        Rules x = plain(0);
        int[][] rows = {{0, 0, 0}, {1, 0, 0}, {2, 0, 0}, {3, 0, 0}, {0, 100, 0}, {2, 100, 0}, {3, 0, 100}};
        for (int[] row : rows) {
            int t = x.leaf(row[0], row[1], row[2]);
            due(t, x.terms() - 1);
            due(x.part(t, 0, 0), row[0]);
            due(x.part(t, 0, 1), row[1]);
            due(x.part(t, 0, 2), row[2]);
            due(x.part(t, 0, 3), 1);
            due(x.part(t, 1, 0), NONE);
        }
    }

    private static void variableOrSort() {
        Rules x = new Rules();
        for (int kind = 0; kind <= 2; kind += 2) {
            for (int number : new int[] {0, 1, 99, 100}) {
                due(x.part(x.leaf(kind, number, 0), 0, 1), number);
            }
            for (int number : outside(0, 100)) {
                x.refused(x.leaf(kind, number, 0));
            }
        }
    }

    private static void noSuchGlobal() {
        Rules x = new Rules();
        x.refused(x.leaf(1, 0, 0));
        due(x.axiom(), 0);
        due(x.leaf(1, 0, 0), 0);
        x.refused(x.leaf(1, 1, 0));
        due(x.family(x.leaf(2, 0, 0), 0, 2), 1);
        due(x.leaf(1, 1, 0), 2);
        due(x.leaf(1, 2, 0), 3);
        due(x.leaf(1, 3, 0), 4);
        for (int g : outside(0, 3)) {
            x.refused(x.leaf(1, g, 0));
        }
        x.refused(x.leaf(1, 99, 0));
        x.refused(x.leaf(1, 100, 0));
    }

    private static void recOfAFamilyOnly() {
        Rules x = new Rules();
        int sort = x.leaf(2, 0, 0);
        x.refused(x.leaf(3, 0, 0));
        due(x.axiom(), 0);
        due(x.family(sort, 0, 1), 1);
        due(x.family(sort, 0, 0), 3);
        x.refused(x.leaf(3, 0, 0));
        due(x.leaf(3, 1, 0), 1);
        x.refused(x.leaf(3, 2, 0));
        due(x.leaf(3, 3, 0), 2);
        for (int g : outside(0, 3)) {
            x.refused(x.leaf(3, g, 0));
        }
    }

    private static void sortOfARec() {
        Rules x = plain(0);
        for (int sort : new int[] {0, 1, 99, 100}) {
            due(x.part(x.leaf(3, 0, sort), 0, 2), sort);
        }
        for (int sort : outside(0, 100)) {
            x.refused(x.leaf(3, 0, sort));
        }
    }

    private static void nothingBehindTheOthers() {
        Rules x = plain(0);
        for (int kind = 0; kind <= 2; kind++) {
            due(x.part(x.leaf(kind, 0, 0), 0, 2), 0);
            for (int b : outside(0, 0)) {
                x.refused(x.leaf(kind, 0, b));
            }
            x.refused(x.leaf(kind, 0, 100));
        }
    }

    private static void noLeafOfAnotherKind() {
        Rules x = plain(0);
        for (int kind = 4; kind <= 7; kind++) {
            x.refused(x.leaf(kind, 0, 0));
        }
        for (int kind : outside(0, 6)) {
            x.refused(x.leaf(kind, 0, 0));
        }
        due(x.leaf(3, 0, 0), 1);
    }

    private static void leafBeyondTheLimits() {
        Rules x = plain(0);
        x.fill(4);
        for (int kind = 0; kind <= 3; kind++) {
            due(x.leaf(kind, 0, 0) >= 0 ? 1 : 0, 1);
        }
        for (int kind = 0; kind <= 3; kind++) {
            x.refused(x.leaf(kind, 0, 0));
        }
    }

    // ---- promise 3

    private static void theApplication() {
        Rules x = new Rules();
        int a = x.leaf(2, 1, 0);
        int b = x.leaf(0, 2, 0);
        dueTerm(x, x.apply(a, b), "@ s1 v2");
        dueTerm(x, x.apply(b, a), "@ v2 s1");
        dueTerm(x, x.apply(a, a), "@ s1 s1");
        dueTerm(x, x.apply(2, b), "@ @ s1 v2 v2");
        dueTerm(x, x.apply(b, 2), "@ v2 @ s1 v2");
        dueTerm(x, x.apply(2, 2), "@ @ s1 v2 @ s1 v2");
        dueTerm(x, a, "s1");
    }

    private static void applyOfNoTerm() {
        Rules x = new Rules();
        x.refused(x.apply(0, 0));
        due(x.leaf(2, 0, 0), 0);
        x.refused(x.apply(0, 1));
        x.refused(x.apply(1, 0));
        due(x.apply(0, 0), 1);
        for (int t : outside(0, 1)) {
            x.refused(x.apply(t, 0));
            x.refused(x.apply(0, t));
            x.refused(x.apply(t, t));
        }
        due(x.apply(1, 1), 2);
    }

    private static void applyBeyondTheLimits() {
        Rules x = new Rules();
        x.fill(3);
        due(x.apply(0, 0) >= 0 ? 1 : 0, 1);
        x.refused(x.apply(0, 0));
        Rules y = new Rules();
        y.fill(2);
        y.refused(y.apply(0, 0));
        due(y.leaf(2, 0, 0) >= 0 ? 1 : 0, 1);
        y.refused(y.apply(0, 0));
        Rules z = new Rules();
        int half = z.wide(511);
        due(z.part(z.apply(half, z.wide(487)), 0, 3), 999);
        z.refused(z.apply(half, z.wide(489)));
    }

    // ---- promise 4

    private static void theTwoBinders() {
        Rules x = new Rules();
        int a = x.leaf(2, 1, 0);
        int b = x.leaf(0, 2, 0);
        dueTerm(x, x.binder(5, 7, a, b), "fun7 s1 v2");
        dueTerm(x, x.binder(6, 7, b, a), "all7 v2 s1");
        dueTerm(x, x.binder(6, 8, 2, 2), "all8 fun7 s1 v2 fun7 s1 v2");
    }

    private static void binderOfNoTerm() {
        Rules x = new Rules();
        x.refused(x.binder(5, 0, 0, 0));
        x.refused(x.binder(6, 0, 0, 0));
        due(x.leaf(2, 0, 0), 0);
        x.refused(x.binder(6, 0, 0, 1));
        x.refused(x.binder(6, 0, 1, 0));
        due(x.binder(5, 0, 0, 0), 1);
        for (int t : outside(0, 1)) {
            x.refused(x.binder(5, 0, t, 0));
            x.refused(x.binder(6, 0, 0, t));
        }
        due(x.binder(6, 0, 1, 1), 2);
    }

    private static void binderBeyondTheLimits() {
        Rules x = new Rules();
        x.fill(3);
        due(x.binder(6, 0, 0, 0) >= 0 ? 1 : 0, 1);
        x.refused(x.binder(6, 0, 0, 0));
        Rules y = new Rules();
        y.fill(2);
        y.refused(y.binder(5, 0, 0, 0));
        y.refused(y.binder(6, NONE, 0, 0));
        Rules z = new Rules();
        int half = z.wide(511);
        due(z.part(z.binder(5, 0, half, z.wide(487)), 0, 3), 999);
        z.refused(z.binder(5, 0, half, z.wide(489)));
    }

    private static void binderOfAnotherKind() {
        Rules x = new Rules();
        int t = x.leaf(2, 0, 0);
        for (int kind = 0; kind <= 4; kind++) {
            x.refused(x.binder(kind, 0, t, t));
        }
        for (int kind : outside(5, 6)) {
            x.refused(x.binder(kind, 0, t, t));
        }
        due(x.binder(5, 0, t, t), 1);
        due(x.binder(6, 0, t, t), 2);
    }

    private static void names() {
        Rules x = new Rules();
        int t = x.leaf(2, 0, 0);
        for (int kind = 5; kind <= 6; kind++) {
            for (int name : new int[] {NONE, 0, 1, 98, 99}) {
                due(x.part(x.binder(kind, name, t, t), 0, 1), name);
            }
            for (int name : outside(NONE, 99)) {
                x.refused(x.binder(kind, name, t, t));
            }
        }
    }

    // ---- promise 5

    private static void noFamily() {
        Rules x = new Rules();
        due(x.axiom(), 0);
        due(x.axiom(), 1);
        int t = x.leaf(1, 0, 0);
        due(x.about(0, 0), 0);
        x.refused(x.leaf(3, 0, 0));
        x.refused(x.constructor(0, t));
        due(x.positive(0, t, 0), NONE);
        x.refused(x.brings(0, 0));
        due(x.size(0), NONE);
        x.refused(x.type(0, 0));
        due(x.terms(), 1);
    }

    private static void aHundredAxioms() {
        Rules x = new Rules();
        for (int g = 0; g < 100; g++) {
            due(x.axiom(), g);
        }
        x.refused(x.axiom());
        x.refused(x.axiom());
        due(x.about(99, 0), 0);
        Rules y = new Rules();
        int sort = y.leaf(2, 0, 0);
        for (int g = 0; g < 87; g++) {
            y.axiom();
        }
        due(y.family(sort, 0, 12), 87);
        y.refused(y.axiom());
        due(y.about(99, 3), 11);
        Rules z = new Rules();
        sort = z.leaf(2, 0, 0);
        for (int g = 0; g < 87; g++) {
            z.axiom();
        }
        due(z.family(sort, 0, 11), 87);
        due(z.axiom(), 99);
        z.refused(z.axiom());
    }

    /** The limits on terms are none on globals. */
    private static void globalsWithoutNodes() {
        Rules x = new Rules();
        x.fill(0);
        due(x.axiom(), 0);
        due(x.family(0, 0, 12), 1);
        due(x.axiom(), 14);
        due(x.about(13, 3), 11);
    }

    // ---- promise 6

    private static void theSmallestFamilies() {
        Rules x = new Rules();
        int sort = x.leaf(2, 0, 0);
        int one = x.binder(6, NONE, sort, sort);
        int[][] rows = {{sort, 0, 0, 0}, {one, 0, 0, 1}, {one, 1, 0, 0}, {sort, 0, 12, 0}, {one, 1, 12, 0}};
        for (int[] row : rows) {
            int g = x.family(row[0], row[1], row[2]);
            due(x.about(g, 1), row[1]);
            due(x.about(g, 2), row[3]);
            due(x.about(g, 3), row[2]);
            due(x.about(g + row[2], 0), row[2] == 0 ? 3 : 4);
            due(x.about(g + row[2] + 1, 0), NONE);
        }
    }

    /** A chain of alls in one object can be 170 long before the nodes in all run out. */
    private static void manyParameters() {
        Rules x = new Rules();
        int sort = x.leaf(2, 0, 0);
        int t = alls(x, 170, sort, sort);
        due(x.family(t, 170, 1), 0);
        due(x.about(0, 1), 170);
        due(x.about(1, 1), 170);
        due(x.about(0, 2), 0);
        x.refused(x.family(t, 171, 1));
        due(x.family(t, 0, 1), 2);
        due(x.about(2, 2), 170);
    }

    private static void familyOfNoTerm() {
        Rules x = new Rules();
        x.refused(x.family(0, 0, 0));
        due(x.leaf(2, 0, 0), 0);
        for (int t : outside(0, 0)) {
            x.refused(x.family(t, 0, 0));
        }
        due(x.family(0, 0, 0), 0);
    }

    private static void familyNotClosed() {
        Rules x = new Rules();
        String[] open = {
            "all_ v0 s0", "all_ v100 s0", "all_ s0 all_ v1 s0", "all_ @ s0 v0 s0", "all_ @ v0 s0 s0",
            "all_ s0 all_ s0 all_ s0 all_ v3 s0", "all_ fun_ v0 v0 s0", "all_ all_ s0 v1 s0", "all_ all_ v0 s0 s0"
        };
        for (String text : open) {
            x.refused(x.family(x.tell(text), 0, 1));
        }
        due(x.family(x.tell("all_ s0 all_ s0 all_ s0 all_ v2 s0"), 0, 1), 0);
        due(x.family(x.tell("all_ s0 all_ @ v0 fun_ v0 v1 s0"), 0, 1), 2);
    }

    private static void noAllsAndASort() {
        Rules x = plain(1);
        String[] others = {
            "g0", "g1", "r0.0", "@ s0 s0", "fun_ s0 s0", "all_ s0 v0", "all_ s0 g0", "all_ s0 r0.0",
            "all_ s0 @ s0 s0", "all_ s0 fun_ s0 s0", "fun_ s0 all_ s0 s0", "@ all_ s0 s0 s0", "all_ s0 all_ s0 v1"
        };
        for (String text : others) {
            x.refused(x.family(x.tell(text), 0, 0));
        }
        due(x.family(x.tell("s0"), 0, 0), 2);
        due(x.family(x.tell("s100"), 0, 0), 3);
        due(x.family(x.tell("all_ s0 all_ fun_ g0 v0 s100"), 0, 0), 4);
    }

    private static void lessThanPAlls() {
        Rules x = new Rules();
        int sort = x.leaf(2, 0, 0);
        int t = sort;
        for (int alls = 0; alls < 4; alls++) {
            x.refused(x.family(t, alls + 1, 0));
            x.refused(x.family(t, alls + 2, 0));
            x.refused(x.family(t, Integer.MAX_VALUE, 0));
            due(x.family(t, alls, 0), alls);
            due(x.about(alls, 1), alls);
            due(x.about(alls, 2), 0);
            t = x.binder(6, 0, sort, t);
        }
        // A fun, and an all that is not under the others, are none of them.
        x.refused(x.family(x.tell("all_ all_ s0 s0 s0"), 2, 0));
        x.refused(x.family(x.tell("all_ fun_ s0 s0 s0"), 2, 0));
    }

    private static void parametersBelowNone() {
        Rules x = new Rules();
        int t = x.tell("all_ s0 all_ s0 s0");
        for (int p : new int[] {-1, -2, -3, -256, Integer.MIN_VALUE, Integer.MIN_VALUE + 1, Integer.MIN_VALUE + 2}) {
            x.refused(x.family(t, p, 0));
            x.refused(x.family(0, p, 12));
        }
        due(x.family(t, 0, 0), 0);
    }

    private static void constructorsOutOfRange() {
        Rules x = new Rules();
        int sort = x.leaf(2, 0, 0);
        for (int constructors : outside(0, 12)) {
            x.refused(x.family(sort, 0, constructors));
        }
        due(x.family(sort, 0, 0), 0);
        due(x.family(sort, 0, 12), 1);
        due(x.family(sort, 0, 11), 14);
        due(x.about(1, 3), 12);
        due(x.about(13, 3), 11);
        due(x.about(14, 0), 3);
    }

    private static void moreThanAHundredGlobals() {
        for (int constructors = 0; constructors <= 12; constructors++) {
            Rules x = new Rules();
            int sort = x.leaf(2, 0, 0);
            for (int g = 0; g < 99 - constructors; g++) {
                x.axiom();
            }
            if (constructors < 12) {
                x.refused(x.family(sort, 0, constructors + 1));
            }
            x.refused(x.family(sort, 0, 13));
            due(x.family(sort, 0, constructors), 99 - constructors);
            due(x.about(99, 0), constructors == 0 ? 3 : 4);
            x.refused(x.family(sort, 0, 0));
        }
    }

    // ---- promise 7

    private static void howManyAreRecursive() {
        Rules x = plain(4);
        int g0 = x.tell("g0");
        int sort = x.tell("s0");
        due(x.constructor(1, g0), 0);
        due(x.constructor(2, alls(x, 3, sort, g0)), 0);
        due(x.constructor(3, alls(x, 2, g0, alls(x, 1, sort, alls(x, 1, g0, g0)))), 3);
        due(x.constructor(4, alls(x, 140, g0, g0)), 140);
        due(x.about(1, 2), 0);
        due(x.about(2, 2), 3);
        due(x.about(3, 2), 4);
        due(x.about(4, 2), 140);
    }

    /** With a parameter, 100 arguments are the most: its variable in the result is 100 then. */
    private static void aHundredArguments() {
        Rules x = withAlls(1, 1, 1);
        int sort = x.tell("s0");
        int result = x.tell("@ g0 v100");
        x.refused(x.constructor(1, alls(x, 100, sort, result)));
        int t = alls(x, 101, sort, result);
        due(x.constructor(1, t), 0);
        due(x.about(1, 2), 100);
    }

    private static void gIsNoConstructor() {
        Rules x = plain(1);
        int g0 = x.tell("g0");
        due(x.axiom(), 2);
        x.refused(x.constructor(0, g0));
        x.refused(x.constructor(2, g0));
        for (int g : outside(0, 2)) {
            x.refused(x.constructor(g, g0));
        }
        due(x.constructor(1, g0), 0);
    }

    private static void typeWasTold() {
        Rules x = plain(2);
        int g0 = x.tell("g0");
        int one = x.binder(6, NONE, g0, g0);
        due(x.constructor(2, one), 1);
        x.refused(x.constructor(2, one));
        x.refused(x.constructor(2, g0));
        x.refused(x.constructor(2, x.tell("all_ all_ g0 g0 g0")));
        x.refused(x.constructor(2, 99));
        due(x.about(2, 2), 1);
        due(x.constructor(1, g0), 0);
        x.refused(x.constructor(1, one));
        due(x.about(1, 2), 0);
        due(x.size(0), 25);
    }

    private static void constructorOfNoTerm() {
        Rules x = plain(1);
        int g0 = x.tell("g0");
        for (int t : outside(0, g0)) {
            x.refused(x.constructor(1, t));
        }
        due(x.about(1, 2), NONE);
        due(x.constructor(1, g0), 0);
    }

    private static void constructorNotClosed() {
        Rules x = withAlls(2, 1, 1);
        String[] open = {
            "all_ v0 @ @ g0 v0 s0", "all_ s0 @ @ g0 v0 v1", "all_ s0 all_ v1 @ @ g0 v1 s0",
            "all_ s0 all_ s0 @ @ g0 v1 v2", "all_ s0 all_ all_ s0 v2 @ @ g0 v1 s0", "all_ s0 @ @ g0 v0 fun_ v1 v0",
            "all_ s0 all_ @ @ g0 v0 v1 @ @ g0 v1 s0", "all_ s0 @ @ g0 v0 fun_ v0 v2",
            // It is not closed and an argument is not positive: then it is NONE.
            "all_ s0 all_ g0 @ @ g0 v1 v2", "all_ v0 all_ g0 @ @ g0 v1 v0"
        };
        for (String text : open) {
            x.refused(x.constructor(1, x.tell(text)));
        }
        due(x.about(1, 2), NONE);
        due(x.constructor(1, x.tell("all_ s0 all_ @ @ g0 v0 v0 @ @ g0 v1 fun_ v1 v2")), 1);
    }

    private static void noTypeOfThatConstructor() {
        Rules x = withAlls(3, 2, 2);
        due(x.family(x.tell("all_ s0 all_ s0 all_ s0 s0"), 2, 1), 3);
        String[] others = {
            "s0", "g0", "g1", "all_ s0 s0", "all_ s0 @ @ @ g0 v0 v0 s0", "all_ s0 all_ s0 @ @ g0 v1 v0",
            "all_ s0 all_ s0 @ @ @ @ g0 v1 v0 s0 s0", "all_ s0 all_ s0 @ @ @ g0 v0 v1 s0",
            "all_ s0 all_ s0 @ @ @ g0 v1 v1 s0", "all_ s0 all_ s0 @ @ @ g0 v1 s0 s0",
            "all_ s0 all_ s0 @ @ @ g3 v1 v0 s0", "all_ s0 all_ s0 @ @ @ g1 v1 v0 s0",
            "all_ s0 all_ s0 @ @ @ r0.0 v1 v0 s0", "all_ s0 all_ s0 all_ s0 @ @ @ g0 v1 v0 s0",
            "all_ s0 all_ s0 fun_ s0 @ @ @ g0 v2 v1 s0", "all_ s0 fun_ s0 @ @ @ g0 v1 v0 s0",
            "all_ s0 all_ s0 all_ s0 @ @ @ g0 v2 v0 s0", "all_ s0 all_ s0 @ @ @ g0 @ v1 v1 v0 s0",
            // An argument is not positive, but the result is wrong: then it is NONE.
            "all_ s0 all_ s0 all_ g0 @ @ @ g0 v1 v0 s0"
        };
        for (String text : others) {
            x.refused(x.constructor(1, x.tell(text)));
        }
        due(x.about(1, 2), NONE);
        int good = x.tell("all_ s0 all_ s0 @ @ @ g0 v1 v0 s0");
        x.refused(x.constructor(4, good));
        due(x.constructor(1, good), 0);
        due(x.constructor(2, good), 0);
    }

    private static void firstThatIsNotPositive() {
        Rules x = plain(1);
        int g0 = x.tell("g0");
        int bad = x.tell("@ s0 g0");
        for (int k = 0; k < 6; k++) {
            int t = alls(x, k, g0, x.binder(6, NONE, bad, g0));
            x.refused(x.constructor(1, t), -2 - k);
            x.refused(x.constructor(1, alls(x, 1, bad, t)), -2);
        }
        int many = alls(x, 120, g0, x.binder(6, NONE, bad, g0));
        x.refused(x.constructor(1, many), -122);
        due(x.about(1, 2), NONE);
        due(x.size(0), NONE);
        x.refused(x.brings(1, 0));
        due(x.constructor(1, g0), 0);
        due(x.about(1, 2), 0);
        // Parameters are not counted among the arguments.
        Rules y = withAlls(1, 1, 1);
        y.refused(y.constructor(1, y.tell("all_ g0 all_ g0 @ g0 v1")), -2);
        y.refused(y.constructor(1, y.tell("all_ g0 all_ v0 all_ g0 @ g0 v2")), -3);
    }

    private static void withTheVariablesOfItsParameters() {
        Rules x = withAlls(2, 2, 3);
        x.refused(x.constructor(1, x.tell("all_ s0 all_ s0 all_ @ @ g0 v0 v1 @ @ g0 v2 v1")), -2);
        x.refused(x.constructor(1, x.tell("all_ s0 all_ s0 all_ @ @ g0 v1 v1 @ @ g0 v2 v1")), -2);
        x.refused(x.constructor(1, x.tell("all_ s0 all_ s0 all_ all_ s0 @ @ g0 v1 v0 @ @ g0 v2 v1")), -2);
        x.refused(x.constructor(1, x.tell("all_ s0 all_ s0 all_ s0 all_ @ @ g0 v1 v0 @ @ g0 v3 v2")), -3);
        due(x.constructor(1, x.tell("all_ s0 all_ s0 all_ @ @ g0 v1 v0 @ @ g0 v2 v1")), 1);
        due(x.constructor(2, x.tell("all_ s0 all_ s0 all_ all_ s0 @ @ g0 v2 v1 @ @ g0 v2 v1")), 1);
        due(x.constructor(3, x.tell("all_ s0 all_ s0 all_ s0 all_ @ @ g0 v2 v1 @ @ g0 v3 v2")), 1);
    }

    // ---- promise 8

    /** An axiom, a family with its two constructors, of which the second is told, and one with none. */
    private static Rules fourGlobals() {
        Rules x = new Rules();
        due(x.axiom(), 0);
        due(x.family(x.tell("all_ s0 all_ s0 all_ s0 s0"), 2, 2), 1);
        due(x.constructor(3, x.tell("all_ s0 all_ s0 all_ @ @ @ g1 v1 v0 s0 @ @ @ g1 v2 v1 s0")), 1);
        due(x.family(x.tell("s0"), 0, 0), 4);
        return x;
    }

    private static void aboutEach(int what, int... due) {
        Rules x = fourGlobals();
        for (int g = 0; g < due.length; g++) {
            due(x.about(g, what), due[g]);
        }
    }

    private static void argumentsNotTold() {
        aboutEach(2, 0, 1, NONE, 1, 0, NONE);
        Rules x = plain(1);
        due(x.about(1, 2), NONE);
        x.refused(x.constructor(1, x.tell("all_ @ g0 g0 g0")), -2);
        due(x.about(1, 2), NONE);
        x.refused(x.constructor(1, x.tell("s0")));
        due(x.about(1, 2), NONE);
        due(x.constructor(1, x.tell("g0")), 0);
        due(x.about(1, 2), 0);
    }

    private static void whichConstructor() {
        aboutEach(3, 0, 2, 0, 1, 0, NONE);
        Rules x = plain(12);
        due(x.about(0, 3), 12);
        for (int i = 0; i < 12; i++) {
            due(x.about(1 + i, 3), i);
        }
    }

    private static void zeroForAnAxiom() {
        Rules x = new Rules();
        due(x.axiom(), 0);
        for (int what = 0; what <= 3; what++) {
            due(x.about(0, what), 0);
        }
        due(x.about(0, 4), NONE);
        due(x.about(0, -1), NONE);
    }

    private static void aboutNoneSuch() {
        Rules x = fourGlobals();
        for (int what = 0; what <= 3; what++) {
            for (int g : outside(0, 4)) {
                due(x.about(g, what), NONE);
            }
        }
        for (int g = 0; g <= 4; g++) {
            for (int what : outside(0, 3)) {
                due(x.about(g, what), NONE);
            }
        }
    }

    // ---- promise 9

    private static void parametersAmongTheLoose() {
        Rules x = withAlls(3, 3, 0);
        int t = x.tell("@ @ @ g0 v4 v3 v2");
        for (int arguments = 0; arguments <= 5; arguments++) {
            due(x.positive(0, t, arguments), arguments == 2 ? 2 : 0);
        }
        due(x.positive(0, x.tell("@ @ @ g0 v2 v1 v0"), 0), 2);
        due(x.positive(0, x.tell("@ @ @ g0 v0 v1 v2"), 0), 0);
        due(x.positive(0, x.tell("@ @ @ g0 v100 v99 v98"), 98), 2);
        due(x.positive(0, x.tell("all_ s0 all_ s0 @ @ @ g0 v5 v4 v3"), 1), 2);
        due(x.positive(0, x.tell("all_ s0 all_ s0 @ @ @ g0 v3 v2 v1"), 1), 0);
    }

    /** Parameter 0 of 101 is variable 100, the greatest that can be told; with one argument it is 101. */
    private static void parametersUpToTheGreatestVariable() {
        Rules x = new Rules();
        int sort = x.leaf(2, 0, 0);
        due(x.family(alls(x, 101, sort, sort), 101, 0), 0);
        int t = x.leaf(1, 0, 0);
        for (int k = 0; k < 101; k++) {
            t = x.apply(t, x.leaf(0, 100 - k, 0));
        }
        due(x.positive(0, t, 0), 2);
        due(x.positive(0, t, 1), 0);
        due(x.positive(0, t, 100), 0);
        due(x.positive(0, x.binder(6, NONE, sort, t), 0), 0);
    }

    private static void othersMayBeLoose() {
        Rules x = withAlls(2, 1, 0);
        due(x.positive(0, x.tell("@ @ g0 v1 v100"), 1), 2);
        due(x.positive(0, x.tell("@ @ g0 v1 v1"), 1), 2);
        due(x.positive(0, x.tell("all_ v100 @ @ g0 v2 v99"), 1), 2);
        due(x.positive(0, x.tell("v100"), 0), 1);
        due(x.positive(0, x.tell("@ v50 fun_ v51 v52"), 0), 1);
        due(x.positive(0, x.tell("@ v50 g0"), 0), 0);
    }

    private static void twoOneAndNothing() {
        Rules x = nat();
        due(x.positive(0, x.tell("g0"), 0), 2);
        due(x.positive(0, x.tell("all_ s0 g0"), 0), 2);
        due(x.positive(0, x.tell("s0"), 0), 1);
        due(x.positive(0, x.tell("g1"), 0), 1);
        due(x.positive(0, x.tell("@ g1 g2"), 0), 1);
        due(x.positive(0, x.tell("all_ g0 g0"), 0), 0);
        due(x.positive(0, x.tell("all_ g0 s0"), 0), 0);
        due(x.positive(0, x.tell("@ g0 s0"), 0), 0);
        due(x.positive(0, x.tell("@ s0 g0"), 0), 0);
        due(x.positive(0, x.tell("fun_ s0 g0"), 0), 0);
        due(x.positive(0, x.tell("r0.0"), 0), 0);
        // Nothing is told or kept by it.
        due(x.terms(), x.sizes.size());
    }

    private static void noSuchFamilyOrTerm() {
        Rules x = fourGlobals();
        int t = x.tell("s0");
        due(x.positive(1, t, 0), 1);
        due(x.positive(4, t, 0), 1);
        due(x.positive(0, t, 0), NONE);
        due(x.positive(2, t, 0), NONE);
        due(x.positive(3, t, 0), NONE);
        for (int g : outside(0, 4)) {
            due(x.positive(g, t, 0), NONE);
        }
        for (int none : outside(0, t)) {
            due(x.positive(1, none, 0), NONE);
        }
    }

    private static void argumentsOutOfRange() {
        Rules x = withAlls(1, 1, 0);
        int absent = x.tell("s0");
        int far = x.tell("@ g0 v100");
        due(x.positive(0, absent, 0), 1);
        due(x.positive(0, absent, 100), 1);
        due(x.positive(0, far, 100), 2);
        due(x.positive(0, far, 99), 0);
        due(x.positive(0, x.tell("@ g0 v0"), 0), 2);
        for (int arguments : outside(0, 100)) {
            due(x.positive(0, absent, arguments), NONE);
            due(x.positive(0, far, arguments), NONE);
        }
    }

    // ---- promise 10

    private static void countedAmongTheRecursive() {
        Rules x = plain(1);
        due(x.constructor(1, x.tell("all1 s0 all2 g0 all3 s0 all4 all5 s7 g0 all6 g0 g0")), 3);
        dueTerm(x, x.brings(1, 0), "@ v2 v0");
        dueTerm(x, x.brings(1, 1), "fun5 s7 @ v5 @ v1 v0");
        dueTerm(x, x.brings(1, 2), "@ v5 v0");
        x.refused(x.brings(1, 3));
    }

    private static void liftedByTheOneBetween() {
        Rules x = withAlls(2, 1, 1);
        // One parameter and an argument before it: in the types of ys and in the js each is one more,
        // and what the ys bind stays.
        due(x.constructor(1, x.tell("all1 s0 all2 v0 all3 all4 @ v0 v1 all5 @ v0 fun_ v1 v0 "
                + "@ @ g0 v3 @ v2 fun_ @ v0 v1 @ v0 v2 @ @ g0 v2 v1")), 1);
        dueTerm(x, x.brings(1, 0), "fun4 @ v1 v2 fun5 @ v0 fun_ v2 v0 "
                + "@ @ v5 @ v3 fun_ @ v0 v1 @ v0 v2 @ @ v2 v1 v0");
    }

    private static void bringsOfTheSmallest() {
        Rules x = plain(1);
        due(x.constructor(1, x.tell("all_ g0 g0")), 1);
        dueTerm(x, x.brings(1, 0), "@ v1 v0");
        Rules y = withAlls(1, 1, 1);
        due(y.constructor(1, y.tell("all_ s0 all_ @ g0 v0 @ g0 v1")), 1);
        dueTerm(y, y.brings(1, 0), "@ v2 v0");
        Rules z = withAlls(1, 0, 1);
        due(z.constructor(1, z.tell("all_ @ g0 s5 @ g0 v0")), 1);
        dueTerm(z, z.brings(1, 0), "@ @ v1 s5 v0");
    }

    /** Variables that come out may be greater than those that can be told. */
    private static void bringsBeyondVariableHundred() {
        Rules x = plain(1);
        int g0 = x.tell("g0");
        due(x.constructor(1, alls(x, 150, g0, g0)), 150);
        dueTerm(x, x.brings(1, 99), "@ v100 v0");
        dueTerm(x, x.brings(1, 100), "@ v101 v0");
        dueTerm(x, x.brings(1, 149), "@ v150 v0");
        x.refused(x.brings(1, 150));
    }

    private static void noneSuchToBring() {
        Rules x = plain(3);
        int g0 = x.tell("g0");
        due(x.axiom(), 4);
        due(x.constructor(1, g0), 0);
        due(x.constructor(2, alls(x, 2, g0, g0)), 2);
        x.refused(x.brings(1, 0));
        x.refused(x.brings(3, 0));
        x.refused(x.brings(0, 0));
        x.refused(x.brings(4, 0));
        for (int k : outside(0, 1)) {
            x.refused(x.brings(2, k));
        }
        for (int g : outside(0, 4)) {
            x.refused(x.brings(g, 0));
        }
        x.refused(x.constructor(3, x.tell("all_ g0 all_ @ g0 g0 g0")), -3);
        x.refused(x.brings(3, 0));
        due(x.brings(2, 1), x.sizes.size() - 1);
    }

    /** One y of T nodes: Q's term has a fun, T, two applications and three variables, T + 6 nodes. */
    private static void bringsBeyondTheNodesOfOne() {
        for (int extra = 0; extra <= 2; extra += 2) {
            Rules x = plain(1);
            int g0 = x.tell("g0");
            int argument = x.binder(6, NONE, x.wide(993 + extra), g0);
            due(x.constructor(1, x.binder(6, NONE, argument, g0)), 1);
            if (extra == 0) {
                due(x.part(x.brings(1, 0), 0, 3), 999);
            } else {
                x.refused(x.brings(1, 0));
            }
        }
    }

    private static void bringsBeyondTheNodesInAll() {
        Rules x = nat();
        x.fill(3);
        due(x.brings(2, 0) >= 0 ? 1 : 0, 1);
        x.refused(x.brings(2, 0));
        Rules y = nat();
        y.fill(2);
        y.refused(y.brings(2, 0));
        y.fill(0);
        y.refused(y.brings(2, 0));
    }

    // ---- promise 11

    private static void sizeBeyondTheLimits() {
        Rules x = plain(12);
        int t = x.binder(6, NONE, x.wide(997), x.tell("g0"));
        due(x.part(t, 0, 3), 999);
        for (int g = 1; g <= 12; g++) {
            due(x.size(0), NONE);
            due(x.constructor(g, t), 0);
        }
        // Nine nodes without constructors; each case has an all more, its own all and type, and six.
        due(x.size(0), 9 + 12 * (1 + 1 + 997 + 5));
        x.refused(x.type(0, 0));
        x.fill(0);
        due(x.size(0), 9 + 12 * (1 + 1 + 997 + 5));
    }

    private static void sizeIsThatOfTheType() {
        Rules x = nat();
        due(x.size(0), 25);
        due(x.part(x.type(0, 0), 0, 3), 25);
        Rules y = withAlls(3, 2, 0);
        int size = y.size(0);
        int t = y.type(0, 100);
        due(y.part(t, 0, 3), size);
        due(y.part(t, size - 1, 0), 0);
        due(y.part(t, size, 0), NONE);
    }

    private static void noSuchFamily() {
        Rules x = fourGlobals();
        due(x.size(0), NONE);
        due(x.size(1), NONE);
        due(x.size(2), NONE);
        due(x.size(3), NONE);
        due(x.size(4), 9);
        for (int g : outside(0, 4)) {
            due(x.size(g), NONE);
        }
    }

    private static void notAllWereTold() {
        for (int last = 1; last <= 3; last++) {
            Rules x = plain(3);
            int g0 = x.tell("g0");
            for (int g = 1; g <= 3; g++) {
                due(x.size(0), NONE);
                if (g != last) {
                    due(x.constructor(g, g0), 0);
                }
            }
            due(x.size(0), NONE);
            x.refused(x.type(0, 0));
            x.refused(x.constructor(last, x.tell("all_ @ g0 g0 g0")), -2);
            due(x.size(0), NONE);
            x.refused(x.type(0, 0));
            due(x.constructor(last, g0), 0);
            due(x.size(0), 21);
        }
        // With no constructors all of them were told.
        due(plain(0).size(0), 9);
    }

    // ---- promise 12

    private static void typeOfTheEmptiest() {
        Rules x = plain(0);
        dueTerm(x, x.type(0, 0), "all98 all_ g0 s0 all99 g0 @ v1 v0");
        Rules y = withAlls(1, 1, 0);
        dueTerm(y, y.type(0, 1), "all0 s0 all98 all_ @ g0 v0 s1 all99 @ g0 v1 @ v1 v0");
        due(y.family(y.tell("all1 s0 all2 v0 s0"), 2, 0), 1);
        dueTerm(y, y.type(1, 3), "all1 s0 all2 v0 all98 all_ @ @ g1 v1 v0 s3 all99 @ @ g1 v2 v1 @ v1 v0");
        Rules z = withAlls(1, 0, 0);
        dueTerm(z, z.type(0, 2), "all98 all0 s0 all_ @ g0 v0 s2 all0 s0 all99 @ g0 v0 @ @ v2 v1 v0");
    }

    private static void typeOfTwelve() {
        Rules x = plain(12);
        int g0 = x.tell("g0");
        StringBuilder due = new StringBuilder("all98 all_ g0 s0");
        for (int g = 1; g <= 12; g++) {
            due(x.constructor(g, g0), 0);
            due.append(" all_ @ v").append(g - 1).append(" g").append(g);
        }
        dueTerm(x, x.type(0, 0), due.append(" all99 g0 @ v13 v0").toString());
    }

    private static void variablesMeanWhatTheyMeant() {
        Rules x = new Rules();
        due(x.family(x.tell("all1 s0 all2 v0 all3 @ v1 v0 s0"), 1, 2), 0);
        due(x.constructor(1, x.tell("all1 s0 @ @ @ g0 v0 v0 fun_ v0 v1")), 0);
        due(x.constructor(2, x.tell("all1 s0 all4 v0 all5 all6 @ v0 v1 @ @ @ g0 v2 v1 v0 all7 @ v0 v2 "
                + "@ @ @ g0 v3 v2 @ v1 v0")), 1);
        dueTerm(x, x.type(0, 9), "all1 s0 all98 all2 v0 all3 @ v1 v0 all_ @ @ @ g0 v2 v1 v0 s9 "
                + "all_ @ @ @ v0 v1 fun_ v1 v2 @ g1 v1 "
                + "all_ all4 v2 all5 all6 @ v0 v3 @ @ @ g0 v4 v1 v0 all7 @ v0 v4 "
                + "all_ all6 @ v2 v5 @ @ @ v5 v3 v0 @ v2 v0 "
                + "@ @ @ v5 v3 @ v2 v1 @ @ @ @ g2 v6 v3 v2 v1 "
                + "all2 v3 all3 @ v4 v0 all99 @ @ @ g0 v5 v1 v0 @ @ @ v5 v2 v1 v0");
    }

    /** Behind a recursive argument lie others, and behind what the first brings lies what the others bring. */
    private static void variablesBehindWhatIsBrought() {
        Rules x = withAlls(2, 1, 2);
        due(x.constructor(1, x.tell("all0 s0 @ @ g0 v0 v0")), 0);
        due(x.constructor(2, x.tell("all0 s0 all3 @ @ g0 v0 v0 all4 all5 v1 @ @ g0 v2 @ v1 v0 all6 v2 "
                + "all7 @ @ g0 v3 @ v0 v2 @ @ g0 v4 @ v4 @ v3 @ v2 @ v1 v0")), 3);
        dueTerm(x, x.type(0, 8), "all0 s0 all98 all1 s0 all_ @ @ g0 v1 v0 s8 "
                + "all_ @ @ v0 v1 @ g1 v1 "
                + "all_ all3 @ @ g0 v2 v2 all4 all5 v3 @ @ g0 v4 @ v1 v0 all6 v4 all7 @ @ g0 v5 @ v0 v2 "
                + "all_ @ @ v5 v6 v3 "
                + "all_ all5 v7 @ @ v7 @ v5 v0 @ v4 v0 "
                + "all_ @ @ v7 @ v3 v5 v2 "
                + "@ @ v8 @ v9 @ v6 @ v5 @ v4 v3 @ @ @ @ @ g2 v9 v6 v5 v4 v3 "
                + "all1 s0 all99 @ @ g0 v4 v0 @ @ v4 v1 v0");
    }

    /** With 120 parameters the type has variables that could not be told. */
    private static void typeBeyondVariableHundred() {
        Rules x = new Rules();
        int sort = x.leaf(2, 0, 0);
        due(x.family(alls(x, 120, sort, sort), 120, 0), 0);
        int t = x.type(0, 0);
        // Two nodes for each of 120 alls; then M with D put to 120 variables; then x likewise.
        due(x.part(t, 0, 3), 240 + (1 + 1 + 241 + 1) + (1 + 241) + 3);
        due(x.part(t, 240, 1), 98);
        due(x.part(t, 242 + 120, 0), 1);
        due(x.part(t, 242 + 121, 1), 119);
        due(x.part(t, 242 + 240, 1), 0);
        due(x.part(t, 240 + 244, 1), 99);
        due(x.part(t, 240 + 245 + 121, 1), 120);
        due(x.part(t, 240 + 245 + 240, 1), 1);
    }

    private static void typeAsForSize() {
        Rules x = fourGlobals();
        for (int g = 0; g <= 3; g++) {
            x.refused(x.type(g, 0));
        }
        for (int g : outside(0, 4)) {
            x.refused(x.type(g, 0));
        }
        due(x.type(4, 0) >= 0 ? 1 : 0, 1);
        due(x.constructor(2, x.tell("all_ s0 all_ s0 @ @ @ g1 v1 v0 s0")), 0);
        due(x.part(x.type(1, 0), 0, 3), x.size(1));
    }

    private static void sortOfAType() {
        Rules x = nat();
        for (int sort : new int[] {0, 1, 99, 100}) {
            due(x.part(x.type(0, sort), 3, 1), sort);
        }
        for (int sort : outside(0, 100)) {
            x.refused(x.type(0, sort));
        }
    }

    /** One argument of T nodes: the type has T + 16. */
    private static void typeBeyondTheNodesOfOne() {
        for (int extra = 0; extra <= 2; extra += 2) {
            Rules x = plain(1);
            due(x.constructor(1, x.binder(6, NONE, x.wide(983 + extra), x.tell("g0"))), 0);
            due(x.size(0), 999 + extra);
            if (extra == 0) {
                due(x.part(x.type(0, 0), 0, 3), 999);
            } else {
                x.refused(x.type(0, 0));
            }
        }
    }

    private static void typeBeyondTheNodesInAll() {
        Rules x = nat();
        x.fill(25);
        due(x.type(0, 100) >= 0 ? 1 : 0, 1);
        x.refused(x.type(0, 100));
        x.refused(x.leaf(2, 0, 0));
        Rules y = nat();
        y.fill(24);
        y.refused(y.type(0, 100));
        due(y.size(0), 25);
        y.fill(0);
        y.refused(y.type(0, 0));
        due(y.size(0), 25);
    }

    // ---- promise 13

    private static void howManyTerms() {
        Rules x = new Rules();
        due(x.terms(), 0);
        due(x.leaf(2, 0, 0), 0);
        due(x.terms(), 1);
        due(x.terms(), 1);
        due(x.apply(0, 0), 1);
        due(x.terms(), 2);
        due(x.binder(6, 0, 0, 0), 2);
        due(x.terms(), 3);
        x.axiom();
        due(x.family(0, 0, 1), 1);
        due(x.terms(), 3);
        due(x.leaf(1, 1, 0), 3);
        due(x.binder(6, 0, 3, 3), 4);
        due(x.constructor(2, 4), 1);
        due(x.terms(), 5);
        x.about(1, 0);
        x.positive(1, 3, 0);
        x.size(1);
        x.part(4, 0, 0);
        due(x.terms(), 5);
        due(x.brings(2, 0), 5);
        due(x.terms(), 6);
        due(x.type(1, 0), 6);
        due(x.terms(), 7);
        x.refused(x.leaf(4, 0, 0));
        x.refused(x.apply(0, 7));
        x.refused(x.binder(6, 100, 0, 0));
        x.refused(x.brings(2, 1));
        x.refused(x.type(1, -1));
        due(x.terms(), 7);
    }

    // ---- promise 14

    private static void partsFromTheLeftToTheRight() {
        Rules x = new Rules();
        int sort = x.leaf(2, 0, 0);
        int left = x.leaf(0, 0, 0);
        int right = left;
        for (int i = 1; i <= 40; i++) {
            left = x.apply(left, sort);
            right = x.binder(6, i, sort, right);
        }
        // To the left the applications come first, to the right every other part is a binder.
        for (int i = 0; i < 40; i++) {
            due(x.part(left, i, 3), 81 - 2 * i);
            due(x.part(right, 2 * i, 3), 81 - 2 * i);
            due(x.part(right, 2 * i, 1), 40 - i);
            due(x.part(right, 2 * i + 1, 0), 2);
        }
        due(x.part(left, 40, 0), 0);
        due(x.part(left, 41, 0), 2);
        due(x.part(left, 80, 0), 2);
        due(x.part(left, 81, 0), NONE);
        due(x.part(right, 80, 0), 0);
        due(x.part(right, 81, 0), NONE);
    }

    private static void numberNameOrNothing() {
        Rules x = plain(0);
        int t = x.tell("@ fun_ v100 s100 all99 g0 all0 r0.100 v0");
        int[] due = {0, NONE, 100, 100, 99, 0, 0, 0, 0};
        for (int i = 0; i < due.length; i++) {
            due(x.part(t, i, 1), due[i]);
        }
        due(x.part(t, due.length, 1), NONE);
    }

    private static void sortOrNothing() {
        Rules x = plain(0);
        int t = x.tell("@ fun7 v100 s100 all99 g0 all_ r0.100 r0.0");
        int[] due = {0, 0, 0, 0, 0, 0, 0, 100, 0};
        for (int i = 0; i < due.length; i++) {
            due(x.part(t, i, 2), due[i]);
        }
        due(x.part(t, due.length, 2), NONE);
    }

    /** Of what comes out likewise: only a rec has a sort there, and keeps it. */
    private static void sortOfWhatComesOut() {
        Rules x = withAlls(2, 1, 1);
        due(x.constructor(1, x.tell("all_ s0 all_ r0.7 @ @ g0 v1 s0")), -2);
        due(x.family(x.tell("all_ s0 all_ s0 s0"), 1, 1), 2);
        due(x.constructor(3, x.tell("all_ s0 all_ all_ r0.77 @ @ g2 v1 s3 @ @ g2 v1 r0.78")), 1);
        int[] made = {x.brings(3, 0), x.type(2, 5)};
        int sorts = 0;
        for (int t : made) {
            for (int i = 0; i < x.nodesOf(t); i++) {
                boolean rec = x.part(t, i, 0) == 3;
                int sort = x.part(t, i, 2);
                due(rec ? Math.min(sort, 77) : sort, rec ? 77 : 0);
                sorts += sort;
            }
        }
        lastCall = "the sum of all part(t, i, 2)";
        due(sorts, 77 + 77 + 77 + 78);
    }

    private static void nodesOfAPart() {
        Rules x = new Rules();
        int t = x.tell("all_ @ s0 fun_ s0 s0 @ @ s0 s0 s0");
        int[] due = {11, 5, 1, 3, 1, 1, 5, 3, 1, 1, 1};
        for (int i = 0; i < due.length; i++) {
            due(x.part(t, i, 3), due[i]);
        }
        due(x.part(t, due.length, 3), NONE);
    }

    private static void noSuchTermOrPart() {
        Rules x = new Rules();
        due(x.part(0, 0, 0), NONE);
        int last = x.tell("@ s1 s2");
        for (int what = 0; what <= 3; what++) {
            for (int t : outside(0, last)) {
                due(x.part(t, 0, what), NONE);
            }
            for (int i : outside(0, 2)) {
                due(x.part(last, i, what), NONE);
            }
            due(x.part(0, 1, what), NONE);
        }
        due(x.part(last, 2, 1), 2);
        due(x.part(0, 0, 1), 1);
    }

    private static void whatIsNoneOfThese() {
        Rules x = new Rules();
        int t = x.tell("@ s1 s2");
        for (int i = 0; i <= 3; i++) {
            for (int what : outside(0, 3)) {
                due(x.part(t, i, what), NONE);
            }
        }
    }

    private static void beforeThePromises() {
        test(0, "public static final int NONE = -1;", FamilyRulesSentences::noneItself);
        test(0, "An object is used for at most 512 calls after it has been made", FamilyRulesSentences::theLastCall);
        test(0, "what later calls answer is free", FamilyRulesSentences::behindTheLastCall);
        test(0, "variable 0 is bound by the innermost binder around it, and so on",
                FamilyRulesSentences::boundByTheInnermost);
        test(0, "one for which there are not so many binders in a term is LOOSE in it",
                FamilyRulesSentences::aHundredBinders);
        test(0, "the second part lies under it as a binder, the first one does not",
                FamilyRulesSentences::theFirstPartLiesOutside);
        test(0, "A term's NODES are it and those of its parts, nothing being shared.",
                FamilyRulesSentences::nothingIsShared);
        test(0, "GLOBALS are numbered from 0, at most 100.", FamilyRulesSentences::globalsAreAHundred);
        test(6, "some CONSTRUCTORS, which are the globals behind it", FamilyRulesSentences::theGlobalsBehindAFamily);
        test(7, "the types of the first P alls are not asked, they need not be those of the family's",
                FamilyRulesSentences::parameterTypesAreNotAsked);
        test(9, "Y alls, one under the other (Y may be 0)", FamilyRulesSentences::ysMayBeNone);
        test(9, "under these the family put to P + I terms, the first P being the variables of the P parameters",
                FamilyRulesSentences::putToAllItsTerms);
        test(9, "the family is not in it (not in a rec of the family either)", FamilyRulesSentences::notInARecEither);
        test(9, "the family is in none of the types of the Y alls and in none of the JS",
                FamilyRulesSentences::inNoYAndNoJ);
        test(7, "All arguments of a constructor must be positive", FamilyRulesSentences::allMustBePositive);
        test(7, "of its RESULT's indices, and of the types of the first P alls, nothing is asked (the family may be in them)",
                FamilyRulesSentences::familyInResultAndParameters);
        test(0, "Terms are numbered from 0 as they are told or come out, equal or not",
                FamilyRulesSentences::countedAsTheyComeOut);
        test(0, "at most 1500", FamilyRulesSentences::termsAreFifteenHundred);
        test(0, "each with at most 1000 nodes", FamilyRulesSentences::nodesOfOneTerm);
        test(0, "at most 30000 nodes in all", FamilyRulesSentences::nodesInAll);
        test(0, "at most 30000 nodes in all", FamilyRulesSentences::refusedTermsTakeNoNodes);
    }

    private static void promisesOneToFive() {
        test(1, "No terms, no globals.", FamilyRulesSentences::nothingThere);
        test(1, "No terms, no globals.", FamilyRulesSentences::objectsAreApart);
        test(2, "A term of kind 0 to 3: its number.", FamilyRulesSentences::kindsOfALeaf);
        test(2, "a variable or a sort is not 0 .. 100", FamilyRulesSentences::variableOrSort);
        test(2, "there is no such global", FamilyRulesSentences::noSuchGlobal);
        test(2, "(for rec: family)", FamilyRulesSentences::recOfAFamilyOnly);
        test(2, "b is not 0 .. 100 for rec (its sort)", FamilyRulesSentences::sortOfARec);
        test(2, "or not 0 for the others", FamilyRulesSentences::nothingBehindTheOthers);
        test(2, "another kind, or beyond the limits", FamilyRulesSentences::noLeafOfAnotherKind);
        test(2, "or beyond the limits", FamilyRulesSentences::leafBeyondTheLimits);
        test(3, "The application of a to b.", FamilyRulesSentences::theApplication);
        test(3, "NONE, refused: there is no such term", FamilyRulesSentences::applyOfNoTerm);
        test(3, "there is no such term, or beyond the limits", FamilyRulesSentences::applyBeyondTheLimits);
        test(4, "A term of kind 5 or 6.", FamilyRulesSentences::theTwoBinders);
        test(4, "NONE, refused, likewise", FamilyRulesSentences::binderOfNoTerm);
        test(4, "NONE, refused, likewise", FamilyRulesSentences::binderBeyondTheLimits);
        test(4, "or for another kind", FamilyRulesSentences::binderOfAnotherKind);
        test(4, "or a name that is none", FamilyRulesSentences::names);
        test(4, "a NAME (0 .. 99, or NONE)", FamilyRulesSentences::names);
        test(5, "A global that is no family: its number.", FamilyRulesSentences::noFamily);
        test(5, "NONE when there are 100.", FamilyRulesSentences::aHundredAxioms);
        test(5, "A global that is no family: its number.", FamilyRulesSentences::globalsWithoutNodes);
    }

    private static void promisesSixToEight() {
        test(6, "A family with a type, P parameters and some constructors: its number.",
                FamilyRulesSentences::theSmallestFamilies);
        test(6, "P + I alls, one under the other, and under these a sort", FamilyRulesSentences::manyParameters);
        test(6, "there is no such term, it is not closed, it is not alls", FamilyRulesSentences::familyOfNoTerm);
        test(6, "it is not closed, it is not alls and a sort", FamilyRulesSentences::familyNotClosed);
        test(6, "it is not alls and a sort under them", FamilyRulesSentences::noAllsAndASort);
        test(6, "there are less than P alls", FamilyRulesSentences::lessThanPAlls);
        test(6, "P is below 0", FamilyRulesSentences::parametersBelowNone);
        test(6, "constructors are not 0 .. 12", FamilyRulesSentences::constructorsOutOfRange);
        test(6, "or there would be more than 100 globals", FamilyRulesSentences::moreThanAHundredGlobals);
        test(7, "Tells a constructor's type: how many arguments are recursive.",
                FamilyRulesSentences::howManyAreRecursive);
        test(7, "it has N ARGUMENTS, told by the alls behind the first P", FamilyRulesSentences::aHundredArguments);
        test(7, "g is no constructor", FamilyRulesSentences::gIsNoConstructor);
        test(7, "its type was told", FamilyRulesSentences::typeWasTold);
        test(7, "A CONSTRUCTOR's type is told later, once", FamilyRulesSentences::typeWasTold);
        test(7, "there is no such term, it is not closed, or no type", FamilyRulesSentences::constructorOfNoTerm);
        test(7, "it is not closed, or no type of that constructor", FamilyRulesSentences::constructorNotClosed);
        test(7, "or no type of that constructor", FamilyRulesSentences::noTypeOfThatConstructor);
        test(7, "-2 less the number of the first argument, from 0, that is not positive (-2 for number 0, -3 for 1, ..), refused.",
                FamilyRulesSentences::firstThatIsNotPositive);
        test(7, "the first P being the variables of the P parameters", FamilyRulesSentences::withTheVariablesOfItsParameters);
        test(8, "what = 0: 0 for an axiom, 3 for a family, 4 for a constructor", () -> aboutEach(0, 0, 3, 4, 4, 3, NONE));
        test(8, "1 parameters (of a constructor those of its family)", () -> aboutEach(1, 0, 2, 2, 2, 0, NONE));
        test(8, "2 indices of a family, arguments of a constructor (NONE when it was not told)",
                FamilyRulesSentences::argumentsNotTold);
        test(8, "3 constructors of a family, of a constructor which one it is, from 0",
                FamilyRulesSentences::whichConstructor);
        test(8, "0 for an axiom. NONE", FamilyRulesSentences::zeroForAnAxiom);
        test(8, "NONE when there is none such, or what is none of these.", FamilyRulesSentences::aboutNoneSuch);
    }

    private static void promisesNineAndTen() {
        test(9, "parameter k, from 0, being loose variable arguments + P - 1 - k",
                FamilyRulesSentences::parametersAmongTheLoose);
        test(9, "parameter k, from 0, being loose variable arguments + P - 1 - k",
                FamilyRulesSentences::parametersUpToTheGreatestVariable);
        test(9, "(others may be loose, too)", FamilyRulesSentences::othersMayBeLoose);
        test(9, "2 when it is recursive and positive, 1 when the family is not in it, 0 otherwise",
                FamilyRulesSentences::twoOneAndNothing);
        test(9, "NONE when there is no such family or term", FamilyRulesSentences::noSuchFamilyOrTerm);
        test(9, "or arguments are not 0 .. 100", FamilyRulesSentences::argumentsOutOfRange);
        test(10, "What recursive argument k, from 0 among those, of a constructor brings",
                FamilyRulesSentences::countedAmongTheRecursive);
        test(10, "these under what they lie under there, lifted by the one argument that is between",
                FamilyRulesSentences::liftedByTheOneBetween);
        test(10, "under these Q put to the JS, and then to the argument put to the YS",
                FamilyRulesSentences::bringsOfTheSmallest);
        test(10, "from the greatest number down: Q; the parameters, in order; the arguments up to this one, in order",
                FamilyRulesSentences::bringsBeyondVariableHundred);
        test(10, "NONE when there is none such", FamilyRulesSentences::noneSuchToBring);
        test(10, "NONE when there is none such, or beyond the limits.", FamilyRulesSentences::bringsBeyondTheNodesOfOne);
        test(10, "NONE when there is none such, or beyond the limits.", FamilyRulesSentences::bringsBeyondTheNodesInAll);
    }

    private static void promisesElevenToFourteen() {
        test(11, "How many nodes the type of a rec of a family has", FamilyRulesSentences::sizeBeyondTheLimits);
        test(11, "How many nodes the type of a rec of a family has", FamilyRulesSentences::sizeIsThatOfTheType);
        test(11, "NONE when there is no such family", FamilyRulesSentences::noSuchFamily);
        test(11, "or not all its constructors were told", FamilyRulesSentences::notAllWereTold);
        test(12, "THE TYPE OF A REC of a family D into a sort s", FamilyRulesSentences::typeOfTheEmptiest);
        test(12, "for each constructor c, in order, all without a name", FamilyRulesSentences::typeOfTwelve);
        test(12, "All variables mean there what they meant.", FamilyRulesSentences::variablesMeanWhatTheyMeant);
        test(12, "All variables mean there what they meant.", FamilyRulesSentences::variablesBehindWhatIsBrought);
        test(12, "All variables mean there what they meant.", FamilyRulesSentences::typeBeyondVariableHundred);
        test(12, "NONE, refused: as for size()", FamilyRulesSentences::typeAsForSize);
        test(12, "the sort is not 0 .. 100", FamilyRulesSentences::sortOfAType);
        test(12, "the sort is not 0 .. 100, or beyond the limits.", FamilyRulesSentences::typeBeyondTheNodesOfOne);
        test(12, "the sort is not 0 .. 100, or beyond the limits.", FamilyRulesSentences::typeBeyondTheNodesInAll);
        test(13, "How many terms there are.", FamilyRulesSentences::howManyTerms);
        test(14, "each part is counted before its own parts, and these from the left to the right",
                FamilyRulesSentences::partsFromTheLeftToTheRight);
        test(14, "1 its number (of a binder its name, of 4 0)", FamilyRulesSentences::numberNameOrNothing);
        test(14, "2 of rec its sort, 0 for others", FamilyRulesSentences::sortOrNothing);
        test(14, "2 of rec its sort, 0 for others", FamilyRulesSentences::sortOfWhatComesOut);
        test(14, "3 how many nodes it has", FamilyRulesSentences::nodesOfAPart);
        test(14, "NONE when there is no such term or part", FamilyRulesSentences::noSuchTermOrPart);
        test(14, "or what is none of these.", FamilyRulesSentences::whatIsNoneOfThese);
    }

    private static void lookForTheWords(String path) throws java.io.IOException {
        String document = Files.readString(Path.of(path));
        for (String words : QUOTES) {
            heading = "the words \"" + words + "\"";
            if (!document.contains(words)) {
                tellWrong("are not in " + path);
            }
        }
    }

    public static void main(String[] args) throws java.io.IOException {
        beforeThePromises();
        promisesOneToFive();
        promisesSixToEight();
        promisesNineAndTen();
        promisesElevenToFourteen();
        if (args.length > 0) {
            lookForTheWords(args[0]);
        }
        System.out.println(wrong == 0 ? "all answers are as due" : wrong + " answers are not as due");
        if (wrong != 0) {
            System.exit(1);
        }
    }
}
