import java.util.ArrayList;
import java.util.HashMap;
import java.util.HashSet;
import java.util.List;
import java.util.Map;
import java.util.Set;

/**
 * Many runs against a second telling of the document that shares nothing with the class: here a
 * variable is an object that its binder owns, so that nothing is ever lifted, and numbers are found
 * only at the end. Runs are drawn from a fixed seed and keep to 512 calls for each object.
 */
public final class FamilyRulesModel {
    private static final int NONE = -1;
    private static final int MOST_CALLS = 512;

    private static int wrong = 0;

    // ---- trees with numbered variables, as they are told

    private static final class Tree {
        final int kind, number, sort, nodes;
        final Tree left, right;

        Tree(int kind, int number, int sort, Tree left, Tree right) {
            this.kind = kind;
            this.number = number;
            this.sort = sort;
            this.left = left;
            this.right = right;
            this.nodes = 1 + (left == null ? 0 : left.nodes) + (right == null ? 0 : right.nodes);
        }

        void list(List<Tree> into) {
            into.add(this);
            if (left != null) {
                left.list(into);
                right.list(into);
            }
        }

        boolean closedUnder(int binders) {
            if (kind == 0) {
                return number < binders;
            }
            return left == null || left.closedUnder(binders) && right.closedUnder(kind == 4 ? binders : binders + 1);
        }
    }

    // ---- trees with variables that are objects

    private static final class Var {
    }

    private static final class Named {
        final int kind, number, sort;
        final Var var;
        final Named left, right;

        Named(int kind, int number, int sort, Var var, Named left, Named right) {
            this.kind = kind;
            this.number = number;
            this.sort = sort;
            this.var = var;
            this.left = left;
            this.right = right;
        }

        boolean has(int g) {
            if (kind == 1 || kind == 3) {
                return number == g;
            }
            return left != null && (left.has(g) || right.has(g));
        }
    }

    private static Named use(Var v) {
        return new Named(0, 0, 0, v, null, null);
    }

    private static Named global(int g) {
        return new Named(1, g, 0, null, null, null);
    }

    private static Named put(Named f, List<Named> to) {
        for (Named a : to) {
            f = new Named(4, 0, 0, null, f, a);
        }
        return f;
    }

    private static Named put(Named f, Named a) {
        return new Named(4, 0, 0, null, f, a);
    }

    private static List<Named> uses(List<Bound> row) {
        List<Named> out = new ArrayList<>();
        for (Bound b : row) {
            out.add(use(b.var));
        }
        return out;
    }

    /** The scope's last variable is the innermost one. */
    private static Named name(Tree t, List<Var> scope) {
        if (t.kind == 0) {
            return use(scope.get(scope.size() - 1 - t.number));
        }
        if (t.left == null) {
            return new Named(t.kind, t.number, t.sort, null, null, null);
        }
        Named left = name(t.left, scope);
        if (t.kind == 4) {
            return new Named(4, 0, 0, null, left, name(t.right, scope));
        }
        Var v = new Var();
        scope.add(v);
        Named right = name(t.right, scope);
        scope.remove(scope.size() - 1);
        return new Named(t.kind, t.number, 0, v, left, right);
    }

    private static Tree unname(Named t, List<Var> scope) {
        if (t.kind == 0) {
            return new Tree(0, scope.size() - 1 - scope.lastIndexOf(t.var), 0, null, null);
        }
        if (t.left == null) {
            return new Tree(t.kind, t.number, t.sort, null, null);
        }
        Tree left = unname(t.left, scope);
        if (t.kind == 4) {
            return new Tree(4, 0, 0, left, unname(t.right, scope));
        }
        scope.add(t.var);
        Tree right = unname(t.right, scope);
        scope.remove(scope.size() - 1);
        return new Tree(t.kind, t.number, 0, left, right);
    }

    private static final class Bound {
        final int name;
        final Var var;
        final Named type;

        Bound(int name, Var var, Named type) {
            this.name = name;
            this.var = var;
            this.type = type;
        }
    }

    private static Named bind(int kind, List<Bound> row, Named under) {
        for (int i = row.size() - 1; i >= 0; i--) {
            Bound b = row.get(i);
            under = new Named(kind, b.name, 0, b.var, b.type, under);
        }
        return under;
    }

    /** A term as alls, a head and what it is put to. */
    private static final class Split {
        final List<Bound> alls = new ArrayList<>();
        final List<Named> to = new ArrayList<>();
        Named head;

        Split(Named t) {
            while (t.kind == 6) {
                alls.add(new Bound(t.number, t.var, t.left));
                t = t.right;
            }
            while (t.kind == 4) {
                to.add(0, t.right);
                t = t.left;
            }
            head = t;
        }
    }

    // ---- the second telling

    private static final class Glob {
        int role, parameters, indices, rank, number;
        Glob family;
        List<Glob> constructors = new ArrayList<>();
        Tree told;
        int arguments = NONE;
        List<Integer> recursive = new ArrayList<>();
    }

    private static final class Model {
        final List<Tree> terms = new ArrayList<>();
        final List<Glob> globals = new ArrayList<>();
        int nodesInAll = 0;

        Tree term(int t) {
            return t >= 0 && t < terms.size() ? terms.get(t) : null;
        }

        Glob glob(int g, int role) {
            return g >= 0 && g < globals.size() && globals.get(g).role == role ? globals.get(g) : null;
        }

        int keep(Tree t) {
            if (terms.size() >= 1500 || t.nodes > 1000 || nodesInAll + t.nodes > 30000) {
                return NONE;
            }
            nodesInAll += t.nodes;
            terms.add(t);
            return terms.size() - 1;
        }

        int leaf(int kind, int a, int b) {
            boolean small = a >= 0 && a <= 100;
            boolean fine = (kind == 0 || kind == 2) && small && b == 0
                    || kind == 1 && a >= 0 && a < globals.size() && b == 0
                    || kind == 3 && glob(a, 3) != null && b >= 0 && b <= 100;
            return fine ? keep(new Tree(kind, a, b, null, null)) : NONE;
        }

        int apply(int a, int b) {
            return term(a) == null || term(b) == null ? NONE : keep(new Tree(4, 0, 0, term(a), term(b)));
        }

        int binder(int kind, int name, int a, int b) {
            boolean fine = (kind == 5 || kind == 6) && name >= -1 && name <= 99 && term(a) != null && term(b) != null;
            return fine ? keep(new Tree(kind, name, 0, term(a), term(b))) : NONE;
        }

        int axiom() {
            if (globals.size() >= 100) {
                return NONE;
            }
            globals.add(new Glob());
            return globals.size() - 1;
        }

        int family(int t, int parameters, int constructors) {
            Tree told = term(t);
            if (told == null || !told.closedUnder(0) || constructors < 0 || constructors > 12
                    || globals.size() + 1 + constructors > 100) {
                return NONE;
            }
            int alls = 0;
            Tree under = told;
            while (under.kind == 6) {
                under = under.right;
                alls++;
            }
            if (under.kind != 2 || parameters < 0 || parameters > alls) {
                return NONE;
            }
            Glob family = new Glob();
            family.role = 3;
            family.parameters = parameters;
            family.indices = alls - parameters;
            family.rank = constructors;
            family.told = told;
            family.number = globals.size();
            globals.add(family);
            for (int i = 0; i < constructors; i++) {
                Glob c = new Glob();
                c.role = 4;
                c.parameters = parameters;
                c.rank = i;
                c.family = family;
                c.number = globals.size();
                family.constructors.add(c);
                globals.add(c);
            }
            return family.number;
        }

        boolean isPut(Glob family, Split s, List<Var> parameters) {
            if (s.head.kind != 1 || s.head.number != family.number
                    || s.to.size() != family.parameters + family.indices) {
                return false;
            }
            for (int k = 0; k < family.parameters; k++) {
                if (s.to.get(k).kind != 0 || s.to.get(k).var != parameters.get(k)) {
                    return false;
                }
            }
            return true;
        }

        int standing(Glob family, Named type, List<Var> parameters) {
            if (!type.has(family.number)) {
                return 1;
            }
            Split s = new Split(type);
            if (!isPut(family, s, parameters)) {
                return 0;
            }
            for (Bound y : s.alls) {
                if (y.type.has(family.number)) {
                    return 0;
                }
            }
            for (Named j : s.to.subList(family.parameters, s.to.size())) {
                if (j.has(family.number)) {
                    return 0;
                }
            }
            return 2;
        }

        static List<Var> vars(List<Bound> row) {
            List<Var> out = new ArrayList<>();
            for (Bound b : row) {
                out.add(b.var);
            }
            return out;
        }

        int constructor(int g, int t) {
            Glob c = glob(g, 4);
            Tree told = term(t);
            if (c == null || c.told != null || told == null || !told.closedUnder(0)) {
                return NONE;
            }
            Split s = new Split(name(told, new ArrayList<>()));
            int p = c.parameters;
            if (s.alls.size() < p || !isPut(c.family, s, vars(s.alls))) {
                return NONE;
            }
            List<Integer> recursive = new ArrayList<>();
            for (int j = 0; p + j < s.alls.size(); j++) {
                int standing = standing(c.family, s.alls.get(p + j).type, vars(s.alls));
                if (standing == 0) {
                    return -2 - j;
                }
                if (standing == 2) {
                    recursive.add(j);
                }
            }
            c.told = told;
            c.arguments = s.alls.size() - p;
            c.recursive = recursive;
            return recursive.size();
        }

        int about(int g, int what) {
            if (g < 0 || g >= globals.size() || what < 0 || what > 3) {
                return NONE;
            }
            Glob found = globals.get(g);
            int second = found.role == 4 ? found.arguments : found.indices;
            return new int[] {found.role, found.parameters, second, found.rank}[what];
        }

        int positive(int g, int t, int arguments) {
            Glob family = glob(g, 3);
            if (family == null || term(t) == null || arguments < 0 || arguments > 100) {
                return NONE;
            }
            List<Var> scope = new ArrayList<>();
            for (int i = 0; i < 3000; i++) {
                scope.add(new Var());
            }
            List<Var> parameters = new ArrayList<>();
            for (int k = 0; k < family.parameters; k++) {
                parameters.add(scope.get(scope.size() - 1 - (arguments + family.parameters - 1 - k)));
            }
            return standing(family, name(term(t), scope), parameters);
        }

        Named brought(int kind, Glob family, Named q, Bound argument) {
            Split s = new Split(argument.type);
            List<Named> js = s.to.subList(family.parameters, s.to.size());
            return bind(kind, s.alls, put(put(q, js), put(use(argument.var), uses(s.alls))));
        }

        int brings(int g, int k) {
            Glob c = glob(g, 4);
            if (c == null || c.told == null || k < 0 || k >= c.recursive.size()) {
                return NONE;
            }
            Split s = new Split(name(c.told, new ArrayList<>()));
            int last = c.parameters + c.recursive.get(k);
            Var q = new Var();
            List<Var> scope = new ArrayList<>();
            scope.add(q);
            scope.addAll(vars(s.alls).subList(0, last + 1));
            return keep(unname(brought(5, c.family, use(q), s.alls.get(last)), scope));
        }

        /** The constructor's own parameters become those of the family. */
        Split argumentsOf(Glob c, List<Var> parameters) {
            Tree t = c.told;
            for (int i = 0; i < c.parameters; i++) {
                t = t.right;
            }
            return new Split(name(t, new ArrayList<>(parameters)));
        }

        Tree recType(int g, int sort) {
            Glob d = glob(g, 3);
            if (d == null) {
                return null;
            }
            Split s = new Split(name(d.told, new ArrayList<>()));
            List<Bound> parameters = s.alls.subList(0, d.parameters);
            List<Bound> indices = s.alls.subList(d.parameters, s.alls.size());
            Named self = put(put(global(g), uses(parameters)), uses(indices));
            Var m = new Var();
            List<Bound> row = new ArrayList<>(parameters);
            List<Bound> one = new ArrayList<>(indices);
            one.add(new Bound(NONE, new Var(), self));
            row.add(new Bound(98, m, bind(6, one, new Named(2, sort, 0, null, null, null))));
            for (Glob c : d.constructors) {
                if (c.told == null) {
                    return null;
                }
                Split a = argumentsOf(c, vars(parameters));
                List<Bound> inner = new ArrayList<>(a.alls);
                for (int j : c.recursive) {
                    inner.add(new Bound(NONE, new Var(), brought(6, d, use(m), a.alls.get(j))));
                }
                Named made = put(put(global(c.number), uses(parameters)), uses(a.alls));
                Named end = put(put(use(m), a.to.subList(d.parameters, a.to.size())), made);
                row.add(new Bound(NONE, new Var(), bind(6, inner, end)));
            }
            row.addAll(indices);
            Var x = new Var();
            row.add(new Bound(99, x, self));
            return unname(bind(6, row, put(put(use(m), uses(indices)), use(x))), new ArrayList<>());
        }

        int size(int g) {
            Tree made = recType(g, 0);
            return made == null ? NONE : made.nodes;
        }

        int type(int g, int sort) {
            Tree made = recType(g, sort);
            return made == null || sort < 0 || sort > 100 ? NONE : keep(made);
        }

        int part(int t, int i, int what) {
            if (term(t) == null || i < 0 || i >= term(t).nodes || what < 0 || what > 3) {
                return NONE;
            }
            List<Tree> parts = new ArrayList<>();
            term(t).list(parts);
            Tree part = parts.get(i);
            return new int[] {part.kind, part.number, part.sort, part.nodes}[what];
        }

        int answer(int[] c) {
            switch (c[0]) {
                case 0: return leaf(c[1], c[2], c[3]);
                case 1: return apply(c[1], c[2]);
                case 2: return binder(c[1], c[2], c[3], c[4]);
                case 3: return axiom();
                case 4: return family(c[1], c[2], c[3]);
                case 5: return constructor(c[1], c[2]);
                case 6: return about(c[1], c[2]);
                case 7: return positive(c[1], c[2], c[3]);
                case 8: return brings(c[1], c[2]);
                case 9: return size(c[1]);
                case 10: return type(c[1], c[2]);
                case 11: return terms.size();
                default: return part(c[1], c[2], c[3]);
            }
        }
    }

    private static int answer(FamilyRules x, int[] c) {
        switch (c[0]) {
            case 0: return x.leaf(c[1], c[2], c[3]);
            case 1: return x.apply(c[1], c[2]);
            case 2: return x.binder(c[1], c[2], c[3], c[4]);
            case 3: return x.axiom();
            case 4: return x.family(c[1], c[2], c[3]);
            case 5: return x.constructor(c[1], c[2]);
            case 6: return x.about(c[1], c[2]);
            case 7: return x.positive(c[1], c[2], c[3]);
            case 8: return x.brings(c[1], c[2]);
            case 9: return x.size(c[1]);
            case 10: return x.type(c[1], c[2]);
            case 11: return x.terms();
            default: return x.part(c[1], c[2], c[3]);
        }
    }

    private static final String[] NAMES = {
        "leaf", "apply", "binder", "axiom", "family", "constructor", "about", "positive", "brings", "size", "type",
        "terms", "part"
    };
    private static final int[] ARITIES = {3, 2, 4, 0, 3, 2, 2, 3, 2, 1, 2, 0, 3};

    // ---- a run: calls on both, then every part of the terms that came out, on objects made anew

    private static final class Run {
        final int seed;
        final Draw draw;
        final Model model = new Model();
        final FamilyRules rules = new FamilyRules();
        final List<int[]> calls = new ArrayList<>();
        final Map<String, Integer> toldBefore = new HashMap<>();
        final Set<Integer> cameOut = new HashSet<>();

        Run(int seed) {
            this.seed = seed;
            this.draw = new Draw(seed);
        }

        boolean hasCalls() {
            return calls.size() < MOST_CALLS - 150;
        }

        int call(int... c) {
            int[] padded = java.util.Arrays.copyOf(c, 5);
            if (calls.size() >= MOST_CALLS) {
                return NONE;
            }
            calls.add(padded);
            int want = model.answer(padded);
            check(rules, padded, want);
            if ((c[0] == 8 || c[0] == 10) && want >= 0) {
                cameOut.add(want);
            }
            SEEN[c[0]][want < -1 ? 0 : want == -1 ? 1 : 2]++;
            return want;
        }

        void check(FamilyRules x, int[] c, int want) {
            int got = answer(x, c);
            if (got != want) {
                wrong++;
                if (wrong <= 20) {
                    StringBuilder text = new StringBuilder(NAMES[c[0]]);
                    for (int i = 1; i <= ARITIES[c[0]]; i++) {
                        text.append(i == 1 ? "(" : ", ").append(c[i]);
                    }
                    System.out.println("run " + seed + ", call " + calls.size() + ": " + text + ") answered " + got
                            + ", due is " + want);
                }
            }
        }

        void checkParts() {
            List<int[]> due = new ArrayList<>();
            for (int t : cameOut) {
                List<Tree> parts = new ArrayList<>();
                model.terms.get(t).list(parts);
                for (int i = 0; i < parts.size(); i++) {
                    Tree part = parts.get(i);
                    due.add(new int[] {t, i, 0, part.kind});
                    due.add(new int[] {t, i, 1, part.number});
                    due.add(new int[] {t, i, 2, part.sort});
                    due.add(new int[] {t, i, 3, part.nodes});
                }
                due.add(new int[] {t, parts.size(), 0, NONE});
            }
            int room = MOST_CALLS - calls.size();
            for (int from = 0; room > 0 && from < due.size(); from += room) {
                FamilyRules x = new FamilyRules();
                for (int[] c : calls) {
                    answer(x, c);
                }
                for (int[] row : due.subList(from, Math.min(from + room, due.size()))) {
                    check(x, new int[] {12, row[0], row[1], row[2], 0}, row[3]);
                }
            }
        }

        /** Tells a tree, and each tree that is the same as one before not again. */
        int tell(Tree t) {
            String text = text(t);
            Integer before = toldBefore.get(text);
            if (before != null) {
                return before;
            }
            int told;
            if (t.left == null) {
                told = call(0, t.kind, t.number, t.sort);
            } else {
                int left = tell(t.left);
                int right = tell(t.right);
                told = t.kind == 4 ? call(1, left, right) : call(2, t.kind, t.number, left, right);
            }
            toldBefore.put(text, told);
            return told;
        }

        static String text(Tree t) {
            String own = t.kind + "." + t.number + "." + t.sort;
            return t.left == null ? own : own + "(" + text(t.left) + "," + text(t.right) + ")";
        }
    }

    private static final int[][] SEEN = new int[NAMES.length][3];

    /** A fixed row of numbers, so that every run can be had again. */
    private static final class Draw {
        private long state;

        Draw(int seed) {
            state = seed * 0x9E3779B97F4A7C15L + 12345;
        }

        int below(int n) {
            state = state * 6364136223846793005L + 1442695040888963407L;
            return (int) ((state >>> 33) % n);
        }

        boolean oneIn(int n) {
            return below(n) == 0;
        }
    }

    // ---- what a run draws

    private static Tree leafTree(int kind, int number) {
        return new Tree(kind, number, 0, null, null);
    }

    private static Tree apply(Tree f, Tree a) {
        return new Tree(4, 0, 0, f, a);
    }

    private static int drawName(Draw draw) {
        return draw.oneIn(4) ? NONE : draw.below(100);
    }

    private static Tree drawTerm(Run run, int binders, int depth, int avoid) {
        Draw draw = run.draw;
        int kind = draw.below(depth > 0 ? 9 : 4);
        if (kind >= 4) {
            int joint = 4 + draw.below(3);
            Tree left = drawTerm(run, binders, depth - 1, avoid);
            Tree right = drawTerm(run, joint == 4 ? binders : binders + 1, depth - 1, avoid);
            return new Tree(joint, joint == 4 ? 0 : drawName(draw), 0, left, right);
        }
        if (kind >= 2 && !run.model.globals.isEmpty()) {
            int g = draw.below(run.model.globals.size());
            boolean rec = kind == 3 && run.model.glob(g, 3) != null;
            if (g != avoid) {
                return new Tree(rec ? 3 : 1, g, rec ? draw.below(101) : 0, null, null);
            }
        }
        if (kind != 0 && binders > 0) {
            return leafTree(0, draw.oneIn(120) ? binders : draw.below(binders));
        }
        return leafTree(2, draw.below(101));
    }

    private static Tree drawPut(Run run, Glob family, int binders, int inside, int avoid) {
        Draw draw = run.draw;
        Tree out = leafTree(1, family.number);
        int terms = family.parameters + family.indices;
        terms += draw.oneIn(60) ? 1 : draw.oneIn(60) && terms > 0 ? -1 : 0;
        for (int k = 0; k < terms; k++) {
            boolean parameter = k < family.parameters && !draw.oneIn(80);
            out = apply(out, parameter ? leafTree(0, binders + inside - 1 - k)
                    : drawTerm(run, binders + inside, draw.below(3), avoid));
        }
        return out;
    }

    private static Tree drawArgument(Run run, Glob family, int binders) {
        Draw draw = run.draw;
        int avoid = draw.oneIn(25) ? NONE : family.number;
        if (draw.oneIn(3)) {
            return drawTerm(run, binders, draw.below(4), avoid);
        }
        int ys = draw.oneIn(2) ? 0 : draw.below(4);
        List<Tree> types = new ArrayList<>();
        for (int y = 0; y < ys; y++) {
            types.add(drawTerm(run, binders + y, draw.below(3), avoid));
        }
        Tree out = drawPut(run, family, binders, ys, avoid);
        for (int y = ys - 1; y >= 0; y--) {
            out = new Tree(6, drawName(draw), 0, types.get(y), out);
        }
        return out;
    }

    private static Tree drawConstructor(Run run, Glob family) {
        Draw draw = run.draw;
        int arguments = draw.below(5);
        List<Tree> types = new ArrayList<>();
        for (int k = 0; k < family.parameters; k++) {
            types.add(drawTerm(run, k, draw.below(2), NONE));
        }
        for (int j = 0; j < arguments; j++) {
            types.add(drawArgument(run, family, family.parameters + j));
        }
        Tree out = drawPut(run, family, types.size(), 0, NONE);
        for (int i = types.size() - 1; i >= 0; i--) {
            out = new Tree(6, drawName(draw), 0, types.get(i), out);
        }
        return out;
    }

    private static Glob drawFamily(Run run) {
        Draw draw = run.draw;
        int alls = draw.below(5);
        List<Tree> types = new ArrayList<>();
        for (int i = 0; i < alls; i++) {
            types.add(drawTerm(run, i, draw.below(3), NONE));
        }
        Tree out = leafTree(2, draw.below(101));
        for (int i = alls - 1; i >= 0; i--) {
            out = new Tree(6, drawName(draw), 0, types.get(i), out);
        }
        int parameters = draw.oneIn(30) ? alls + 1 : draw.below(alls + 1);
        return run.model.glob(run.call(4, run.tell(out), parameters, draw.below(4)), 3);
    }

    private static void familyRun(Run run) {
        Draw draw = run.draw;
        for (int f = 0; f < 4 && run.hasCalls(); f++) {
            if (draw.oneIn(3)) {
                run.call(3);
            }
            Glob family = drawFamily(run);
            if (family == null) {
                continue;
            }
            for (Glob c : family.constructors) {
                for (int attempt = 0; attempt < 4 && c.told == null && run.hasCalls(); attempt++) {
                    run.call(5, c.number, run.tell(drawConstructor(run, family)));
                }
                for (int k = 0; k <= c.recursive.size() && run.hasCalls(); k++) {
                    run.call(8, c.number, k);
                }
                run.call(6, c.number, draw.below(5));
            }
            for (int i = 0; i < 3 && run.hasCalls(); i++) {
                int arguments = draw.below(4);
                Tree t = drawArgument(run, family, family.parameters + arguments);
                run.call(7, family.number, run.tell(t), draw.oneIn(8) ? draw.below(5) : arguments);
            }
            run.call(9, family.number);
            run.call(10, family.number, draw.below(102));
        }
        run.checkParts();
    }

    private static final int[] EDGES = {
        Integer.MIN_VALUE, -100, -2, -1, 0, 0, 1, 2, 3, 4, 5, 6, 7, 12, 13, 99, 100, 101, 999, 1500, 30000, Integer.MAX_VALUE
    };

    private static int drawAny(Run run) {
        Draw draw = run.draw;
        return draw.oneIn(4) ? EDGES[draw.below(EDGES.length)]
                : draw.oneIn(2) ? draw.below(7) : draw.below(run.model.terms.size() + 2);
    }

    private static void anyRun(Run run) {
        for (int i = 0; i < MOST_CALLS; i++) {
            run.call(run.draw.below(NAMES.length), drawAny(run), drawAny(run), drawAny(run), drawAny(run));
        }
    }

    /** Terms that grow up to the limits, with families behind them. */
    private static void wideRun(Run run) {
        Draw draw = run.draw;
        run.call(0, 2, 0, 0);
        run.call(4, 0, 0, 2);
        run.call(0, 1, 0, 0);
        run.call(0, 0, 0, 0);
        int chain = 1;
        for (int i = 0; i < 90; i++) {
            int type = draw.oneIn(3) ? 1 : draw.oneIn(2) ? 0 : draw.below(Math.min(run.model.terms.size(), 20));
            int next = run.call(2, 6, drawName(draw), type, chain);
            chain = next < 0 ? chain : next;
            if (draw.oneIn(20)) {
                run.call(5, 1 + draw.below(2), chain);
            }
        }
        run.call(5, 1, chain);
        run.call(5, 2, 1);
        for (int k = 0; k < 20; k++) {
            run.call(8, 1 + draw.below(2), draw.below(60));
            run.call(9, 0);
            run.call(10, 0, 3);
        }
        while (run.calls.size() < MOST_CALLS - 100) {
            int terms = run.model.terms.size();
            int a = Math.max(0, terms - 1 - draw.below(8));
            run.call(draw.oneIn(2) ? new int[] {1, a, draw.below(terms)} : new int[] {2, 5, 0, draw.below(terms), a});
            run.call(draw.oneIn(2) ? 9 : 11, 0);
        }
        run.checkParts();
    }

    public static void main(String[] args) {
        for (int seed = 0; seed < 3000; seed++) {
            familyRun(new Run(seed));
        }
        for (int seed = 3000; seed < 3400; seed++) {
            anyRun(new Run(seed));
        }
        for (int seed = 3400; seed < 3700; seed++) {
            wideRun(new Run(seed));
        }
        for (int i = 0; args.length > 0 && i < NAMES.length; i++) {
            System.out.println(NAMES[i] + ": " + SEEN[i][2] + " answered, " + SEEN[i][1] + " NONE, " + SEEN[i][0] + " below");
        }
        System.out.println(wrong == 0 ? "all answers are as due" : wrong + " answers are not as due");
        if (wrong != 0) {
            System.exit(1);
        }
    }
}
