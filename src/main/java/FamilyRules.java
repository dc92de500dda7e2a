/**
 * Rules of families of types: which constructors a family may have, what recursion on it brings
 * for each of them, and the type of its eliminator, made and counted.
 */
public final class FamilyRules {
    public static final int NONE = -1;

    private static final int VARIABLE = 0;
    private static final int GLOBAL = 1;
    private static final int SORT = 2;
    private static final int REC = 3;
    private static final int APPLICATION = 4;
    private static final int FUN = 5;
    private static final int ALL = 6;

    private static final int AXIOM_ROLE = 0;
    private static final int FAMILY_ROLE = 3;
    private static final int CONSTRUCTOR_ROLE = 4;

    private static final int NOT_POSITIVE = 0;
    private static final int WITHOUT_FAMILY = 1;
    private static final int RECURSIVE = 2;

    private static final int MOST_TERMS = 1500;
    private static final int MOST_NODES = 1000;
    private static final int MOST_NODES_IN_ALL = 30000;
    private static final int MOST_GLOBALS = 100;
    private static final int MOST_CONSTRUCTORS = 12;
    private static final int GREATEST_NUMBER = 100;
    private static final int GREATEST_NAME = 99;
    private static final int NAME_OF_M = 98;
    private static final int NAME_OF_X = 99;
    private static final int FIRST_NOT_POSITIVE = -2;

    private final Shelf shelf;
    private final Register register;
    private final Reader reader;
    private final Maker maker;

    public FamilyRules() {
        Reader shared = new Reader();
        shelf = new Shelf();
        register = new Register();
        reader = shared;
        maker = new Maker(shared);
    }

    public int leaf(int kind, int a, int b) {
        if (!isLeaf(kind, a, b)) {
            return NONE;
        }
        Term made = shelf.blank(1);
        if (made == null) {
            return NONE;
        }
        made.set(0, kind, a, b);
        return shelf.keep(made);
    }

    public int apply(int a, int b) {
        return join(APPLICATION, 0, a, b);
    }

    public int binder(int kind, int name, int a, int b) {
        boolean isBinder = kind == FUN || kind == ALL;
        boolean isName = name == NONE || (name >= 0 && name <= GREATEST_NAME);
        return isBinder && isName ? join(kind, name, a, b) : NONE;
    }

    public int axiom() {
        return register.addAxiom();
    }

    public int family(int t, int parameters, int constructors) {
        Term told = shelf.find(t);
        if (told == null || parameters < 0 || constructors < 0 || constructors > MOST_CONSTRUCTORS) {
            return NONE;
        }
        reader.readShape(told, 0);
        int indices = reader.alls - parameters;
        if (indices < 0 || told.kindAt(reader.foot) != SORT || !reader.isClosed(told)) {
            return NONE;
        }
        return register.addFamily(told, parameters, indices, constructors);
    }

    public int constructor(int g, int t) {
        Global constructor = register.findConstructor(g);
        Term told = shelf.find(t);
        if (constructor == null || constructor.told != null || told == null) {
            return NONE;
        }
        Global family = constructor.family;
        reader.readShape(told, 0);
        int arguments = reader.alls - constructor.parameters;
        if (family == null || arguments < 0 || !reader.isPut(family, 0) || !reader.isClosed(told)) {
            return NONE;
        }
        return tell(constructor, family, told, arguments);
    }

    public int about(int g, int what) {
        Global global = register.find(g);
        if (global == null) {
            return NONE;
        }
        switch (what) {
            case 0:
                return global.role;
            case 1:
                return global.parameters;
            case 2:
                return global.role == CONSTRUCTOR_ROLE ? global.arguments : global.indices;
            case 3:
                return global.rank;
            default:
                return NONE;
        }
    }

    public int positive(int g, int t, int arguments) {
        Global family = register.findFamily(g);
        Term term = shelf.find(t);
        if (family == null || term == null || !isNumber(arguments)) {
            return NONE;
        }
        return reader.standing(family, term, 0, family.parameters + arguments);
    }

    public int brings(int g, int k) {
        Global constructor = register.findConstructor(g);
        if (constructor == null || constructor.told == null || k < 0 || k >= constructor.recursive) {
            return NONE;
        }
        maker.begin(null);
        maker.writeBrings(constructor, k);
        Term made = shelf.blank(maker.place);
        if (made == null) {
            return NONE;
        }
        maker.begin(made);
        maker.writeBrings(constructor, k);
        made.countNodes();
        return shelf.keep(made);
    }

    public int size(int g) {
        Global family = register.findFamily(g);
        if (family == null || !family.isWholeTold()) {
            return NONE;
        }
        maker.begin(null);
        maker.writeRecType(family, 0);
        return maker.place;
    }

    public int type(int g, int sort) {
        Global family = register.findFamily(g);
        if (family == null || !family.isWholeTold() || !isNumber(sort)) {
            return NONE;
        }
        maker.begin(null);
        maker.writeRecType(family, sort);
        Term made = shelf.blank(maker.place);
        if (made == null) {
            return NONE;
        }
        maker.begin(made);
        maker.writeRecType(family, sort);
        made.countNodes();
        return shelf.keep(made);
    }

    public int terms() {
        return shelf.count;
    }

    public int part(int t, int i, int what) {
        Term term = shelf.find(t);
        if (term == null || !term.has(i)) {
            return NONE;
        }
        switch (what) {
            case 0:
                return term.kindAt(i);
            case 1:
                return term.numberAt(i);
            case 2:
                return term.sortAt(i);
            case 3:
                return term.nodesAt(i);
            default:
                return NONE;
        }
    }

    private static boolean isNumber(int n) {
        return n >= 0 && n <= GREATEST_NUMBER;
    }

    private boolean isLeaf(int kind, int a, int b) {
        switch (kind) {
            case VARIABLE:
            case SORT:
                return isNumber(a) && b == 0;
            case GLOBAL:
                return register.find(a) != null && b == 0;
            case REC:
                return register.findFamily(a) != null && isNumber(b);
            default:
                return false;
        }
    }

    private int join(int kind, int number, int a, int b) {
        Term left = shelf.find(a);
        Term right = shelf.find(b);
        if (left == null || right == null) {
            return NONE;
        }
        Term made = shelf.blank(1 + left.length() + right.length());
        if (made == null) {
            return NONE;
        }
        made.set(0, kind, number, 0);
        made.paste(left, 1);
        made.paste(right, 1 + left.length());
        made.countNodes();
        return shelf.keep(made);
    }

    private int tell(Global constructor, Global family, Term told, int arguments) {
        int all = told.behindAlls(family.parameters);
        int recursive = 0;
        for (int j = 0; j < arguments; j++) {
            int standing = reader.standing(family, told, all + 1, family.parameters + j);
            if (standing == NOT_POSITIVE) {
                return FIRST_NOT_POSITIVE - j;
            }
            if (standing == RECURSIVE) {
                recursive++;
            }
            all = told.secondOf(all);
        }
        constructor.told = told;
        constructor.arguments = arguments;
        constructor.recursive = recursive;
        return recursive;
    }

    /**
     * A term as rows over its parts, each part before its own parts and these from the left to
     * the right: so a part is a run of places, and no walk needs recursion.
     */
    private static final class Term {
        private final int[] kinds;
        private final int[] numbers;
        private final int[] sorts;
        private final int[] nodes;

        private Term(int length) {
            int places = Math.max(length, 1);
            kinds = new int[places];
            numbers = new int[places];
            sorts = new int[places];
            nodes = new int[places];
            nodes[0] = 1;
        }

        private int length() {
            return kinds.length;
        }

        private boolean has(int i) {
            return i >= 0 && i < kinds.length;
        }

        private int kindAt(int i) {
            return i >= 0 && i < kinds.length ? kinds[i] : NONE;
        }

        private int numberAt(int i) {
            return i >= 0 && i < numbers.length ? numbers[i] : NONE;
        }

        private int sortAt(int i) {
            return i >= 0 && i < sorts.length ? sorts[i] : NONE;
        }

        private int nodesAt(int i) {
            return i >= 0 && i < nodes.length ? nodes[i] : 0;
        }

        private int secondOf(int i) {
            return i + 1 + nodesAt(i + 1);
        }

        private int behindAlls(int count) {
            int place = 0;
            for (int i = 0; i < count; i++) {
                place = secondOf(place);
            }
            return place;
        }

        private void set(int i, int kind, int number, int sort) {
            if (i >= 0 && i < kinds.length) {
                kinds[i] = kind;
                numbers[i] = number;
                sorts[i] = sort;
            }
        }

        private void paste(Term other, int at) {
            int length = other.length();
            if (at >= 0 && at <= kinds.length - length) {
                System.arraycopy(other.kinds, 0, kinds, at, length);
                System.arraycopy(other.numbers, 0, numbers, at, length);
                System.arraycopy(other.sorts, 0, sorts, at, length);
            }
        }

        /** From the last place back, since a part's own parts lie behind it. */
        private void countNodes() {
            for (int i = kinds.length - 1; i >= 0; i--) {
                int own = 0;
                if (kinds[i] >= APPLICATION) {
                    int left = nodesAt(i + 1);
                    own = left + nodesAt(i + 1 + left);
                }
                nodes[i] = 1 + own;
            }
        }

        private int countFamily(int g, int from, int to) {
            int found = 0;
            for (int i = from; i < to; i++) {
                int kind = kindAt(i);
                if ((kind == GLOBAL || kind == REC) && numberAt(i) == g) {
                    found++;
                }
            }
            return found;
        }
    }

    /** The terms, and the limits on them. */
    private static final class Shelf {
        private final Term[] row = new Term[MOST_TERMS];
        private int count;
        private int nodesInAll;

        private Term find(int t) {
            return t >= 0 && t < count && t < row.length ? row[t] : null;
        }

        private Term blank(int length) {
            boolean fits = length >= 1 && length <= MOST_NODES
                    && length <= MOST_NODES_IN_ALL - nodesInAll && count < MOST_TERMS;
            return fits ? new Term(length) : null;
        }

        private int keep(Term term) {
            if (count < 0 || count >= row.length) {
                return NONE;
            }
            row[count] = term;
            nodesInAll += term.length();
            count++;
            return count - 1;
        }
    }

    private static final class Global {
        private final int number;
        private final int role;
        private final int parameters;
        private final int indices;
        /** Of a family how many constructors it has, of a constructor which one it is. */
        private final int rank;
        private Global family;
        private Global[] constructors;
        private Term told;
        private int arguments = NONE;
        private int recursive;

        private Global(int number, int role, int parameters, int indices, int rank) {
            this.number = number;
            this.role = role;
            this.parameters = parameters;
            this.indices = indices;
            this.rank = rank;
        }

        private Global constructorAt(int i) {
            return constructors != null && i >= 0 && i < constructors.length ? constructors[i] : null;
        }

        private boolean isWholeTold() {
            for (int i = 0; i < rank; i++) {
                Global constructor = constructorAt(i);
                if (constructor == null || constructor.told == null) {
                    return false;
                }
            }
            return true;
        }
    }

    /** The globals, and the limit on them. */
    private static final class Register {
        private final Global[] row = new Global[MOST_GLOBALS];
        private int count;

        private Global find(int g) {
            return g >= 0 && g < count && g < row.length ? row[g] : null;
        }

        private Global findFamily(int g) {
            Global found = find(g);
            return found != null && found.role == FAMILY_ROLE ? found : null;
        }

        private Global findConstructor(int g) {
            Global found = find(g);
            return found != null && found.role == CONSTRUCTOR_ROLE ? found : null;
        }

        private int addAxiom() {
            return count < MOST_GLOBALS ? enter(new Global(count, AXIOM_ROLE, 0, 0, 0)) : NONE;
        }

        private int addFamily(Term told, int parameters, int indices, int constructors) {
            if (constructors < 0 || count + 1 + constructors > MOST_GLOBALS) {
                return NONE;
            }
            Global family = new Global(count, FAMILY_ROLE, parameters, indices, constructors);
            family.told = told;
            family.constructors = new Global[constructors];
            int number = enter(family);
            for (int i = 0; i < constructors; i++) {
                Global constructor = new Global(count, CONSTRUCTOR_ROLE, parameters, indices, i);
                constructor.family = family;
                family.constructors[i] = constructor;
                enter(constructor);
            }
            return number;
        }

        private int enter(Global global) {
            if (count < 0 || count >= row.length) {
                return NONE;
            }
            row[count] = global;
            count++;
            return count - 1;
        }
    }

    /** Reads terms; what it read last stays in its fields until it reads again. */
    private static final class Reader {
        private final int[] depths = new int[MOST_NODES];
        private Term term;
        private int alls;
        /** The place under the alls. */
        private int foot;
        private int applications;

        private void readShape(Term read, int root) {
            term = read;
            alls = 0;
            foot = root;
            while (alls < MOST_NODES && read.kindAt(foot) == ALL) {
                foot = read.secondOf(foot);
                alls++;
            }
            applications = 0;
            while (applications < MOST_NODES && read.kindAt(foot + applications) == APPLICATION) {
                applications++;
            }
        }

        /**
         * Whether what lies under the alls is the family put to its parameters, which are the
         * outermost of the binders around the root (so many outside) and of the alls, and to I terms.
         */
        private boolean isPut(Global family, int outside) {
            int head = foot + applications;
            if (term == null || applications != family.parameters + family.indices
                    || term.kindAt(head) != GLOBAL || term.numberAt(head) != family.number) {
                return false;
            }
            for (int k = 0; k < family.parameters; k++) {
                int place = head + 1 + k;
                if (term.kindAt(place) != VARIABLE || term.numberAt(place) != outside + alls - 1 - k) {
                    return false;
                }
            }
            return true;
        }

        /** Parameters are variables, of one node each: behind them the last I terms begin. */
        private int lastTerms(Global family) {
            return foot + applications + 1 + family.parameters;
        }

        private int end() {
            return term == null ? foot : foot + term.nodesAt(foot);
        }

        /** In a recursive type the head is the one place where the family may be. */
        private int standing(Global family, Term read, int root, int outside) {
            int found = read.countFamily(family.number, root, root + read.nodesAt(root));
            if (found == 0) {
                return WITHOUT_FAMILY;
            }
            readShape(read, root);
            return found == 1 && isPut(family, outside) ? RECURSIVE : NOT_POSITIVE;
        }

        /** One pass is enough, since a part lies before its own parts. */
        private void readDepths(Term read) {
            setDepth(0, 0);
            for (int i = 0; i < read.length(); i++) {
                int kind = read.kindAt(i);
                if (kind >= APPLICATION) {
                    int depth = depthAt(i);
                    setDepth(i + 1, depth);
                    setDepth(read.secondOf(i), kind == APPLICATION ? depth : depth + 1);
                }
            }
        }

        private int depthAt(int i) {
            return i >= 0 && i < depths.length ? depths[i] : 0;
        }

        private void setDepth(int i, int depth) {
            if (i >= 0 && i < depths.length) {
                depths[i] = depth;
            }
        }

        private boolean isClosed(Term read) {
            readDepths(read);
            for (int i = 0; i < read.length(); i++) {
                if (read.kindAt(i) == VARIABLE && read.numberAt(i) >= depthAt(i)) {
                    return false;
                }
            }
            return true;
        }
    }

    /**
     * Writes terms from the first place on. Without a target it only counts the places, so that a
     * term's length is known, and held against the limits, before its rows are made.
     */
    private static final class Maker {
        private final Reader reader;
        private Term target;
        private int place;
        private Term source;
        private int parameters;
        /** How many of the source's binders lie around what is copied: those within it stay. */
        private int around;
        private int argumentLift;
        private int parameterLift;

        private Maker(Reader reader) {
            this.reader = reader;
        }

        private void begin(Term made) {
            target = made;
            place = 0;
        }

        private void writeBrings(Global constructor, int k) {
            Global family = constructor.family;
            if (!open(constructor) || family == null) {
                return;
            }
            int all = source.behindAlls(parameters);
            int seen = 0;
            for (int j = 0; j < constructor.arguments; j++) {
                reader.readShape(source, all + 1);
                if (reader.isPut(family, parameters + j)) {
                    if (seen == k) {
                        lift(parameters + j, 1, 1);
                        writeBrought(family, FUN, all + 1, parameters + j + 1, 0);
                        return;
                    }
                    seen++;
                }
                all = source.secondOf(all);
            }
        }

        private void writeRecType(Global family, int sort) {
            if (!open(family)) {
                return;
            }
            int indices = family.indices;
            int cases = family.rank;
            int firstIndex = source.behindAlls(parameters);
            writeAlls(0, parameters, 0);
            put(ALL, NAME_OF_M, 0);
            writeAlls(firstIndex, indices, 0);
            put(ALL, NONE, 0);
            writeGlobal(family, indices, 0, 0);
            put(SORT, sort, 0);
            for (int i = 0; i < cases; i++) {
                put(ALL, NONE, 0);
                writeCase(family, family.constructorAt(i));
            }
            open(family);
            writeAlls(firstIndex, indices, 1 + cases);
            put(ALL, NAME_OF_X, 0);
            writeGlobal(family, indices, 1 + cases, 0);
            putApplications(indices + 1);
            put(VARIABLE, cases + indices + 1, 0);
            putVariables(indices, indices);
            put(VARIABLE, 0, 0);
        }

        private void writeCase(Global family, Global constructor) {
            if (constructor == null || !open(constructor)) {
                return;
            }
            int rank = constructor.rank;
            int arguments = constructor.arguments;
            int all = source.behindAlls(parameters);
            writeAlls(all, arguments, 1 + rank);
            int brought = 0;
            for (int j = 0; j < arguments; j++) {
                reader.readShape(source, all + 1);
                if (reader.isPut(family, parameters + j)) {
                    int between = arguments - j + brought;
                    lift(parameters + j, between, between + 1 + rank);
                    put(ALL, NONE, 0);
                    writeBrought(family, ALL, all + 1, rank + arguments + brought, between - 1);
                    brought++;
                }
                all = source.secondOf(all);
            }
            reader.readShape(source, 0);
            lift(parameters + arguments, brought, brought + 1 + rank);
            putApplications(family.indices + 1);
            put(VARIABLE, rank + arguments + brought, 0);
            copy(reader.lastTerms(family), reader.end());
            writeGlobal(constructor, arguments, 1 + rank, brought);
        }

        /** What the reader read last is the recursive argument; q and argument are told outside its YS. */
        private void writeBrought(Global family, int kind, int root, int q, int argument) {
            int ys = reader.alls;
            int all = root;
            for (int i = 0; i < ys; i++) {
                put(kind, source.numberAt(all), 0);
                int second = source.secondOf(all);
                copy(all + 1, second);
                all = second;
            }
            putApplications(family.indices + 1);
            put(VARIABLE, q + ys, 0);
            copy(reader.lastTerms(family), reader.end());
            putApplications(ys);
            put(VARIABLE, argument + ys, 0);
            putVariables(ys - 1, ys);
        }

        /** Alls of the source from one on; what they bind stays together, so only parameters are lifted. */
        private void writeAlls(int first, int count, int outer) {
            int all = first;
            for (int i = 0; i < count; i++) {
                put(ALL, source.numberAt(all), 0);
                int second = source.secondOf(all);
                lift(parameters + i, 0, outer);
                copy(all + 1, second);
                all = second;
            }
        }

        /** A global put to the parameters and to own variables, with other binders between these and after them. */
        private void writeGlobal(Global global, int own, int between, int after) {
            putApplications(parameters + own);
            put(GLOBAL, global.number, 0);
            putVariables(parameters + between + own + after - 1, parameters);
            putVariables(own + after - 1, own);
        }

        private boolean open(Global global) {
            if (global.told == null) {
                return false;
            }
            source = global.told;
            parameters = global.parameters;
            if (target != null) {
                reader.readDepths(source);
            }
            return true;
        }

        private void lift(int binders, int arguments, int outer) {
            around = binders;
            argumentLift = arguments;
            parameterLift = outer;
        }

        private void copy(int from, int to) {
            if (target == null) {
                place += to - from;
                return;
            }
            for (int i = from; i < to; i++) {
                put(source.kindAt(i), liftedNumber(i), source.sortAt(i));
            }
        }

        private int liftedNumber(int i) {
            int number = source.numberAt(i);
            if (source.kindAt(i) != VARIABLE) {
                return number;
            }
            int level = reader.depthAt(i) - 1 - number;
            if (level >= around) {
                return number;
            }
            return number + (level >= parameters ? argumentLift : parameterLift);
        }

        private void put(int kind, int number, int sort) {
            if (target != null) {
                target.set(place, kind, number, sort);
            }
            place++;
        }

        private void putApplications(int count) {
            for (int i = 0; i < count; i++) {
                put(APPLICATION, 0, 0);
            }
        }

        private void putVariables(int first, int count) {
            for (int i = 0; i < count; i++) {
                put(VARIABLE, first - i, 0);
            }
        }
    }
}
