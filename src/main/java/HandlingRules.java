/** Rules for special handling in editions; README.md tells how to use it. */
public final class HandlingRules {
    public static final int UNKNOWN = -101, OUTSIDE = -102, STATE = -103, ROOM = -104;
    public static final int NONE = -1;

    private static final int MAX_STEPS = 100;
    private static final int FACTS = 8;
    private static final int EDITIONS = 6;
    private static final int RULES = 40;
    private static final int RULES_OF_EDITION = 8;
    private static final int PROGRAM = 12;
    private static final int STACK = 8;
    private static final int HANDLES = 16;
    private static final int KINDS = 4;
    private static final int LAST_RANK = 9;
    private static final int LAST_NAME = 99;
    private static final int LAST_DAY = 100000;

    private static final int EMPTY = 0, TOLD = 1, READY = 2, BARRED = 3;

    private static final int WELL = 0, CUT = 1, BY_ZERO = 2, STACK_FAULT = 3, HANDLE_FAULT = 4;

    private static final int PUT = 0, PUT_FACT = 1;
    private static final int SUM = 2, DIFFERENCE = 3, PRODUCT = 4, QUOTIENT = 5, LESS = 6, EQUAL = 7;
    private static final int NOT = 8, GO_IF_ZERO = 9, GIVE = 10, ADD_TO_CELL = 11, PUT_CELL = 12;
    private static final int KEEP_HANDLE = 13, USE_HANDLE = 14, END = 15;

    private final int steps;
    private final Edition[] editions = new Edition[EDITIONS];
    private final Rule[] rules = new Rule[RULES];
    private int ruleCount = 0;
    private int daysTold = 0;
    private final Runner runner = new Runner();
    private final Answers answers = new Answers();
    private final Failures failures = new Failures();

    public HandlingRules(int steps) {
        this.steps = Math.max(1, Math.min(MAX_STEPS, steps));
        for (int i = 0; i < EDITIONS; i++) {
            editions[i] = new Edition();
        }
    }

    public int rule(int edition, int rank, int name) {
        Edition home = editionAt(edition);
        if (home == null || !isWithin(rank, 0, LAST_RANK) || !isWithin(name, 0, LAST_NAME)) {
            return OUTSIDE;
        }
        if (home.state == READY || home.state == BARRED) {
            return STATE;
        }
        if (ruleCount >= RULES || home.count >= RULES_OF_EDITION) {
            return ROOM;
        }
        Rule added = new Rule(ruleCount, home, rank, name);
        rules[ruleCount] = added;
        ruleCount++;
        home.insert(added);
        return added.number;
    }

    public int code(int rule, int op, long n) {
        Rule changed = ruleAt(rule);
        if (changed == null) {
            return UNKNOWN;
        }
        if (!isInstruction(op, n)) {
            return OUTSIDE;
        }
        if (changed.home.state != TOLD) {
            return STATE;
        }
        if (changed.length >= PROGRAM) {
            return ROOM;
        }
        // An n that does not matter is kept as 0, so that equal programs are equal rows.
        changed.append(op, hasNumber(op) ? n : 0);
        return changed.length;
    }

    public int fallback(int rule, int kind, long v) {
        Rule changed = ruleAt(rule);
        if (changed == null) {
            return UNKNOWN;
        }
        if (!isWithin(kind, 0, KINDS - 1)) {
            return OUTSIDE;
        }
        if (changed.home.state != TOLD) {
            return STATE;
        }
        changed.fallbackKind = kind;
        changed.fallbackValue = v;
        return 1;
    }

    public int fact(int f, long v) {
        if (!isWithin(f, 0, FACTS - 1)) {
            return OUTSIDE;
        }
        runner.setFact(f, v);
        return 1;
    }

    public int test(int edition) {
        Edition tested = editionAt(edition);
        if (tested == null) {
            return OUTSIDE;
        }
        if (tested.state != TOLD) {
            return STATE;
        }
        forgetLatestRun();
        int made = 0;
        for (int i = 0; i < tested.count; i++) {
            Rule next = tested.inOrder(i);
            if (next != null) {
                made += doRule(next);
            }
        }
        tested.state = failures.count == 0 ? READY : BARRED;
        return made;
    }

    public int day(int edition, int from) {
        Edition told = editionAt(edition);
        if (told == null || !isWithin(from, 0, LAST_DAY)) {
            return OUTSIDE;
        }
        if (told.state != READY) {
            return STATE;
        }
        daysTold++;
        told.from = from;
        told.toldAs = daysTold;
        return 1;
    }

    public int ask(int begun) {
        if (!isWithin(begun, 0, LAST_DAY)) {
            return OUTSIDE;
        }
        forgetLatestRun();
        answers.clear();
        Edition asked = inForceOn(begun);
        if (asked == null) {
            return NONE;
        }
        for (int i = 0; i < asked.count; i++) {
            Rule next = asked.inOrder(i);
            if (next != null) {
                doRule(next);
                settle(next);
            }
        }
        return answers.countGiven();
    }

    public long answer(int kind) {
        return answers.valueOf(kind);
    }

    public int by(int kind) {
        return answers.giverOf(kind);
    }

    public int failed(int i, int what) {
        if (what == 0) {
            return failures.numberAt(i);
        }
        return what == 1 ? failures.howAt(i) : NONE;
    }

    public long cell(int rule) {
        Rule seen = ruleAt(rule);
        return seen == null ? 0 : seen.cell;
    }

    public int edition(int edition, int what) {
        Edition seen = editionAt(edition);
        if (seen == null) {
            return OUTSIDE;
        }
        switch (what) {
            case 0:
                return seen.state;
            case 1:
                return seen.count;
            case 2:
                return seen.from;
            default:
                return OUTSIDE;
        }
    }

    public boolean same(int a, int b) {
        Rule first = ruleAt(a);
        Rule second = ruleAt(b);
        return first != null && second != null && first.hasProgramOf(second);
    }

    public long divide(int rule, long a, long b) throws ArithmeticException {
        if (ruleAt(rule) == null) {
            return UNKNOWN;
        }
        if (b == 0) {
            throw new ArithmeticException("a quotient by 0");
        }
        return combine(QUOTIENT, a, b);
    }

    public int handle(int k) throws IllegalStateException {
        if (k < 0 || k >= runner.handleCount) {
            return OUTSIDE;
        }
        throw new IllegalStateException("the call of this handle is over");
    }

    private Edition editionAt(int number) {
        return number >= 0 && number < EDITIONS ? editions[number] : null;
    }

    private Rule ruleAt(int number) {
        return number >= 0 && number < ruleCount && number < RULES ? rules[number] : null;
    }

    private Edition inForceOn(int begun) {
        Edition best = null;
        for (int i = 0; i < EDITIONS; i++) {
            Edition next = editions[i];
            if (next != null && next.isInForceOn(begun) && next.goesAhead(best)) {
                best = next;
            }
        }
        return best;
    }

    private void forgetLatestRun() {
        runner.handleCount = 0;
        failures.count = 0;
    }

    private int doRule(Rule rule) {
        int made = runner.run(rule, steps);
        if (runner.fault != WELL) {
            failures.add(rule.number, runner.fault);
        }
        return made;
    }

    /** Only an asking settles what a rule has done: a test leaves cells and answers as they are. */
    private void settle(Rule rule) {
        if (runner.fault == WELL) {
            rule.cell = runner.cell;
            answers.addMissing(runner.given);
        } else if (rule.fallbackKind != NONE && !answers.isGiven(rule.fallbackKind)) {
            answers.give(rule.fallbackKind, rule.fallbackValue, rule.number);
        }
    }

    private static boolean isWithin(long v, long least, long most) {
        return v >= least && v <= most;
    }

    private static boolean isInstruction(int op, long n) {
        switch (op) {
            case PUT_FACT:
            case KEEP_HANDLE:
                return isWithin(n, 0, FACTS - 1);
            case GO_IF_ZERO:
                return n != 0 && isWithin(n, -PROGRAM, PROGRAM);
            case GIVE:
                return isWithin(n, 0, KINDS - 1);
            default:
                return isWithin(op, PUT, END);
        }
    }

    private static boolean hasNumber(int op) {
        return op == PUT || op == PUT_FACT || op == GO_IF_ZERO || op == GIVE || op == KEEP_HANDLE;
    }

    private static boolean takesTwo(int op) {
        return op >= SUM && op <= EQUAL;
    }

    private static int takes(int op) {
        if (takesTwo(op)) {
            return 2;
        }
        return op >= NOT && op <= ADD_TO_CELL || op == USE_HANDLE ? 1 : 0;
    }

    private static int puts(int op) {
        return op >= GO_IF_ZERO && op <= ADD_TO_CELL || op == END ? 0 : 1;
    }

    private static long combine(int op, long first, long second) {
        switch (op) {
            case SUM:
                return first + second;
            case DIFFERENCE:
                return first - second;
            case PRODUCT:
                return first * second;
            case QUOTIENT:
                return second == 0 ? 0 : first / second;
            case LESS:
                return first < second ? 1 : 0;
            default:
                return first == second ? 1 : 0;
        }
    }

    private static final class Rule {
        final int number;
        final Edition home;
        final int rank;
        final int name;
        final int[] ops = new int[PROGRAM];
        final long[] numbers = new long[PROGRAM];
        int length = 0;
        long cell = 0;
        int fallbackKind = NONE;
        long fallbackValue = 0;

        Rule(int number, Edition home, int rank, int name) {
            this.number = number;
            this.home = home;
            this.rank = rank;
            this.name = name;
        }

        void append(int op, long n) {
            if (length < PROGRAM) {
                ops[length] = op;
                numbers[length] = n;
                length++;
            }
        }

        boolean goesBefore(Rule other) {
            if (rank != other.rank) {
                return rank < other.rank;
            }
            return name != other.name ? name < other.name : number < other.number;
        }

        boolean hasProgramOf(Rule other) {
            if (length != other.length) {
                return false;
            }
            for (int i = 0; i < length && i < PROGRAM; i++) {
                if (ops[i] != other.ops[i] || numbers[i] != other.numbers[i]) {
                    return false;
                }
            }
            return true;
        }
    }

    private static final class Edition {
        int state = EMPTY;
        int count = 0;
        int from = NONE;
        int toldAs = 0;
        final Rule[] order = new Rule[RULES_OF_EDITION];

        void insert(Rule added) {
            if (count >= RULES_OF_EDITION) {
                return;
            }
            int place = count;
            for (int i = count - 1; i >= 0; i--) {
                Rule other = order[i];
                if (other == null || other.goesBefore(added)) {
                    break;
                }
                order[i + 1] = other;
                place = i;
            }
            order[place] = added;
            count++;
            state = TOLD;
        }

        Rule inOrder(int i) {
            return i >= 0 && i < count && i < RULES_OF_EDITION ? order[i] : null;
        }

        boolean isInForceOn(int begun) {
            return from != NONE && from <= begun;
        }

        boolean goesAhead(Edition other) {
            if (other == null) {
                return true;
            }
            return from != other.from ? from > other.from : toldAs > other.toldAs;
        }
    }

    /** An answer of each kind at most, with the rule that gave it. */
    private static final class Answers {
        final long[] values = new long[KINDS];
        final int[] givers = new int[KINDS];

        Answers() {
            for (int kind = 0; kind < KINDS; kind++) {
                givers[kind] = NONE;
            }
        }

        void clear() {
            for (int kind = 0; kind < KINDS; kind++) {
                values[kind] = 0;
                givers[kind] = NONE;
            }
        }

        void give(long kind, long value, int giver) {
            if (isWithin(kind, 0, KINDS - 1)) {
                values[(int) kind] = value;
                givers[(int) kind] = giver;
            }
        }

        void addMissing(Answers later) {
            for (int kind = 0; kind < KINDS; kind++) {
                if (!isGiven(kind) && later.isGiven(kind)) {
                    give(kind, later.valueOf(kind), later.giverOf(kind));
                }
            }
        }

        boolean isGiven(int kind) {
            return giverOf(kind) != NONE;
        }

        long valueOf(int kind) {
            return kind >= 0 && kind < KINDS ? values[kind] : 0;
        }

        int giverOf(int kind) {
            return kind >= 0 && kind < KINDS ? givers[kind] : NONE;
        }

        int countGiven() {
            int given = 0;
            for (int kind = 0; kind < KINDS; kind++) {
                if (isGiven(kind)) {
                    given++;
                }
            }
            return given;
        }
    }

    /** The rules that were cut or failed in the latest asking or test. */
    private static final class Failures {
        final int[] ruleNumbers = new int[RULES_OF_EDITION];
        final int[] hows = new int[RULES_OF_EDITION];
        int count = 0;

        void add(int ruleNumber, int how) {
            if (count < RULES_OF_EDITION) {
                ruleNumbers[count] = ruleNumber;
                hows[count] = how;
                count++;
            }
        }

        int numberAt(int i) {
            return i >= 0 && i < count && i < RULES_OF_EDITION ? ruleNumbers[i] : NONE;
        }

        int howAt(int i) {
            return i >= 0 && i < count && i < RULES_OF_EDITION ? hows[i] : NONE;
        }
    }

    /** Does one program after the other; the handles alone go on from one to the next. */
    private static final class Runner {
        final long[] facts = new long[FACTS];
        final long[] stack = new long[STACK];
        final int[] handleFacts = new int[HANDLES];
        final Answers given = new Answers();
        int handleCount = 0;
        int height = 0;
        int position = 0;
        int fault = WELL;
        long cell = 0;

        int run(Rule rule, int limit) {
            begin(rule);
            int made = 0;
            while (made < limit && fault == WELL && isInside(rule)) {
                perform(rule, rule.ops[position], rule.numbers[position]);
                made++;
            }
            if (fault == WELL && isInside(rule)) {
                fault = CUT;
            }
            return made;
        }

        void begin(Rule rule) {
            given.clear();
            height = 0;
            position = 0;
            fault = WELL;
            cell = rule.cell;
        }

        boolean isInside(Rule rule) {
            return position >= 0 && position < rule.length && position < PROGRAM;
        }

        void perform(Rule rule, int op, long n) {
            fault = faultOf(op);
            if (fault != WELL) {
                return;
            }
            int here = position;
            position++;
            if (takesTwo(op)) {
                long second = pop();
                long first = pop();
                push(combine(op, first, second));
                return;
            }
            switch (op) {
                case PUT:
                    push(n);
                    break;
                case PUT_FACT:
                    push(factOf(n));
                    break;
                case NOT:
                    push(pop() == 0 ? 1 : 0);
                    break;
                case GO_IF_ZERO:
                    if (pop() == 0) {
                        position = (int) Math.max(0, Math.min(rule.length, here + n));
                    }
                    break;
                case GIVE:
                    given.give(n, pop(), rule.number);
                    break;
                case ADD_TO_CELL:
                    cell += pop();
                    break;
                case PUT_CELL:
                    push(cell);
                    break;
                case KEEP_HANDLE:
                    push(keep(n));
                    break;
                case USE_HANDLE:
                    push(factBehind(pop()));
                    break;
                case END:
                default:
                    position = rule.length;
                    break;
            }
        }

        /** Asked before anything is done, so that what fails leaves nothing behind. */
        int faultOf(int op) {
            int left = height - takes(op);
            if (left < 0 || left + puts(op) > STACK) {
                return STACK_FAULT;
            }
            if (op == QUOTIENT && top() == 0) {
                return BY_ZERO;
            }
            boolean lacksRoom = op == KEEP_HANDLE && handleCount >= HANDLES;
            boolean lacksHandle = op == USE_HANDLE && !isWithin(top(), 0, handleCount - 1);
            return lacksRoom || lacksHandle ? HANDLE_FAULT : WELL;
        }

        void push(long v) {
            if (height >= 0 && height < STACK) {
                stack[height] = v;
                height++;
            }
        }

        long pop() {
            long taken = top();
            if (height > 0) {
                height--;
            }
            return taken;
        }

        long top() {
            return height > 0 && height <= STACK ? stack[height - 1] : 0;
        }

        void setFact(int f, long v) {
            if (f >= 0 && f < FACTS) {
                facts[f] = v;
            }
        }

        long factOf(long f) {
            return isWithin(f, 0, FACTS - 1) ? facts[(int) f] : 0;
        }

        int keep(long f) {
            int number = handleCount;
            if (number >= 0 && number < HANDLES) {
                handleFacts[number] = (int) f;
                handleCount++;
            }
            return number;
        }

        long factBehind(long number) {
            boolean isKept = isWithin(number, 0, handleCount - 1) && number < HANDLES;
            return isKept ? factOf(handleFacts[(int) number]) : 0;
        }
    }
}
