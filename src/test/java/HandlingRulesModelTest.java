import java.util.ArrayList;
import java.util.Arrays;
import java.util.Comparator;
import java.util.HashMap;
import java.util.List;
import java.util.Map;
import java.util.Random;
import java.util.TreeMap;

/** Long runs of calls, each answer compared with a plain model of the document, and every state read behind them. */
public final class HandlingRulesModelTest {
    private static final int RUNS = 4000;
    private static final int CALLS = 512;
    private static final int UNKNOWN = -101, OUTSIDE = -102, STATE = -103, ROOM = -104, NONE = -1;

    record Instruction(int op, long n) { }

    record Failure(int rule, int how) { }

    record Answer(long value, int rule) { }

    static final class ModelRule {
        int number, edition, rank, name;
        List<Instruction> program = new ArrayList<>();
        long cell;
        int fallbackKind = NONE;
        long fallbackValue;
    }

    /** A program's end by a fault. */
    static final class Fault extends RuntimeException {
        private static final long serialVersionUID = 1;
        final int how;

        Fault(int how) {
            super(null, null, false, false);
            this.how = how;
        }
    }

    static final class Model {
        final int steps;
        final long[] facts = new long[8];
        final String[] states = {"EMPTY", "EMPTY", "EMPTY", "EMPTY", "EMPTY", "EMPTY"};
        final List<int[]> days = new ArrayList<>();
        final List<ModelRule> rules = new ArrayList<>();
        Map<Integer, Answer> answers = new HashMap<>();
        List<Failure> failures = new ArrayList<>();
        List<Integer> handles = new ArrayList<>();
        int made;

        Model(int steps) {
            this.steps = steps < 1 ? 1 : steps > 100 ? 100 : steps;
        }

        List<ModelRule> of(int edition) {
            List<ModelRule> found = new ArrayList<>();
            for (ModelRule r : rules) {
                if (r.edition == edition) {
                    found.add(r);
                }
            }
            found.sort(Comparator.comparingInt((ModelRule r) -> r.rank * 100 + r.name));
            return found;
        }

        boolean known(int rule) {
            return 0 <= rule && rule < rules.size();
        }

        int rule(int edition, int rank, int name) {
            if (edition < 0 || edition > 5 || rank < 0 || rank > 9 || name < 0 || name > 99) return OUTSIDE;
            if (states[edition].equals("READY") || states[edition].equals("BARRED")) return STATE;
            if (rules.size() == 40 || of(edition).size() == 8) return ROOM;
            ModelRule r = new ModelRule();
            r.number = rules.size();
            r.edition = edition;
            r.rank = rank;
            r.name = name;
            rules.add(r);
            states[edition] = "TOLD";
            return r.number;
        }

        int code(int rule, int op, long n) {
            if (!known(rule)) return UNKNOWN;
            if (op < 0 || op > 15) return OUTSIDE;
            if ((op == 1 || op == 13) && (n < 0 || n > 7)) return OUTSIDE;
            if (op == 9 && (n < -12 || n > 12 || n == 0)) return OUTSIDE;
            if (op == 10 && (n < 0 || n > 3)) return OUTSIDE;
            ModelRule r = rules.get(rule);
            if (!states[r.edition].equals("TOLD")) return STATE;
            if (r.program.size() == 12) return ROOM;
            r.program.add(new Instruction(op, n));
            return r.program.size();
        }

        int fallback(int rule, int kind, long v) {
            if (!known(rule)) return UNKNOWN;
            if (kind < 0 || kind > 3) return OUTSIDE;
            ModelRule r = rules.get(rule);
            if (!states[r.edition].equals("TOLD")) return STATE;
            r.fallbackKind = kind;
            r.fallbackValue = v;
            return 1;
        }

        int fact(int f, long v) {
            if (f < 0 || f > 7) return OUTSIDE;
            facts[f] = v;
            return 1;
        }

        /** What a rule answers by its program; its cell is changed only behind the program's end. */
        Map<Integer, Long> perform(ModelRule r) {
            List<Long> stack = new ArrayList<>();
            Map<Integer, Long> given = new TreeMap<>();
            long cell = r.cell;
            int at = 0;
            int mine = 0;
            while (at < r.program.size()) {
                if (mine == steps) throw new Fault(1);
                mine++;
                made++;
                Instruction i = r.program.get(at);
                int next = at + 1;
                if (i.op == 0) put(stack, i.n);
                if (i.op == 1) put(stack, facts[(int) i.n]);
                if (i.op >= 2 && i.op <= 7) {
                    long b = take(stack);
                    long a = take(stack);
                    if (i.op == 5 && b == 0) throw new Fault(2);
                    put(stack, i.op == 2 ? a + b : i.op == 3 ? a - b : i.op == 4 ? a * b : i.op == 5 ? a / b
                        : i.op == 6 ? (a < b ? 1 : 0) : (a == b ? 1 : 0));
                }
                if (i.op == 8) put(stack, take(stack) == 0 ? 1 : 0);
                if (i.op == 9 && take(stack) == 0) next = Math.max(0, at + (int) i.n);
                if (i.op == 10) given.put((int) i.n, take(stack));
                if (i.op == 11) cell += take(stack);
                if (i.op == 12) put(stack, cell);
                if (i.op == 13) {
                    put(stack, handles.size());
                    if (handles.size() == 16) throw new Fault(4);
                    handles.add((int) i.n);
                }
                if (i.op == 14) {
                    long k = take(stack);
                    if (k < 0 || k >= handles.size()) throw new Fault(4);
                    put(stack, facts[handles.get((int) k)]);
                }
                if (i.op == 15) break;
                at = next;
            }
            r.cell = cell;
            return given;
        }

        static void put(List<Long> stack, long v) {
            if (stack.size() == 8) throw new Fault(3);
            stack.add(v);
        }

        static long take(List<Long> stack) {
            if (stack.isEmpty()) throw new Fault(3);
            return stack.remove(stack.size() - 1);
        }

        Map<Integer, Answer> all(int edition) {
            Map<Integer, Answer> got = new HashMap<>();
            failures = new ArrayList<>();
            handles = new ArrayList<>();
            made = 0;
            for (ModelRule r : of(edition)) {
                Map<Integer, Long> given = new TreeMap<>();
                try {
                    given = perform(r);
                } catch (Fault f) {
                    failures.add(new Failure(r.number, f.how));
                    if (r.fallbackKind != NONE) given.put(r.fallbackKind, r.fallbackValue);
                }
                given.forEach((kind, v) -> got.putIfAbsent(kind, new Answer(v, r.number)));
            }
            return got;
        }

        int test(int edition) {
            if (edition < 0 || edition > 5) return OUTSIDE;
            if (!states[edition].equals("TOLD")) return STATE;
            all(edition);
            for (ModelRule r : of(edition)) r.cell = 0;
            states[edition] = failures.isEmpty() ? "READY" : "BARRED";
            return made;
        }

        int day(int edition, int from) {
            if (edition < 0 || edition > 5 || from < 0 || from > 100000) return OUTSIDE;
            if (!states[edition].equals("READY")) return STATE;
            days.removeIf(d -> d[0] == edition);
            days.add(new int[] {edition, from});
            return 1;
        }

        int ask(int begun) {
            if (begun < 0 || begun > 100000) return OUTSIDE;
            int[] best = null;
            for (int[] d : days) {
                if (d[1] <= begun && (best == null || d[1] >= best[1])) best = d;
            }
            answers = new HashMap<>();
            failures = new ArrayList<>();
            handles = new ArrayList<>();
            if (best == null) return NONE;
            answers = all(best[0]);
            return answers.size();
        }

        long answer(int kind) {
            return answers.containsKey(kind) ? answers.get(kind).value : 0;
        }

        int by(int kind) {
            return answers.containsKey(kind) ? answers.get(kind).rule : NONE;
        }

        int failed(int i, int what) {
            if (i < 0 || i >= failures.size() || what < 0 || what > 1) return NONE;
            return what == 0 ? failures.get(i).rule : failures.get(i).how;
        }

        long cell(int rule) {
            return known(rule) ? rules.get(rule).cell : 0;
        }

        int edition(int edition, int what) {
            if (edition < 0 || edition > 5 || what < 0 || what > 2) return OUTSIDE;
            if (what == 0) return Arrays.asList("EMPTY", "TOLD", "READY", "BARRED").indexOf(states[edition]);
            if (what == 1) return of(edition).size();
            for (int[] d : days) {
                if (d[0] == edition) return d[1];
            }
            return NONE;
        }

        boolean same(int a, int b) {
            return known(a) && known(b) && text(a).equals(text(b));
        }

        String text(int rule) {
            StringBuilder t = new StringBuilder();
            for (Instruction i : rules.get(rule).program) {
                boolean has = i.op == 0 || i.op == 1 || i.op == 9 || i.op == 10 || i.op == 13;
                t.append(i.op).append(has ? " " + i.n : "").append(';');
            }
            return t.toString();
        }

        String divide(int rule, long a, long b) {
            return !known(rule) ? "" + UNKNOWN : b == 0 ? "throws.ArithmeticException" : "" + a / b;
        }

        String handle(int k) {
            return k < 0 || k >= handles.size() ? "" + OUTSIDE : "throws.IllegalStateException";
        }
    }

    private static final List<String> trace = new ArrayList<>();
    private static final Map<String, Integer> seen = new TreeMap<>();
    private static int wrong = 0;

    private static void due(String call, Object got, Object want) {
        String g = String.valueOf(got);
        String w = String.valueOf(want);
        trace.add(call + " " + g);
        boolean special = w.startsWith("-10") || w.startsWith("throws");
        seen.merge(call.substring(0, call.indexOf('(')) + (special ? " " + w : ""), 1, Integer::sum);
        if (!g.equals(w)) {
            wrong++;
            if (wrong <= 3) {
                trace.forEach(System.out::println);
            }
            System.out.println(call + " answered " + g + ", due is " + w);
        }
    }

    private static String divided(HandlingRules x, int rule, long a, long b) {
        try {
            return "" + x.divide(rule, a, b);
        } catch (ArithmeticException e) {
            return "throws.ArithmeticException";
        }
    }

    private static String handled(HandlingRules x, int k) {
        try {
            return "" + x.handle(k);
        } catch (IllegalStateException e) {
            return "throws.IllegalStateException";
        }
    }

    private final Random random;
    private final HandlingRules x;
    private final Model m;

    private HandlingRulesModelTest(int seed) {
        random = new Random(seed);
        int steps = random.nextInt(3) == 0 ? random.nextInt(130) - 10 : 4 + random.nextInt(16);
        x = new HandlingRules(steps);
        m = new Model(steps);
    }

    /** Mostly inside 0 .. most, now and then outside or far outside. */
    private int some(int most) {
        int way = random.nextInt(60);
        if (way == 0) return -1;
        if (way == 1) return most + 1;
        if (way == 2) return random.nextBoolean() ? Integer.MIN_VALUE : Integer.MAX_VALUE;
        return random.nextInt(most + 1);
    }

    private long number() {
        int way = random.nextInt(12);
        if (way == 0) return random.nextLong();
        if (way == 1) return random.nextBoolean() ? Long.MIN_VALUE : Long.MAX_VALUE;
        if (way < 6) return 0;
        return random.nextInt(7) - 2;
    }

    private int someRule() {
        return random.nextInt(40) == 0 ? some(45) : some(Math.max(0, m.rules.size() - 1));
    }

    private long someNumberOf(int op) {
        if (random.nextInt(40) == 0) return number();
        if (op == 1 || op == 13) return some(7);
        if (op == 9) return some(24) - 12;
        if (op == 10) return some(3);
        return number();
    }

    private void code(int rule, int op, long n) {
        due("code(" + rule + ", " + op + ", " + n + ")", x.code(rule, op, n), m.code(rule, op, n));
    }

    /** A whole program at once; what it takes is mostly there, so that many editions are READY. */
    private void program(int rule) {
        int height = 0;
        int length = random.nextInt(13);
        for (int i = 0; i < length; i++) {
            int op = random.nextInt(20) == 0 ? some(15) : height < 2 ? pick(0, 1, 1, 12, 13, 13) : random.nextInt(15);
            if (op == 14 && random.nextInt(4) > 0) {
                op = 13;
            }
            code(rule, op, someNumberOf(op));
            height += op <= 1 || op == 12 || op == 13 ? 1 : op >= 2 && op <= 7 || op >= 9 && op <= 11 ? -1 : 0;
        }
    }

    private int pick(int... among) {
        return among[random.nextInt(among.length)];
    }

    private void call() {
        int way = random.nextInt(100);
        if (way < 9) {
            int e = some(5), rank = random.nextBoolean() ? some(9) : some(1);
            int name = random.nextBoolean() ? some(99) : some(1);
            int told = m.rule(e, rank, name);
            due("rule(" + e + ", " + rank + ", " + name + ")", x.rule(e, rank, name), told);
            if (told >= 0 && random.nextInt(3) > 0) program(told);
        } else if (way < 18) {
            int r = someRule(), op = some(15);
            code(r, op, someNumberOf(op));
        } else if (way < 23) {
            int r = someRule(), kind = some(3);
            long v = number();
            due("fallback(" + r + ", " + kind + ", " + v + ")", x.fallback(r, kind, v), m.fallback(r, kind, v));
        } else if (way < 33) {
            int f = some(7);
            long v = number();
            due("fact(" + f + ", " + v + ")", x.fact(f, v), m.fact(f, v));
        } else if (way < 38) {
            int e = some(5);
            due("test(" + e + ")", x.test(e), m.test(e));
        } else if (way < 45) {
            int e = some(5), from = random.nextBoolean() ? some(4) : some(100000);
            due("day(" + e + ", " + from + ")", x.day(e, from), m.day(e, from));
        } else if (way < 65) {
            int begun = random.nextBoolean() ? some(4) : some(100000);
            due("ask(" + begun + ")", x.ask(begun), m.ask(begun));
        } else {
            look(way);
        }
    }

    private void look(int way) {
        int r = someRule(), s = someRule(), kind = some(3);
        if (way < 70) {
            due("answer(" + kind + ")", x.answer(kind), m.answer(kind));
        } else if (way < 75) {
            due("by(" + kind + ")", x.by(kind), m.by(kind));
        } else if (way < 80) {
            int what = some(1);
            due("failed(" + kind + ", " + what + ")", x.failed(kind, what), m.failed(kind, what));
        } else if (way < 84) {
            due("cell(" + r + ")", x.cell(r), m.cell(r));
        } else if (way < 88) {
            int e = some(5), what = some(2);
            due("edition(" + e + ", " + what + ")", x.edition(e, what), m.edition(e, what));
        } else if (way < 92) {
            due("same(" + r + ", " + s + ")", x.same(r, s), m.same(r, s));
        } else if (way < 96) {
            long a = number(), b = number();
            due("divide(" + r + ", " + a + ", " + b + ")", divided(x, r, a, b), m.divide(r, a, b));
        } else {
            int k = some(16);
            due("handle(" + k + ")", handled(x, k), m.handle(k));
        }
    }

    private void lookAtAll() {
        for (int kind = -1; kind < 5; kind++) {
            due("answer(" + kind + ")", x.answer(kind), m.answer(kind));
            due("by(" + kind + ")", x.by(kind), m.by(kind));
        }
        for (int i = 0; i < 9; i++) {
            due("failed(" + i + ", 0)", x.failed(i, 0), m.failed(i, 0));
            due("failed(" + i + ", 1)", x.failed(i, 1), m.failed(i, 1));
        }
        for (int r = 0; r <= m.rules.size(); r++) {
            due("cell(" + r + ")", x.cell(r), m.cell(r));
        }
        for (int e = 0; e < 6; e++) {
            for (int what = 0; what < 3; what++) {
                due("edition(" + e + ", " + what + ")", x.edition(e, what), m.edition(e, what));
            }
        }
        due("handle(" + (m.handles.size() - 1) + ")", handled(x, m.handles.size() - 1), m.handle(m.handles.size() - 1));
        due("handle(" + m.handles.size() + ")", handled(x, m.handles.size()), m.handle(m.handles.size()));
    }

    private void run() {
        // Room is left for what is looked at behind the calls, within the calls that an object is good for.
        int end = 60 + random.nextInt(CALLS - 160);
        trace.clear();
        while (trace.size() < end - 20) {
            call();
        }
        lookAtAll();
    }

    public static void main(String[] args) {
        for (int seed = 0; seed < RUNS && wrong < 3; seed++) {
            new HandlingRulesModelTest(seed).run();
        }
        if (args.length > 0) {
            System.out.println(seen);
        }
        System.out.println(RUNS + " runs, " + wrong + " answers not as due");
        if (wrong != 0) {
            System.exit(1);
        }
    }
}
