import java.util.ArrayList;
import java.util.Arrays;
import java.util.LinkedHashMap;
import java.util.List;
import java.util.Map;
import java.util.function.Function;
import java.util.function.Supplier;

/** The document read sentence by sentence: each one that names a boundary case has a test of its own. */
public final class HandlingRulesBoundaryTest {
    private static final int UNKNOWN = -101, OUTSIDE = -102, STATE = -103, ROOM = -104, NONE = -1;
    private static final int EMPTY = 0, TOLD = 1, READY = 2, BARRED = 3;
    private static final int CUT = 1, BY_ZERO = 2, STACK = 3, HANDLE = 4, WELL = NONE;
    private static final int PUT = 0, FACT = 1, ADD = 2, SUB = 3, MUL = 4, DIV = 5, LESS = 6, EQUAL = 7, NOT = 8;
    private static final int GO = 9, GIVE = 10, ADD_CELL = 11, CELL = 12, KEEP = 13, USE = 14, END = 15;
    private static final long MIN = Long.MIN_VALUE, MAX = Long.MAX_VALUE;
    private static final int LEAST = Integer.MIN_VALUE, MOST = Integer.MAX_VALUE;
    /** A long that is 0 when it is cut down to an int. */
    private static final long WIDE = 1L << 32;

    private static String sentence = "";
    private static int asked = 0;
    private static int wrong = 0;

    private static void due(String what, Object got, Object want) {
        asked++;
        if (!String.valueOf(got).equals(String.valueOf(want))) {
            wrong++;
            System.out.println("\"" + sentence + "\": " + what + " answered " + got + ", due is " + want);
        }
    }

    private static HandlingRules fresh() {
        return new HandlingRules(100);
    }

    private static int told(HandlingRules x, int edition, int rank, int name, long... program) {
        int rule = x.rule(edition, rank, name);
        for (int i = 0; i < program.length; i += 2) {
            due("code(" + program[i] + ", " + program[i + 1] + ")", x.code(rule, (int) program[i], program[i + 1]),
                i / 2 + 1);
        }
        return rule;
    }

    private static int toldPlain(HandlingRules x, int edition, long... program) {
        return told(x, edition, 0, 0, program);
    }

    /** Tests an edition that must be READY by that, and tells its day. */
    private static void use(HandlingRules x, int edition, int from) {
        x.test(edition);
        due("state behind the test", x.edition(edition, 0), READY);
        due("day", x.day(edition, from), 1);
    }

    /** Facts 0 .. 7 are 100 .. 107. */
    private static HandlingRules withFacts() {
        HandlingRules x = fresh();
        for (int f = 0; f < 8; f++) {
            x.fact(f, 100 + f);
        }
        return x;
    }

    /** A program that runs well is due to answer this, as kind 0. */
    private static void dueValue(long want, long... program) {
        HandlingRules x = withFacts();
        toldPlain(x, 0, program);
        use(x, 0, 0);
        due("ask " + Arrays.toString(program), x.ask(0), 1);
        due("answer " + Arrays.toString(program), x.answer(0), want);
    }

    /** So a program is due to end in a test, in so many steps. */
    private static void dueEnd(int how, int steps, long... program) {
        dueEndWithin(100, how, steps, program);
    }

    private static void dueEndWithin(int limit, int how, int steps, long... program) {
        HandlingRules x = new HandlingRules(limit);
        toldPlain(x, 0, program);
        String what = Arrays.toString(program) + " with " + limit + ": ";
        due(what + "steps", x.test(0), steps);
        due(what + "how", x.failed(0, 1), how);
        due(what + "state", x.edition(0, 0), how == WELL ? READY : BARRED);
    }

    private static long[] joined(long[]... parts) {
        return Arrays.stream(parts).flatMapToLong(Arrays::stream).toArray();
    }

    /** An instruction told so many times. */
    private static long[] times(int count, long op, long n) {
        long[] program = new long[2 * count];
        for (int i = 0; i < program.length; i += 2) {
            program[i] = op;
            program[i + 1] = n;
        }
        return program;
    }

    private static long[] one(long op, long n) {
        return times(1, op, n);
    }

    private static String handled(HandlingRules x, int k) {
        try {
            return "" + x.handle(k);
        } catch (IllegalStateException e) {
            return "throws.IllegalStateException";
        }
    }

    private static String divided(HandlingRules x, int rule, long a, long b) {
        try {
            return "" + x.divide(rule, a, b);
        } catch (ArithmeticException e) {
            return "throws.ArithmeticException";
        }
    }

    private static void dueHandles(HandlingRules x, int count) {
        due("handle(-1)", handled(x, -1), OUTSIDE);
        for (int k = 0; k < 18; k++) {
            due("handle(" + k + ")", handled(x, k), k < count ? "throws.IllegalStateException" : "" + OUTSIDE);
        }
    }

    private static void dueFailed(HandlingRules x, int... ruleAndHow) {
        for (int i = 0; i < ruleAndHow.length / 2; i++) {
            due("failed(" + i + ", 0)", x.failed(i, 0), ruleAndHow[2 * i]);
            due("failed(" + i + ", 1)", x.failed(i, 1), ruleAndHow[2 * i + 1]);
        }
        due("failed behind the last", x.failed(ruleAndHow.length / 2, 0), NONE);
        due("how behind the last", x.failed(ruleAndHow.length / 2, 1), NONE);
    }

    // ---- What it is

    private static void all512Calls() {
        HandlingRules x = fresh();
        x.rule(0, 0, 0);
        x.code(0, PUT, 1);
        x.code(0, ADD_CELL, 0);
        x.code(0, KEEP, 0);
        x.code(0, GIVE, 2);
        x.test(0);
        x.day(0, 0);
        for (int call = 8; call < 512; call++) {
            due("ask, call " + call, x.ask(0), 1);
        }
        due("cell, call 512", x.cell(0), 512 - 8);
        HandlingRules y = fresh();
        toldPlain(y, 0, PUT, 10, GIVE, 0);
        toldPlain(y, 1, PUT, 11, GIVE, 0);
        y.test(0);
        y.test(1);
        for (int call = 9; call < 511; call++) {
            due("day, call " + call, y.day(call % 2, 7), 1);
        }
        due("ask, call 511", y.ask(7), 1);
        due("told latest, call 512", y.answer(0), 10);
    }

    // ---- Terms

    private static void factsAtFirst() {
        for (int f = 0; f < 8; f++) {
            HandlingRules x = fresh();
            toldPlain(x, 0, FACT, f, GIVE, 0, FACT, f, FACT, f, SUB, 0, GIVE, 1);
            use(x, 0, 0);
            due("ask", x.ask(0), 2);
            due("fact " + f + " at first", x.answer(0), 0);
            x.fact(f, MIN);
            x.ask(0);
            due("a long", x.answer(0), MIN);
            x.fact(f, MAX);
            x.ask(0);
            due("a long", x.answer(0), MAX);
            x.fact((f + 1) % 8, 5);
            x.ask(0);
            due("not by another fact", x.answer(0), MAX);
        }
    }

    private static void editionStates() {
        for (int e = 0; e < 6; e++) {
            HandlingRules x = fresh();
            due("at first", x.edition(e, 0), EMPTY);
            x.rule(e, 0, 0);
            due("with a rule", x.edition(e, 0), TOLD);
            x.test(e);
            due("behind a test", x.edition(e, 0), READY);
            x = fresh();
            toldPlain(x, e, ADD, 0);
            x.test(e);
            due("behind one that fails", x.edition(e, 0), BARRED);
            for (int other = 0; other < 6; other++) {
                if (other != e) {
                    due("another one", x.edition(other, 0), EMPTY);
                }
            }
        }
        due("edition -1", fresh().edition(-1, 0), OUTSIDE);
        due("edition 6", fresh().edition(6, 0), OUTSIDE);
    }

    private static HandlingRules fortyRules() {
        HandlingRules x = fresh();
        for (int i = 0; i < 40; i++) {
            due("rule " + i, x.rule(i / 8, 0, 0), i);
        }
        return x;
    }

    private static void fortyAtMost() {
        HandlingRules x = fortyRules();
        due("in an edition that is EMPTY", x.rule(5, 0, 0), ROOM);
        due("it stays so", x.edition(5, 0), EMPTY);
        due("without a rule", x.edition(5, 1), 0);
        due("39 is a rule", x.code(39, END, 0), 1);
        due("40 is none", x.code(40, END, 0), UNKNOWN);
        x.test(4);
        due("no room by a test", x.rule(5, 0, 0), ROOM);
        HandlingRules y = fresh();
        for (int i = 0; i < 39; i++) {
            y.rule(i / 7, 0, 0);
        }
        due("the fortieth", y.rule(5, 0, 0), 39);
        due("no other in its edition, with 5", y.rule(5, 0, 0), ROOM);
        due("with 5", y.edition(5, 1), 5);
    }

    private static void eightOfAnEdition() {
        for (int e = 0; e < 6; e++) {
            HandlingRules x = fresh();
            for (int i = 0; i < 8; i++) {
                due("of edition " + e, x.rule(e, i, i), i);
                due("so many", x.edition(e, 1), i + 1);
            }
            due("the ninth", x.rule(e, 0, 0), ROOM);
            due("still eight", x.edition(e, 1), 8);
            due("of another edition", x.rule((e + 1) % 6, 0, 0), 8);
            due("all eight are done", x.test(e), 0);
        }
    }

    private static void ranks() {
        HandlingRules x = fresh();
        for (int rank : new int[] {-1, 10, LEAST, MOST}) {
            due("rank " + rank, x.rule(0, rank, 0), OUTSIDE);
        }
        due("rank 0", x.rule(0, 0, 0), 0);
        due("rank 9", x.rule(0, 9, 0), 1);
    }

    private static void names() {
        HandlingRules x = fresh();
        for (int name : new int[] {-1, 100, LEAST, MOST}) {
            due("name " + name, x.rule(0, 0, name), OUTSIDE);
        }
        due("name 0", x.rule(0, 0, 0), 0);
        due("name 99", x.rule(0, 0, 99), 1);
        due("a name twice", x.rule(0, 0, 99), 2);
    }

    private static void twelveInstructions() {
        HandlingRules x = fresh();
        x.rule(0, 0, 0);
        x.rule(0, 0, 1);
        for (int i = 1; i <= 6; i++) {
            due("put", x.code(0, PUT, i), 2 * i - 1);
            due("give", x.code(0, GIVE, 0), 2 * i);
        }
        due("the thirteenth", x.code(0, PUT, 7), ROOM);
        due("of another rule", x.code(1, PUT, 7), 1);
        due("all twelve are done", x.test(0), 13);
        x.day(0, 0);
        due("ask", x.ask(0), 1);
        due("the last pair too", x.answer(0), 6);
    }

    private static void cellAtFirst() {
        HandlingRules x = fresh();
        toldPlain(x, 0, CELL, 0, GIVE, 0);
        due("told", x.cell(0), 0);
        use(x, 0, 0);
        due("ask", x.ask(0), 1);
        due("in the program", x.answer(0), 0);
        due("as a call", x.cell(0), 0);
    }

    private static void perhapsAFallback() {
        HandlingRules x = fresh();
        toldPlain(x, 0, PUT, 1, FACT, 0, DIV, 0, GIVE, 0);
        x.fact(0, 1);
        use(x, 0, 0);
        x.fact(0, 0);
        due("fails without one", x.ask(0), 0);
        for (int kind = 0; kind < 4; kind++) {
            due("answer", x.answer(kind), 0);
            due("by", x.by(kind), NONE);
        }
        dueFailed(x, 0, BY_ZERO);
    }

    private static void fourKinds() {
        HandlingRules x = fresh();
        toldPlain(x, 0, PUT, 1, GIVE, 0, PUT, 2, GIVE, 1, PUT, 3, GIVE, 2, PUT, 4, GIVE, 3);
        use(x, 0, 0);
        due("all four", x.ask(0), 4);
        for (int kind = 0; kind < 4; kind++) {
            due("kind " + kind, x.answer(kind), kind + 1);
        }
        due("kind -1", x.answer(-1), 0);
        due("kind 4", x.answer(4), 0);
    }

    // ---- A program

    private static void stackOfEight() {
        dueEnd(WELL, 8, times(8, PUT, 1));
        dueEnd(STACK, 9, times(9, PUT, 1));
        dueEnd(STACK, 9, times(12, PUT, 1));
        dueValue(8, joined(times(7, PUT, 0), one(PUT, 8), one(GIVE, 0)));
        HandlingRules x = fresh();
        toldPlain(x, 0, times(8, PUT, 1));
        toldPlain(x, 0, times(8, PUT, 1));
        int taking = toldPlain(x, 0, NOT, 0);
        due("each rule's own, empty at first", x.test(0), 17);
        dueFailed(x, taking, STACK);
    }

    private static void behindTheLast() {
        dueEnd(WELL, 0);
        dueEnd(WELL, 1, PUT, 1);
        dueEnd(WELL, 12, joined(times(8, PUT, 1), times(4, ADD, 0)));
        dueEndWithin(1, WELL, 0);
    }

    private static void cut() {
        dueEndWithin(1, WELL, 1, PUT, 1);
        dueEndWithin(1, CUT, 1, PUT, 1, PUT, 1);
        dueEndWithin(0, WELL, 1, PUT, 1);
        dueEndWithin(0, CUT, 1, PUT, 1, PUT, 1);
        dueEndWithin(2, WELL, 2, PUT, 1, END, 0, PUT, 1);
        dueEndWithin(2, WELL, 2, PUT, 0, GO, 12, PUT, 1);
        dueEndWithin(2, CUT, 2, PUT, 1, GO, 12, PUT, 1);
        dueEndWithin(2, CUT, 2, PUT, 1, PUT, 1, END, 0);
        dueEndWithin(2, STACK, 2, PUT, 1, ADD, 0, PUT, 1);
        dueEndWithin(2, CUT, 2, PUT, 1, PUT, 1, ADD, 0, ADD, 0);
        dueEndWithin(2, CUT, 2, PUT, 1, PUT, 0, DIV, 0);
        dueEndWithin(3, BY_ZERO, 3, PUT, 1, PUT, 0, DIV, 0);
        dueEndWithin(12, WELL, 12, joined(times(8, PUT, 1), times(4, ADD, 0)));
        dueEndWithin(11, CUT, 11, joined(times(8, PUT, 1), times(4, ADD, 0)));
        dueEndWithin(100, CUT, 100, PUT, 0, GO, -1);
        HandlingRules x = new HandlingRules(2);
        told(x, 0, 0, 0, PUT, 1, PUT, 1);
        int cut = told(x, 0, 1, 0, PUT, 1, PUT, 1, PUT, 1);
        told(x, 0, 2, 0, PUT, 1, PUT, 1);
        due("counted for each program", x.test(0), 6);
        dueFailed(x, cut, CUT);
    }

    private static void hundredSteps() {
        // Fourteen rounds of seven steps, and two behind them.
        long[] loop = {PUT, 1, ADD_CELL, 0, CELL, 0, PUT, 14, LESS, 0, NOT, 0, GO, -6, PUT, 1, GIVE, 0};
        dueEndWithin(100, WELL, 14 * 7 + 2, loop);
        dueEndWithin(99, CUT, 99, loop);
        dueEndWithin(101, CUT, 100, joined(loop, one(END, 0)));
    }

    private static void numbersPut() {
        for (long n : new long[] {MIN, MIN + 1, -WIDE, -1, 0, 1, WIDE, MAX - 1, MAX}) {
            dueValue(n, PUT, n, GIVE, 0);
        }
    }

    private static void factsPut() {
        for (int f = 0; f < 8; f++) {
            dueValue(100 + f, FACT, f, GIVE, 0);
        }
    }

    private static void wrapping() {
        dueValue(MIN, PUT, MAX, PUT, 1, ADD, 0, GIVE, 0);
        dueValue(MAX, PUT, MIN, PUT, -1, ADD, 0, GIVE, 0);
        dueValue(0, PUT, MIN, PUT, MIN, ADD, 0, GIVE, 0);
        dueValue(MAX, PUT, MIN, PUT, 1, SUB, 0, GIVE, 0);
        dueValue(MIN, PUT, MAX, PUT, -1, SUB, 0, GIVE, 0);
        dueValue(MIN, PUT, 0, PUT, MIN, SUB, 0, GIVE, 0);
        dueValue(-2, PUT, MAX, PUT, 2, MUL, 0, GIVE, 0);
        dueValue(MIN, PUT, MIN, PUT, -1, MUL, 0, GIVE, 0);
        dueValue(0, PUT, WIDE, PUT, WIDE, MUL, 0, GIVE, 0);
        dueValue(1, PUT, MAX, PUT, MAX, MUL, 0, GIVE, 0);
    }

    private static final long[][] QUOTIENTS = {{7, 2, 3}, {-7, 2, -3}, {7, -2, -3}, {-7, -2, 3}, {1, 2, 0}, {-1, 2, 0},
        {0, -1, 0}, {MIN, -1, MIN}, {MIN, 1, MIN}, {MAX, -1, -MAX}, {MIN, MIN, 1}, {MAX, MIN, 0}, {MIN, MAX, -1},
        {WIDE, 2, WIDE / 2}};

    private static void towardsZero() {
        for (long[] q : QUOTIENTS) {
            dueValue(q[2], PUT, q[0], PUT, q[1], DIV, 0, GIVE, 0);
        }
    }

    private static void comparing() {
        long[][] dues = {{1, 2, 1, 0}, {2, 1, 0, 0}, {2, 2, 0, 1}, {MIN, MAX, 1, 0}, {MAX, MIN, 0, 0}, {MIN, MIN, 0, 1},
            {-1, 0, 1, 0}, {0, WIDE, 1, 0}, {WIDE, 0, 0, 0}, {MAX, MAX, 0, 1}, {MIN, 1, 1, 0}};
        for (long[] d : dues) {
            dueValue(d[2], PUT, d[0], PUT, d[1], LESS, 0, GIVE, 0);
            dueValue(d[3], PUT, d[0], PUT, d[1], EQUAL, 0, GIVE, 0);
        }
    }

    private static void oneIfZero() {
        dueValue(1, PUT, 0, NOT, 0, GIVE, 0);
        for (long v : new long[] {1, -1, 2, WIDE, MIN, MAX}) {
            dueValue(0, PUT, v, NOT, 0, GIVE, 0);
        }
    }

    private static void goingOn() {
        dueValue(1, PUT, 1, PUT, 0, GO, 1, GIVE, 0);
        dueValue(1, PUT, 1, PUT, 2, PUT, 0, GO, 2, GIVE, 1, GIVE, 0, GIVE, 0);
        for (long v : new long[] {1, -1, WIDE, MIN, MAX}) {
            dueValue(5, PUT, v, GO, 12, PUT, 5, GIVE, 0);
        }
        HandlingRules x = fresh();
        x.rule(0, 0, 0);
        for (long n : new long[] {0, -13, 13, WIDE, WIDE + 1, MIN, MAX}) {
            due("go " + n, x.code(0, GO, n), OUTSIDE);
        }
        due("go -12", x.code(0, GO, -12), 1);
        due("go 12", x.code(0, GO, 12), 2);
        due("go -1", x.code(0, GO, -1), 3);
        due("go 1", x.code(0, GO, 1), 4);
    }

    private static void beforeTheFirst() {
        for (int n : new int[] {-1, -2, -12}) {
            dueEndWithin(50, CUT, 50, PUT, 0, GO, n);
        }
        dueEnd(WELL, 2, PUT, 1, GO, -12);
        // Each round from the first one leaves one more on the stack; one from the second leaves none.
        for (int n : new int[] {-2, -3, -12}) {
            dueEnd(STACK, 7 * 3 + 2, PUT, 1, PUT, 0, GO, n);
        }
        dueEnd(CUT, 100, PUT, 1, PUT, 0, GO, -1);
        long[] eleven = {PUT, 5, PUT, 1, GIVE, 1, PUT, 1, GIVE, 1, PUT, 1, GIVE, 1, PUT, 1, GIVE, 1, PUT, 1, NOT, 0};
        dueEnd(STACK, 7 * 12 + 2, joined(eleven, one(GO, -12)));
        dueEnd(STACK, 7 * 12 + 2, joined(eleven, one(GO, -11)));
        dueEnd(CUT, 100, joined(eleven, one(GO, -10)));
    }

    private static void goneBehindTheLast() {
        dueEnd(WELL, 2, PUT, 0, GO, 1);
        dueEnd(WELL, 2, PUT, 0, GO, 2);
        dueEnd(WELL, 2, PUT, 0, GO, 12);
        dueEnd(WELL, 2, PUT, 0, GO, 2, ADD, 0);
        dueEnd(STACK, 3, PUT, 0, GO, 1, ADD, 0);
        dueEnd(WELL, 2, joined(one(PUT, 0), one(GO, 11), times(10, ADD, 0)));
        dueEnd(WELL, 2, joined(one(PUT, 0), one(GO, 12), times(10, ADD, 0)));
        dueEnd(STACK, 3, joined(one(PUT, 0), one(GO, 10), times(10, ADD, 0)));
        dueEnd(WELL, 3, joined(one(PUT, 0), one(GO, 10), times(9, ADD, 0), one(END, 0)));
    }

    private static void inPlaceOfAnEarlier() {
        dueValue(2, PUT, 1, GIVE, 0, PUT, 2, GIVE, 0);
        dueValue(0, PUT, 1, GIVE, 0, PUT, 0, GIVE, 0);
        dueValue(MIN, PUT, 1, PUT, MIN, PUT, 2, GIVE, 0, GIVE, 0);
        HandlingRules x = fresh();
        x.rule(0, 0, 0);
        for (long n : new long[] {-1, 4, WIDE, MIN, MAX}) {
            due("give " + n, x.code(0, GIVE, n), OUTSIDE);
        }
        due("give 0", x.code(0, GIVE, 0), 1);
        due("give 3", x.code(0, GIVE, 3), 2);
    }

    private static void addedToTheCell() {
        HandlingRules x = fresh();
        toldPlain(x, 0, FACT, 0, ADD_CELL, 0, CELL, 0, GIVE, 0);
        use(x, 0, 0);
        long[][] factAndCell = {{MAX, MAX}, {1, MIN}, {MIN, 0}, {-1, -1}, {MIN, MAX}, {0, MAX}};
        for (long[] d : factAndCell) {
            x.fact(0, d[0]);
            due("ask", x.ask(0), 1);
            due("cell with " + d[0] + " more", x.cell(0), d[1]);
            due("put on the stack", x.answer(0), d[1]);
        }
    }

    private static HandlingRules sixteenKept(long... third) {
        HandlingRules x = withFacts();
        told(x, 0, 0, 0, times(8, KEEP, 1));
        told(x, 0, 1, 0, times(8, KEEP, 7));
        told(x, 0, 2, 0, third);
        x.test(0);
        return x;
    }

    private static void sixteenHandles() {
        HandlingRules x = sixteenKept();
        dueFailed(x);
        dueHandles(x, 16);
        x = sixteenKept(KEEP, 0, END, 0);
        dueFailed(x, 2, HANDLE);
        dueHandles(x, 16);
        x = sixteenKept(PUT, 15, USE, 0);
        dueFailed(x);
        x = withFacts();
        told(x, 0, 0, 0, times(8, KEEP, 1));
        told(x, 0, 1, 0, joined(times(7, KEEP, 2), one(END, 0)));
        told(x, 0, 2, 0, KEEP, 3, GIVE, 0, PUT, 15, USE, 0, GIVE, 1, PUT, 0, USE, 0, GIVE, 2);
        use(x, 0, 0);
        for (int call = 0; call < 2; call++) {
            due("as many in each call", x.ask(0), 3);
            due("the last number", x.answer(0), 15);
            due("the last one's fact", x.answer(1), 103);
            due("the first one's fact", x.answer(2), 101);
        }
        HandlingRules y = fresh();
        y.rule(0, 0, 0);
        for (long n : new long[] {-1, 8, WIDE, MIN, MAX}) {
            due("keep " + n, y.code(0, KEEP, n), OUTSIDE);
        }
        due("keep 0", y.code(0, KEEP, 0), 1);
        due("keep 7", y.code(0, KEEP, 7), 2);
    }

    private static void usingHandles() {
        for (int f = 0; f < 8; f++) {
            dueValue(100 + f, KEEP, f, USE, 0, GIVE, 0);
        }
        dueValue(107, KEEP, 0, KEEP, 7, USE, 0, GIVE, 0);
        dueValue(100, KEEP, 0, KEEP, 7, PUT, 0, USE, 0, GIVE, 0);
        dueValue(105, KEEP, 5, KEEP, 5, USE, 0, GIVE, 0);
        for (long k : new long[] {-1, 1, WIDE, -WIDE, MIN, MAX}) {
            dueEnd(HANDLE, 3, KEEP, 0, PUT, k, USE, 0);
        }
        dueEnd(WELL, 9, joined(one(KEEP, 0), times(7, PUT, 0), one(USE, 0)));
    }

    private static void overByFifteen() {
        dueEnd(WELL, 1, END, 0);
        dueEnd(WELL, 1, joined(one(END, 0), times(11, ADD, 0)));
        dueEnd(WELL, 9, joined(times(8, PUT, 0), one(END, 0), one(PUT, 0)));
    }

    // ---- How it fails

    private static void quotientByZero() {
        for (long a : new long[] {0, 1, MIN, MAX}) {
            dueEnd(BY_ZERO, 3, PUT, a, PUT, 0, DIV, 0, END, 0);
        }
        dueEnd(WELL, 3, PUT, 0, PUT, 1, DIV, 0);
        dueEnd(WELL, 3, PUT, 1, PUT, WIDE, DIV, 0);
        dueEnd(STACK, 2, PUT, 0, DIV, 0);
        dueEnd(BY_ZERO, 9, joined(times(8, PUT, 0), one(DIV, 0)));
    }

    private static void tooFewOrTooMany() {
        for (int op = ADD; op <= EQUAL; op++) {
            dueEnd(STACK, 1, op, 0);
            dueEnd(STACK, 2, PUT, 1, op, 0);
            dueEnd(WELL, 3, PUT, 1, PUT, 1, op, 0);
            dueEnd(STACK, 4, PUT, 1, PUT, 1, op, 0, op, 0);
            dueEnd(WELL, 9, joined(times(8, PUT, 1), one(op, 0)));
        }
        long[][] takingOne = {{NOT, 0}, {GO, 1}, {GIVE, 3}, {ADD_CELL, 0}, {USE, 0}};
        for (long[] op : takingOne) {
            dueEnd(STACK, 1, op);
            dueEnd(WELL, 2, joined(one(KEEP, 0), op));
            dueEnd(WELL, 9, joined(one(KEEP, 0), times(7, PUT, 0), op));
        }
        long[][] putting = {{PUT, 0}, {FACT, 0}, {CELL, 0}, {KEEP, 0}};
        for (long[] op : putting) {
            dueEnd(WELL, 8, joined(times(7, PUT, 1), op));
            dueEnd(STACK, 9, joined(times(8, PUT, 1), op));
        }
        dueEnd(WELL, 9, joined(times(8, PUT, 1), one(END, 0)));
    }

    private static void askedBehindThree() {
        dueEnd(STACK, 1, USE, 0);
        dueEnd(HANDLE, 2, PUT, 0, USE, 0);
        dueFailed(sixteenKept(joined(times(8, PUT, 0), one(KEEP, 0))), 2, STACK);
        dueFailed(sixteenKept(joined(times(7, PUT, 0), one(KEEP, 0))), 2, HANDLE);
        dueFailed(sixteenKept(USE, 0), 2, STACK);
        dueFailed(sixteenKept(PUT, 16, USE, 0), 2, HANDLE);
    }

    private static void nothingIsKept() {
        HandlingRules x = fresh();
        told(x, 0, 0, 0, joined(times(8, PUT, 0), one(KEEP, 0)));
        x.test(0);
        dueFailed(x, 0, STACK);
        dueHandles(x, 0);
        x = fresh();
        told(x, 0, 0, 0, times(9, KEEP, 0));
        told(x, 0, 1, 0, KEEP, 0);
        x.test(0);
        dueFailed(x, 0, STACK);
        dueHandles(x, 9);
        x = sixteenKept(KEEP, 0);
        dueFailed(x, 2, HANDLE);
        dueHandles(x, 16);
        x = fresh();
        toldPlain(x, 0, PUT, 5, USE, 0);
        x.test(0);
        dueHandles(x, 0);
    }

    /** Ways to end badly once fact 0 is 0 (with 1 the test is well); the limit is 12 steps. */
    private static Map<Integer, long[]> badEnds() {
        Map<Integer, long[]> ends = new LinkedHashMap<>();
        ends.put(CUT, new long[] {FACT, 0, GO, -1});
        ends.put(BY_ZERO, new long[] {PUT, 1, FACT, 0, DIV, 0});
        ends.put(STACK, new long[] {FACT, 0, GO, 2, END, 0, ADD, 0});
        ends.put(HANDLE, new long[] {KEEP, 0, GIVE, 3, FACT, 0, NOT, 0, USE, 0});
        return ends;
    }

    private static void hasAnsweredNothing() {
        badEnds().forEach((how, end) -> {
            HandlingRules x = new HandlingRules(12);
            int bad = told(x, 0, 1, 0, joined(new long[] {PUT, 6, ADD_CELL, 0, PUT, 9, GIVE, 1}, end));
            int well = told(x, 0, 2, 0, PUT, 8, GIVE, 1);
            x.fact(0, 1);
            use(x, 0, 0);
            x.ask(0);
            due("well", x.answer(1), 9);
            due("cell", x.cell(bad), 6);
            x.fact(0, 0);
            due("kinds answered with " + how, x.ask(0), 1);
            dueFailed(x, bad, how);
            due("the other's counts", x.answer(1), 8);
            due("by it", x.by(1), well);
            due("no other kind", x.by(3), NONE);
            due("its cell", x.cell(bad), 6);
            x.fact(0, 1);
            x.ask(0);
            due("well again", x.answer(1), 9);
            due("from the cell as it was", x.cell(bad), 12);
        });
    }

    private static void fallbackIsItsAnswer() {
        badEnds().forEach((how, end) -> {
            HandlingRules x = new HandlingRules(12);
            int bad = told(x, 0, 1, 0, joined(new long[] {PUT, 9, GIVE, 1}, end));
            told(x, 0, 2, 0, PUT, 8, GIVE, 0);
            x.fallback(bad, 0, MIN);
            x.fact(0, 1);
            use(x, 0, 0);
            x.ask(0);
            due("not when it is well", x.answer(0), 8);
            x.fact(0, 0);
            due("kinds answered with " + how, x.ask(0), 1);
            due("before a later rule's", x.answer(0), MIN);
            due("by it", x.by(0), bad);
            due("nothing else of it", x.by(1), NONE);
        });
        HandlingRules y = fresh();
        int bad = toldPlain(y, 0, PUT, 1, FACT, 0, DIV, 0);
        y.fallback(bad, 2, 0);
        y.fact(0, 1);
        use(y, 0, 0);
        y.fact(0, 0);
        due("a fallback of 0 is an answer", y.ask(0), 1);
        due("by", y.by(2), bad);
    }

    // ---- Order, tests, askings

    private static void order() {
        HandlingRules x = fresh();
        int[][] rankAndName = {{9, 99}, {9, 0}, {0, 99}, {0, 0}, {0, 99}, {1, 0}, {0, 0}, {9, 99}};
        for (int[] r : rankAndName) {
            told(x, 0, r[0], r[1], ADD, 0);
        }
        due("test", x.test(0), 8);
        dueFailed(x, 3, STACK, 6, STACK, 2, STACK, 4, STACK, 5, STACK, 1, STACK, 0, STACK, 7, STACK);
    }

    private static void testDoesAll() {
        for (int bad = 0; bad < 8; bad++) {
            HandlingRules x = fresh();
            for (int i = 0; i < 8; i++) {
                told(x, 2, i, 0, i == bad ? one(ADD, 0) : one(KEEP, 0));
            }
            due("all steps, with " + bad + " failing", x.test(2), 8);
            due("BARRED", x.edition(2, 0), BARRED);
            dueFailed(x, bad, STACK);
            dueHandles(x, 7);
        }
        HandlingRules y = fresh();
        toldPlain(y, 0, PUT, 1, FACT, 0, DIV, 0);
        toldPlain(y, 1, PUT, 1, FACT, 0, DIV, 0);
        y.fact(0, 5);
        y.test(0);
        y.fact(0, 0);
        y.test(1);
        due("by the facts at its test", y.edition(0, 0), READY);
        due("by the facts at its own", y.edition(1, 0), BARRED);
        y.fact(0, 5);
        due("BARRED for good", y.test(1), STATE);
        HandlingRules z = new HandlingRules(1);
        toldPlain(z, 0, PUT, 1, PUT, 1);
        due("cut", z.test(0), 1);
        due("is BARRED too", z.edition(0, 0), BARRED);
    }

    private static void testLeavesCells() {
        HandlingRules x = fresh();
        int a = told(x, 0, 0, 0, PUT, 4, ADD_CELL, 0);
        int b = told(x, 0, 1, 0, PUT, 4, ADD_CELL, 0, ADD, 0);
        x.test(0);
        due("of one that is well", x.cell(a), 0);
        due("of one that fails", x.cell(b), 0);
        int c = toldPlain(x, 1, PUT, 4, ADD_CELL, 0, CELL, 0, GIVE, 0);
        use(x, 1, 0);
        due("READY", x.cell(c), 0);
        x.ask(0);
        due("the first asking begins with 0", x.answer(0), 4);
    }

    private static void inForceWhenTold() {
        HandlingRules x = fresh();
        toldPlain(x, 0, PUT, 1, GIVE, 0);
        due("TOLD", x.ask(100000), NONE);
        x.test(0);
        due("READY, no day", x.ask(100000), NONE);
        due("no day", x.edition(0, 2), NONE);
        x.day(0, 0);
        due("with its day", x.ask(0), 1);
    }

    private static HandlingRules threeEditions(int first, int second, int third) {
        HandlingRules x = fresh();
        int[] from = {first, second, third};
        for (int e = 0; e < 3; e++) {
            toldPlain(x, e, PUT, e, GIVE, 0);
            x.test(e);
            x.day(e, from[e]);
        }
        return x;
    }

    /** The edition that answers for a day, NONE if none does. */
    private static int editionOf(HandlingRules x, int begun) {
        return x.ask(begun) == NONE ? NONE : (int) x.answer(0);
    }

    private static void latestDay() {
        HandlingRules x = threeEditions(10, 5, 20);
        int[][] dues = {{0, NONE}, {4, NONE}, {5, 1}, {6, 1}, {9, 1}, {10, 0}, {11, 0}, {19, 0}, {20, 2}, {21, 2},
            {100000, 2}};
        for (int[] d : dues) {
            due("begun on " + d[0], editionOf(x, d[0]), d[1]);
        }
        HandlingRules y = threeEditions(0, 99999, 100000);
        due("the first day", editionOf(y, 0), 0);
        due("the last but two", editionOf(y, 99998), 0);
        due("the last but one", editionOf(y, 99999), 1);
        due("the last day", editionOf(y, 100000), 2);
    }

    private static void toldLatest() {
        due("the last of three", editionOf(threeEditions(7, 7, 7), 7), 2);
        HandlingRules x = threeEditions(7, 7, 7);
        x.day(0, 7);
        due("the same day told again", editionOf(x, 7), 0);
        x.day(1, 6);
        due("an earlier day told later", editionOf(x, 7), 0);
        due("on that day", editionOf(x, 6), 1);
        x.day(1, 7);
        due("back again", editionOf(x, 7), 1);
        x.day(1, 8);
        due("gone again: the one before it", editionOf(x, 7), 0);
    }

    private static void firstAnswer() {
        HandlingRules x = fresh();
        told(x, 0, 1, 0, PUT, 1, GIVE, 0, PUT, 1, GIVE, 1);
        told(x, 0, 0, 0, PUT, 0, GIVE, 1, PUT, 5, GIVE, 2);
        told(x, 0, 1, 0, PUT, 2, GIVE, 0, PUT, 2, GIVE, 2, PUT, 2, GIVE, 3);
        use(x, 0, 0);
        due("kinds", x.ask(0), 4);
        long[] values = {1, 0, 5, 2};
        int[] givers = {0, 1, 1, 2};
        for (int kind = 0; kind < 4; kind++) {
            due("answer(" + kind + ")", x.answer(kind), values[kind]);
            due("by(" + kind + ")", x.by(kind), givers[kind]);
        }
        HandlingRules y = fresh();
        int first = told(y, 0, 0, 0, PUT, 5, GIVE, 2);
        int failing = told(y, 0, 1, 0, PUT, 1, FACT, 0, DIV, 0);
        y.fallback(failing, 2, 9);
        y.fact(0, 1);
        use(y, 0, 0);
        y.fact(0, 0);
        due("kinds", y.ask(0), 1);
        due("a fallback behind an answer does not count", y.answer(2), 5);
        due("by the first", y.by(2), first);
    }

    private static void handlesTogether() {
        HandlingRules x = withFacts();
        told(x, 0, 0, 0, KEEP, 3, GIVE, 0);
        told(x, 0, 1, 0, KEEP, 4, GIVE, 1, PUT, 0, USE, 0, GIVE, 2);
        use(x, 0, 0);
        for (int call = 0; call < 3; call++) {
            x.ask(0);
            due("the first number", x.answer(0), 0);
            due("the second one", x.answer(1), 1);
            due("the first rule's handle", x.answer(2), 103);
            dueHandles(x, 2);
        }
        HandlingRules y = withFacts();
        toldPlain(y, 0, KEEP, 3);
        y.test(0);
        toldPlain(y, 1, PUT, 0, USE, 0, KEEP, 3);
        y.test(1);
        dueFailed(y, 1, HANDLE);
        dueHandles(y, 0);
        HandlingRules z = withFacts();
        told(z, 0, 0, 0, FACT, 0, GO, 3, PUT, 0, USE, 0);
        told(z, 0, 1, 0, KEEP, 3);
        z.fact(0, 0);
        use(z, 0, 0);
        z.fact(0, 1);
        z.ask(0);
        dueFailed(z, 0, HANDLE);
        dueHandles(z, 1);
    }

    // ---- Refusals

    private static void firstRefusal() {
        HandlingRules x = world();
        due("rule: OUTSIDE, STATE", x.rule(0, 10, 0), OUTSIDE);
        due("rule: OUTSIDE, STATE", x.rule(3, 0, -1), OUTSIDE);
        due("rule: OUTSIDE, ROOM", x.rule(2, -1, 0), OUTSIDE);
        due("code: UNKNOWN, OUTSIDE", x.code(99, 16, 0), UNKNOWN);
        due("code: UNKNOWN, OUTSIDE", x.code(-1, GO, 0), UNKNOWN);
        due("code: OUTSIDE, STATE", x.code(0, 16, 0), OUTSIDE);
        due("code: OUTSIDE, STATE", x.code(0, GO, 0), OUTSIDE);
        due("code: OUTSIDE, ROOM", x.code(FULL, FACT, 8), OUTSIDE);
        due("fallback: UNKNOWN, OUTSIDE", x.fallback(99, 4, 0), UNKNOWN);
        due("fallback: OUTSIDE, STATE", x.fallback(0, 4, 0), OUTSIDE);
        due("day: OUTSIDE, STATE", x.day(5, -1), OUTSIDE);
        due("day: OUTSIDE, STATE", x.day(3, 100001), OUTSIDE);
        due("divide: UNKNOWN, by 0", divided(x, 99, 1, 0), UNKNOWN);
        x.test(2);
        due("rule: STATE, ROOM", x.rule(2, 0, 0), STATE);
        due("code: STATE, ROOM", x.code(FULL, PUT, 0), STATE);
        HandlingRules y = fortyRules();
        y.test(4);
        due("rule: STATE, ROOM of all", y.rule(4, 0, 0), STATE);
        due("rule: OUTSIDE, ROOM of all", y.rule(6, 0, 0), OUTSIDE);
    }

    /** The number of the rule in world() with twelve instructions. */
    private static final int FULL = 4;

    /**
     * Editions 0 and 1 READY and in force from 10 and 20, 2 TOLD and full, 3 BARRED, 4 TOLD, 5 EMPTY; the latest
     * asking has answers, one failure and a handle; cells are not 0.
     */
    private static HandlingRules world() {
        HandlingRules x = new HandlingRules(30);
        told(x, 0, 0, 0, KEEP, 1, ADD_CELL, 0, PUT, 3, ADD_CELL, 0, CELL, 0, GIVE, 1);
        told(x, 0, 1, 0, PUT, 1, FACT, 0, DIV, 0, GIVE, 2);
        x.fallback(1, 2, 77);
        told(x, 1, 0, 0, CELL, 0, GIVE, 0, FACT, 0, ADD_CELL, 0);
        told(x, 3, 0, 0, ADD, 0);
        told(x, 2, 5, 5, joined(times(8, PUT, 1), times(4, ADD, 0)));
        for (int i = 1; i < 8; i++) {
            x.rule(2, i, i);
        }
        told(x, 4, 0, 0, PUT, 2, GIVE, 3);
        x.fact(0, 1);
        x.test(0);
        x.test(1);
        x.day(1, 20);
        x.day(0, 10);
        x.ask(20);
        x.test(3);
        x.fact(0, 0);
        x.ask(15);
        return x;
    }

    private static void read(HandlingRules x, List<Object> seen) {
        for (int kind = 0; kind < 4; kind++) {
            seen.add("answer " + x.answer(kind) + " by " + x.by(kind));
        }
        for (int i = 0; i < 3; i++) {
            seen.add("failed " + x.failed(i, 0) + " how " + x.failed(i, 1) + " handle " + handled(x, i));
        }
        for (int e = 0; e < 6; e++) {
            seen.add("edition " + x.edition(e, 0) + " " + x.edition(e, 1) + " " + x.edition(e, 2));
        }
        for (int r = 0; r < 5; r++) {
            seen.add("cell " + x.cell(r));
        }
    }

    /** What can be seen of an object, and of what it does from there on. */
    private static List<Object> portrait(HandlingRules x) {
        List<Object> seen = new ArrayList<>();
        read(x, seen);
        seen.add(x.same(0, 1) + " " + x.same(FULL, FULL) + " " + x.same(5, 6));
        seen.add("rule " + x.rule(5, 0, 0));
        seen.add("code " + x.code(12, PUT, 4) + " " + x.code(5, PUT, 1) + " " + x.code(FULL, PUT, 1));
        seen.add("ask " + x.ask(19));
        read(x, seen);
        seen.add("ask " + x.ask(20));
        read(x, seen);
        seen.add("tests " + x.test(2) + " " + x.test(4) + " " + x.test(5));
        seen.add("days " + x.day(4, 10) + " " + x.ask(10));
        read(x, seen);
        return seen;
    }

    private static void refused(String call, Function<HandlingRules, Object> made, Object want) {
        refused(call, HandlingRulesBoundaryTest::world, made, want);
    }

    private static void refused(String call, Supplier<HandlingRules> maker, Function<HandlingRules, Object> made,
            Object want) {
        HandlingRules without = maker.get();
        HandlingRules with = maker.get();
        due(call, made.apply(with), want);
        due("what is seen behind " + call, portrait(with), portrait(without));
    }

    private static void refusedTellings() {
        int[][] outside = {{-1, 0, 0}, {6, 0, 0}, {4, -1, 0}, {4, 10, 0}, {4, 0, -1}, {4, 0, 100}, {5, 10, 0}};
        for (int[] o : outside) {
            refused("rule " + Arrays.toString(o), x -> x.rule(o[0], o[1], o[2]), OUTSIDE);
        }
        refused("rule, READY", x -> x.rule(0, 0, 0), STATE);
        refused("rule, BARRED", x -> x.rule(3, 0, 0), STATE);
        refused("rule, eight", x -> x.rule(2, 0, 0), ROOM);
        refused("rule, forty", HandlingRulesBoundaryTest::fortyRules, x -> x.rule(5, 0, 0), ROOM);
        for (int r : new int[] {-1, 13, 40, LEAST, MOST}) {
            refused("code of " + r, x -> x.code(r, PUT, 0), UNKNOWN);
            refused("fallback of " + r, x -> x.fallback(r, 0, 0), UNKNOWN);
        }
        long[][] codes = {{-1, 0}, {16, 0}, {FACT, 8}, {GO, 0}, {GO, 13}, {GO, -13}, {GIVE, 4}, {KEEP, -1}};
        for (long[] c : codes) {
            refused("code " + Arrays.toString(c), x -> x.code(12, (int) c[0], c[1]), OUTSIDE);
        }
        refused("code, READY", x -> x.code(0, END, 0), STATE);
        refused("code, BARRED", x -> x.code(3, END, 0), STATE);
        refused("code, twelve", x -> x.code(FULL, ADD, 0), ROOM);
        refused("fallback, kind -1", x -> x.fallback(12, -1, 0), OUTSIDE);
        refused("fallback, kind 4", x -> x.fallback(12, 4, 0), OUTSIDE);
        refused("fallback, READY", x -> x.fallback(1, 2, 5), STATE);
        refused("fallback, another kind, READY", x -> x.fallback(1, 0, 5), STATE);
        refused("fallback, BARRED", x -> x.fallback(3, 0, 5), STATE);
        refused("fact -1", x -> x.fact(-1, 9), OUTSIDE);
        refused("fact 8", x -> x.fact(8, 9), OUTSIDE);
    }

    private static void refusedDoings() {
        for (int e : new int[] {-1, 6, LEAST, MOST}) {
            refused("test " + e, x -> x.test(e), OUTSIDE);
            refused("day of " + e, x -> x.day(e, 10), OUTSIDE);
            refused("edition " + e, x -> x.edition(e, 0), OUTSIDE);
            refused("edition, what " + e, x -> x.edition(0, e), OUTSIDE);
        }
        refused("test, READY", x -> x.test(0), STATE);
        refused("test, BARRED", x -> x.test(3), STATE);
        refused("test, EMPTY", x -> x.test(5), STATE);
        for (int d : new int[] {-1, 100001, LEAST, MOST}) {
            refused("day " + d, x -> x.day(1, d), OUTSIDE);
            refused("ask " + d, x -> x.ask(d), OUTSIDE);
        }
        refused("day, EMPTY", x -> x.day(5, 10), STATE);
        refused("day, TOLD", x -> x.day(4, 10), STATE);
        refused("day, BARRED", x -> x.day(3, 10), STATE);
        refused("divide of no rule", x -> divided(x, 13, 1, 1), UNKNOWN);
        refused("divide by 0", x -> divided(x, 0, 1, 0), "throws.ArithmeticException");
        refused("divide", x -> divided(x, 0, 8, 2), 4);
        refused("handle -1", x -> handled(x, -1), OUTSIDE);
        refused("handle 1", x -> handled(x, 1), OUTSIDE);
        refused("handle 0", x -> handled(x, 0), "throws.IllegalStateException");
    }

    // ---- The promises

    private static void promise1() {
        int[][] toldAndKept = {{LEAST, 1}, {-1, 1}, {0, 1}, {1, 1}, {2, 2}, {99, 99}, {100, 100}, {101, 100},
            {MOST, 100}};
        for (int[] s : toldAndKept) {
            dueEndWithin(s[0], CUT, s[1], PUT, 0, GO, -1);
        }
        HandlingRules x = fresh();
        due("no rules: code", x.code(0, PUT, 0), UNKNOWN);
        due("no rules: fallback", x.fallback(0, 0, 0), UNKNOWN);
        due("no rules: divide", divided(x, 0, 1, 1), UNKNOWN);
        due("no rules: cell", x.cell(0), 0);
        due("no rules: same", x.same(0, 0), false);
        for (int e = 0; e < 6; e++) {
            due("no rules: edition", x.edition(e, 1), 0);
        }
        due("the first one's number", x.rule(0, 0, 0), 0);
    }

    private static void promise2() {
        HandlingRules x = fresh();
        for (int e : new int[] {-1, 6, LEAST, MOST}) {
            due("edition " + e, x.rule(e, 0, 0), OUTSIDE);
        }
        due("edition 0", x.rule(0, 0, 0), 0);
        due("edition 5", x.rule(5, 0, 0), 1);
        due("TOLD", x.rule(0, 0, 0), 2);
        x.test(0);
        due("READY", x.rule(0, 0, 0), STATE);
        x.day(0, 0);
        due("in force", x.rule(0, 0, 0), STATE);
        toldPlain(x, 1, ADD, 0);
        x.test(1);
        due("BARRED", x.rule(1, 0, 0), STATE);
        due("the next number", x.rule(2, 0, 0), 4);
    }

    private static void promise3() {
        HandlingRules x = fresh();
        x.rule(0, 0, 0);
        for (int rule : new int[] {-1, 1, 40, LEAST, MOST}) {
            due("rule " + rule, x.code(rule, PUT, 0), UNKNOWN);
        }
        for (int op : new int[] {-1, 16, LEAST, MOST}) {
            due("op " + op, x.code(0, op, 1), OUTSIDE);
        }
        for (long n : new long[] {-1, 8, WIDE, -WIDE, MIN, MAX}) {
            due("fact " + n, x.code(0, FACT, n), OUTSIDE);
        }
        due("fact 0", x.code(0, FACT, 0), 1);
        due("fact 7", x.code(0, FACT, 7), 2);
        due("END", x.code(0, END, MAX), 3);
        x.test(0);
        due("READY", x.code(0, PUT, 0), STATE);
        for (int op = 0; op < 16; op++) {
            boolean bound = op == FACT || op == GO || op == GIVE || op == KEEP;
            for (long n : new long[] {MIN, -13, 13, MAX}) {
                HandlingRules y = fresh();
                y.rule(0, 0, 0);
                due("op " + op + " with " + n, y.code(0, op, n), bound ? OUTSIDE : 1);
            }
        }
    }

    private static void promise4() {
        HandlingRules x = fresh();
        int bad = toldPlain(x, 0, PUT, 1, FACT, 0, DIV, 0);
        for (int rule : new int[] {-1, 1, 40, LEAST, MOST}) {
            due("rule " + rule, x.fallback(rule, 0, 0), UNKNOWN);
        }
        for (int kind : new int[] {-1, 4, LEAST, MOST}) {
            due("kind " + kind, x.fallback(bad, kind, 0), OUTSIDE);
        }
        due("kind 0", x.fallback(bad, 0, 1), 1);
        due("kind 3", x.fallback(bad, 3, 2), 1);
        due("the same kind", x.fallback(bad, 3, MAX), 1);
        x.fact(0, 1);
        use(x, 0, 0);
        due("READY", x.fallback(bad, 3, 4), STATE);
        x.fact(0, 0);
        due("the last one alone", x.ask(0), 1);
        due("its number", x.answer(3), MAX);
        due("not the first one's kind", x.by(0), NONE);
        toldPlain(x, 1, ADD, 0);
        x.test(1);
        due("BARRED", x.fallback(1, 0, 0), STATE);
    }

    private static void promise5() {
        HandlingRules x = fresh();
        for (int f : new int[] {-1, 8, LEAST, MOST}) {
            due("fact " + f, x.fact(f, 1), OUTSIDE);
        }
        for (long v : new long[] {MIN, -1, 0, 1, MAX}) {
            due("fact 0 is " + v, x.fact(0, v), 1);
            due("fact 7 is " + v, x.fact(7, v), 1);
        }
    }

    private static void promise6() {
        HandlingRules x = fresh();
        for (int e : new int[] {-1, 6, LEAST, MOST}) {
            due("edition " + e, x.test(e), OUTSIDE);
        }
        for (int e = 0; e < 6; e++) {
            due("EMPTY", x.test(e), STATE);
            due("it stays so", x.edition(e, 0), EMPTY);
        }
        x.rule(5, 0, 0);
        due("no steps", x.test(5), 0);
        due("READY", x.test(5), STATE);
        x.day(5, 0);
        due("in force", x.test(5), STATE);
        toldPlain(x, 0, ADD, 0);
        due("a step that fails", x.test(0), 1);
        due("BARRED", x.test(0), STATE);
        HandlingRules y = fresh();
        for (int i = 0; i < 8; i++) {
            toldPlain(y, 0, PUT, 0, GO, -1);
        }
        due("the most steps of all", y.test(0), 800);
    }

    private static void promise7() {
        HandlingRules x = fresh();
        toldPlain(x, 0, PUT, 1, GIVE, 0);
        for (int e : new int[] {-1, 6, LEAST, MOST}) {
            due("edition " + e, x.day(e, 0), OUTSIDE);
        }
        due("EMPTY", x.day(5, 0), STATE);
        due("TOLD", x.day(0, 0), STATE);
        x.test(0);
        for (int d : new int[] {-1, 100001, LEAST, MOST}) {
            due("day " + d, x.day(0, d), OUTSIDE);
        }
        due("no day yet", x.edition(0, 2), NONE);
        due("day 0", x.day(0, 0), 1);
        due("from 0", x.edition(0, 2), 0);
        due("day 100000", x.day(0, 100000), 1);
        due("from 100000", x.edition(0, 2), 100000);
        due("not from 0 any more", x.ask(99999), NONE);
        due("from then on", x.ask(100000), 1);
        toldPlain(x, 1, ADD, 0);
        x.test(1);
        due("BARRED", x.day(1, 0), STATE);
    }

    private static void promise8() {
        HandlingRules x = world();
        for (int d : new int[] {-1, 100001, LEAST, MOST}) {
            due("day " + d, x.ask(d), OUTSIDE);
        }
        long cell = x.cell(0);
        due("answered before", x.by(1), 0);
        due("none in force", x.ask(9), NONE);
        due("day 0", x.ask(0), NONE);
        for (int kind = 0; kind < 4; kind++) {
            due("no answer", x.answer(kind), 0);
            due("by none", x.by(kind), NONE);
        }
        due("nothing is done: cell", x.cell(0), cell);
        dueFailed(x);
        dueHandles(x, 0);
        due("day 10", x.ask(10), 2);
        due("day 100000", x.ask(100000), 1);
        HandlingRules y = fresh();
        y.rule(0, 0, 0);
        use(y, 0, 0);
        due("no kind is answered", y.ask(0), 0);
    }

    private static void promise9() {
        HandlingRules x = fresh();
        for (int kind = -1; kind < 5; kind++) {
            due("before any asking", x.answer(kind), 0);
        }
        toldPlain(x, 0, PUT, MIN, GIVE, 0, PUT, MAX, GIVE, 3);
        use(x, 0, 5);
        due("a test gives none", x.answer(0), 0);
        x.ask(5);
        due("kind 0", x.answer(0), MIN);
        due("kind 1", x.answer(1), 0);
        due("kind 3", x.answer(3), MAX);
        for (int kind : new int[] {-1, 4, LEAST, MOST}) {
            due("kind " + kind, x.answer(kind), 0);
        }
        x.ask(-1);
        due("the latest one, not a refused one", x.answer(0), MIN);
        toldPlain(x, 1, PUT, 1, GIVE, 0, PUT, 1, GIVE, 1);
        x.test(1);
        due("the latest one, not a test", x.answer(0), MIN);
        due("nor of another kind", x.answer(1), 0);
        x.ask(4);
        due("the latest one has none", x.answer(0), 0);
    }

    private static void promise10() {
        HandlingRules x = fresh();
        for (int kind = -1; kind < 5; kind++) {
            due("before any asking", x.by(kind), NONE);
        }
        toldPlain(x, 0, PUT, 0, GIVE, 0);
        use(x, 0, 5);
        due("a test gives none", x.by(0), NONE);
        x.ask(5);
        due("rule 0, with an answer of 0", x.by(0), 0);
        due("kind 1", x.by(1), NONE);
        for (int kind : new int[] {-1, 4, LEAST, MOST}) {
            due("kind " + kind, x.by(kind), NONE);
        }
        x.ask(100001);
        due("not a refused one", x.by(0), 0);
        x.ask(4);
        due("the latest one has none", x.by(0), NONE);
        HandlingRules y = fresh();
        for (int i = 0; i < 39; i++) {
            y.rule(i / 8, 0, 0);
        }
        toldPlain(y, 5, PUT, 1, GIVE, 0);
        use(y, 5, 0);
        y.ask(0);
        due("the last rule", y.by(0), 39);
    }

    private static void promise11() {
        HandlingRules x = fresh();
        dueFailed(x);
        for (int i = 0; i < 8; i++) {
            told(x, 0, i, 0, ADD, 0);
        }
        x.test(0);
        dueFailed(x, 0, STACK, 1, STACK, 2, STACK, 3, STACK, 4, STACK, 5, STACK, 6, STACK, 7, STACK);
        for (int i : new int[] {-1, 8, 9, LEAST, MOST}) {
            due("failed(" + i + ", 0)", x.failed(i, 0), NONE);
            due("failed(" + i + ", 1)", x.failed(i, 1), NONE);
        }
        for (int what : new int[] {-1, 2, LEAST, MOST}) {
            due("failed(0, " + what + ")", x.failed(0, what), NONE);
        }
        x.test(0);
        due("a refused test is not the latest", x.failed(7, 0), 7);
        x.ask(-1);
        due("nor a refused asking", x.failed(7, 0), 7);
        x.rule(1, 0, 0);
        x.test(1);
        dueFailed(x);
        failedInAskings();
    }

    private static void failedInAskings() {
        HandlingRules x = new HandlingRules(12);
        int number = 0;
        List<Integer> dues = new ArrayList<>();
        for (Map.Entry<Integer, long[]> end : badEnds().entrySet()) {
            told(x, 0, number, 0, end.getValue());
            dues.add(number++);
            dues.add(end.getKey());
        }
        x.fact(0, 1);
        use(x, 0, 0);
        dueFailed(x);
        x.fact(0, 0);
        x.ask(0);
        dueFailed(x, dues.stream().mapToInt(i -> i).toArray());
        x.fact(0, 1);
        x.ask(0);
        dueFailed(x);
    }

    private static void promise12() {
        HandlingRules x = fresh();
        due("no rule yet", x.cell(0), 0);
        toldPlain(x, 0, PUT, MIN, ADD_CELL, 0);
        use(x, 0, 0);
        x.ask(0);
        due("a rule's", x.cell(0), MIN);
        for (int rule : new int[] {-1, 1, 40, LEAST, MOST}) {
            due("rule " + rule, x.cell(rule), 0);
        }
    }

    private static void promise13() {
        HandlingRules x = world();
        int[][] dues = {{READY, 2, 10}, {READY, 1, 20}, {TOLD, 8, NONE}, {BARRED, 1, NONE}, {TOLD, 1, NONE},
            {EMPTY, 0, NONE}};
        for (int e = 0; e < 6; e++) {
            for (int what = 0; what < 3; what++) {
                due("edition(" + e + ", " + what + ")", x.edition(e, what), dues[e][what]);
            }
            due("what -1", x.edition(e, -1), OUTSIDE);
            due("what 3", x.edition(e, 3), OUTSIDE);
        }
        for (int e : new int[] {-1, 6, LEAST, MOST}) {
            for (int what = -1; what < 4; what++) {
                due("edition(" + e + ", " + what + ")", x.edition(e, what), OUTSIDE);
            }
        }
    }

    private static void promise14() {
        HandlingRules x = fresh();
        toldPlain(x, 0);
        toldPlain(x, 1);
        toldPlain(x, 0, times(12, PUT, MAX));
        toldPlain(x, 0, times(12, PUT, MAX));
        toldPlain(x, 0, times(11, PUT, MAX));
        toldPlain(x, 0, joined(times(11, PUT, MAX), one(PUT, MAX - WIDE)));
        toldPlain(x, 0, joined(one(PUT, MIN), times(11, PUT, MAX)));
        toldPlain(x, 0, END, MIN);
        toldPlain(x, 2, END, MAX);
        boolean[][] same = new boolean[9][9];
        for (int r = 0; r < 9; r++) {
            same[r][r] = true;
        }
        for (int[] pair : new int[][] {{0, 1}, {2, 3}, {7, 8}}) {
            same[pair[0]][pair[1]] = true;
            same[pair[1]][pair[0]] = true;
        }
        for (int a = 0; a < 9; a++) {
            for (int b = 0; b < 9; b++) {
                due("same(" + a + ", " + b + ")", x.same(a, b), same[a][b]);
            }
            for (int none : new int[] {-1, 9, 40, LEAST, MOST}) {
                due("same(" + a + ", " + none + ")", x.same(a, none), false);
                due("same(" + none + ", " + a + ")", x.same(none, a), false);
                due("same(" + none + ", " + none + ")", x.same(none, none), false);
            }
        }
        sameForEachInstruction();
    }

    private static void sameForEachInstruction() {
        for (int op = 0; op < 16; op++) {
            boolean has = op == PUT || op == FACT || op == GO || op == GIVE || op == KEEP;
            HandlingRules x = fresh();
            toldPlain(x, 0, op, 1);
            toldPlain(x, 0, op, 3);
            toldPlain(x, 0, op, 1);
            due("another n for " + op, x.same(0, 1), !has);
            due("the same n for " + op, x.same(0, 2), true);
            for (int other = 0; other < 16; other++) {
                HandlingRules y = fresh();
                toldPlain(y, 0, op, 1);
                toldPlain(y, 0, other, 1);
                due("same of " + op + " and " + other, y.same(0, 1), op == other);
            }
        }
    }

    private static void promise15() {
        HandlingRules x = fresh();
        due("no rule yet", divided(x, 0, 1, 1), UNKNOWN);
        x.rule(0, 0, 0);
        for (long[] q : QUOTIENTS) {
            due("divide " + q[0] + " by " + q[1], divided(x, 0, q[0], q[1]), q[2]);
        }
        for (long a : new long[] {0, 1, MIN, MAX}) {
            due("divide " + a + " by 0", divided(x, 0, a, 0), "throws.ArithmeticException");
        }
        for (int rule : new int[] {-1, 1, 40, LEAST, MOST}) {
            due("rule " + rule, divided(x, rule, 1, 1), UNKNOWN);
            due("rule " + rule + " by 0", divided(x, rule, 1, 0), UNKNOWN);
        }
        toldPlain(x, 1, ADD, 0);
        x.test(1);
        due("BARRED", divided(x, 1, 9, 3), 3);
    }

    private static void promise16() {
        HandlingRules x = fresh();
        dueHandles(x, 0);
        toldPlain(x, 0, KEEP, 0);
        dueHandles(x, 0);
        x.test(0);
        dueHandles(x, 1);
        x.day(0, 5);
        dueHandles(x, 1);
        x.ask(5);
        dueHandles(x, 1);
        x.ask(-1);
        x.test(0);
        x.test(6);
        dueHandles(x, 1);
        for (int k : new int[] {LEAST, MOST, 100}) {
            due("handle " + k, handled(x, k), OUTSIDE);
        }
        x.rule(1, 0, 0);
        x.test(1);
        dueHandles(x, 0);
        x.ask(5);
        dueHandles(x, 1);
        x.ask(4);
        dueHandles(x, 0);
        dueHandles(sixteenKept(), 16);
    }

    private static Map<String, Runnable> sentences() {
        Map<String, Runnable> all = new LinkedHashMap<>();
        all.put("An object is used for at most 512 calls", HandlingRulesBoundaryTest::all512Calls);
        all.put("FACTS 0 .. 7 are longs, 0 at first", HandlingRulesBoundaryTest::factsAtFirst);
        all.put("EDITIONS 0 .. 5 are EMPTY (0), TOLD (1) when they have a rule",
            HandlingRulesBoundaryTest::editionStates);
        all.put("RULES are numbered 0, 1, .. (40 at most)", HandlingRulesBoundaryTest::fortyAtMost);
        all.put("each of an edition (8 at most)", HandlingRulesBoundaryTest::eightOfAnEdition);
        all.put("with a RANK 0 .. 9", HandlingRulesBoundaryTest::ranks);
        all.put("and a NAME 0 .. 99", HandlingRulesBoundaryTest::names);
        all.put("a PROGRAM of 12 INSTRUCTIONS at most", HandlingRulesBoundaryTest::twelveInstructions);
        all.put("a CELL (0 at first)", HandlingRulesBoundaryTest::cellAtFirst);
        all.put("and perhaps a FALLBACK", HandlingRulesBoundaryTest::perhapsAFallback);
        all.put("ANSWERS have KINDS 0 way, 1 price, 2 check, 3 hold", HandlingRulesBoundaryTest::fourKinds);
        all.put("over a STACK of 8 longs at most, empty at first", HandlingRulesBoundaryTest::stackOfEight);
        all.put("behind the last one it is over", HandlingRulesBoundaryTest::behindTheLast);
        all.put("before one more than STEPS would be done it is CUT (1)", HandlingRulesBoundaryTest::cut);
        all.put("Each instruction done is a STEP", HandlingRulesBoundaryTest::hundredSteps);
        all.put("0 n is put on the stack", HandlingRulesBoundaryTest::numbersPut);
        all.put("1 fact n (0 .. 7) is", HandlingRulesBoundaryTest::factsPut);
        all.put("their sum, difference, product (wrapping)", HandlingRulesBoundaryTest::wrapping);
        all.put("quotient (towards 0)", HandlingRulesBoundaryTest::towardsZero);
        all.put("1 or 0 whether the first one is less, whether they are equal", HandlingRulesBoundaryTest::comparing);
        all.put("8 takes one: 1 if it is 0, else 0", HandlingRulesBoundaryTest::oneIfZero);
        all.put("if it is 0, it goes n instructions on (-12 .. 12, not 0; from itself",
            HandlingRulesBoundaryTest::goingOn);
        all.put("before the first one it is the first", HandlingRulesBoundaryTest::beforeTheFirst);
        all.put("behind the last one it is over)", HandlingRulesBoundaryTest::goneBehindTheLast);
        all.put("the rule's answer of kind n (0 .. 3), in place of an earlier one",
            HandlingRulesBoundaryTest::inPlaceOfAnEarlier);
        all.put("11 takes one: it is added to the cell", HandlingRulesBoundaryTest::addedToTheCell);
        all.put("(16 at most; one more FAILS)", HandlingRulesBoundaryTest::sixteenHandles);
        all.put("14 takes the number of a handle", HandlingRulesBoundaryTest::usingHandles);
        all.put("15 it is over", HandlingRulesBoundaryTest::overByFifteen);
        all.put("(2) a quotient by 0", HandlingRulesBoundaryTest::quotientByZero);
        all.put("(3) the stack has too few or would have too many", HandlingRulesBoundaryTest::tooFewOrTooMany);
        all.put("(4) there is no such handle, or no room for one (asked behind 3",
            HandlingRulesBoundaryTest::askedBehindThree);
        all.put("nothing is kept with either", HandlingRulesBoundaryTest::nothingIsKept);
        all.put("One that is CUT or FAILS has answered nothing, and its cell is as before",
            HandlingRulesBoundaryTest::hasAnsweredNothing);
        all.put("its FALLBACK, if it has one, is its answer", HandlingRulesBoundaryTest::fallbackIsItsAnswer);
        all.put("by ranks, then by names, then by numbers", HandlingRulesBoundaryTest::order);
        all.put("if one is cut or fails the edition is BARRED, otherwise READY",
            HandlingRulesBoundaryTest::testDoesAll);
        all.put("its rules' cells are as before", HandlingRulesBoundaryTest::testLeavesCells);
        all.put("IN FORCE from a day on, when that is told", HandlingRulesBoundaryTest::inForceWhenTold);
        all.put("in force from the latest day up to that", HandlingRulesBoundaryTest::latestDay);
        all.put("(of several the one told latest)", HandlingRulesBoundaryTest::toldLatest);
        all.put("of each kind the first answer counts", HandlingRulesBoundaryTest::firstAnswer);
        all.put("Handles of all rules of a call are numbered together; behind the call they are over",
            HandlingRulesBoundaryTest::handlesTogether);
        all.put("REFUSALS are answers, of several the first one here", HandlingRulesBoundaryTest::firstRefusal);
        all.put("A call that is refused (of what is told) changes nothing", HandlingRulesBoundaryTest::refusedTellings);
        all.put("A call that is refused, or throws, changes nothing", HandlingRulesBoundaryTest::refusedDoings);
        all.put("Promise 1: below 1 counts as 1, above 100 as 100; no rules", HandlingRulesBoundaryTest::promise1);
        all.put("Promise 2: OUTSIDE (edition, rank, name), STATE (READY or BARRED), ROOM",
            HandlingRulesBoundaryTest::promise2);
        all.put("Promise 3: UNKNOWN, OUTSIDE (op 0 .. 15, its n), STATE, ROOM", HandlingRulesBoundaryTest::promise3);
        all.put("Promise 4: UNKNOWN, OUTSIDE (kind), STATE", HandlingRulesBoundaryTest::promise4);
        all.put("Promise 5: OUTSIDE (f 0 .. 7)", HandlingRulesBoundaryTest::promise5);
        all.put("Promise 6: OUTSIDE, STATE (the edition is not TOLD)", HandlingRulesBoundaryTest::promise6);
        all.put("Promise 7: a day 0 .. 100000 (instead of another day)", HandlingRulesBoundaryTest::promise7);
        all.put("Promise 8: NONE when no edition is in force; OUTSIDE (day 0 .. 100000)",
            HandlingRulesBoundaryTest::promise8);
        all.put("Promise 9: 0 when there is none such", HandlingRulesBoundaryTest::promise9);
        all.put("Promise 10: the rule that gave it; NONE", HandlingRulesBoundaryTest::promise10);
        all.put("Promise 11: NONE when there is none such", HandlingRulesBoundaryTest::promise11);
        all.put("Promise 12: 0 when there is none such", HandlingRulesBoundaryTest::promise12);
        all.put("Promise 13: state, how many rules, from which day (NONE); OUTSIDE",
            HandlingRulesBoundaryTest::promise13);
        all.put("Promise 14: false when there is none such", HandlingRulesBoundaryTest::promise14);
        all.put("Promise 15: UNKNOWN. ArithmeticException: b is 0", HandlingRulesBoundaryTest::promise15);
        all.put("Promise 16: OUTSIDE: it kept no such handle (none before any call)",
            HandlingRulesBoundaryTest::promise16);
        return all;
    }

    public static void main(String[] args) {
        sentences().forEach((quoted, test) -> {
            sentence = quoted;
            test.run();
        });
        System.out.println(sentences().size() + " sentences, " + asked + " answers, " + wrong + " of them not as due");
        if (wrong != 0) {
            System.exit(1);
        }
    }
}
