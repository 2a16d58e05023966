import java.lang.reflect.Constructor;
import java.lang.reflect.Field;
import java.lang.reflect.Method;
import java.lang.reflect.Modifier;
import java.util.Arrays;
import java.util.TreeSet;

/** Promise by promise: ordinary inputs, the edges that the document names, wrong inputs. */
public final class HandlingRulesTest {
    private static final int UNKNOWN = -101, OUTSIDE = -102, STATE = -103, ROOM = -104, NONE = -1;
    private static final int PUT = 0, FACT = 1, ADD = 2, SUB = 3, MUL = 4, DIV = 5, LESS = 6, EQUAL = 7, NOT = 8;
    private static final int GO = 9, GIVE = 10, ADD_CELL = 11, CELL = 12, KEEP = 13, USE = 14, END = 15;
    private static final long MIN = Long.MIN_VALUE, MAX = Long.MAX_VALUE;

    private static int wrong = 0;
    private static int asked = 0;

    private static void due(String what, long got, long want) {
        asked++;
        if (got != want) {
            wrong++;
            System.out.println(what + " answered " + got + ", due is " + want);
        }
    }

    private static void due(String what, boolean got, boolean want) {
        due(what, got ? 1 : 0, want ? 1 : 0);
    }

    private static HandlingRules fresh() {
        return new HandlingRules(100);
    }

    /** Tells a rule of the edition with the program (op, n, op, n, ..): its number. */
    private static int told(HandlingRules x, int edition, int rank, int name, long... program) {
        int rule = x.rule(edition, rank, name);
        due("a rule is told", rule >= 0, true);
        for (int i = 0; i < program.length; i += 2) {
            due("code " + program[i] + " " + program[i + 1], x.code(rule, (int) program[i], program[i + 1]), i / 2 + 1);
        }
        return rule;
    }

    /** What a program answers as kind 0, asked in an edition of its own; it must run well. */
    private static long value(String what, HandlingRules x, long... program) {
        told(x, 5, 0, 0, program);
        x.test(5);
        due(what + ": state", x.edition(5, 0), 2);
        x.day(5, 0);
        due(what + ": kinds answered", x.ask(0), 1);
        return x.answer(0);
    }

    /** How a program of a fresh object fails in a test (NONE: it does not), and in how many steps. */
    private static void dueFault(String what, int how, int steps, long... program) {
        HandlingRules x = fresh();
        told(x, 0, 0, 0, program);
        due(what + ": steps", x.test(0), steps);
        due(what + ": how", x.failed(0, 1), how);
        due(what + ": state", x.edition(0, 0), how == NONE ? 2 : 3);
    }

    private static void ready(HandlingRules x, int edition, int from) {
        x.test(edition);
        due("day(" + edition + ", " + from + ")", x.day(edition, from), 1);
    }

    private static int handleAnswer(HandlingRules x, int k) {
        try {
            return x.handle(k);
        } catch (IllegalStateException e) {
            return 77;
        }
    }

    private static long divideAnswer(HandlingRules x, int rule, long a, long b) {
        try {
            return x.divide(rule, a, b);
        } catch (ArithmeticException e) {
            return 777777;
        }
    }

    private static void face() {
        due("final and public", HandlingRules.class.getModifiers(), Modifier.PUBLIC | Modifier.FINAL);
        due("UNKNOWN", HandlingRules.UNKNOWN, UNKNOWN);
        due("OUTSIDE", HandlingRules.OUTSIDE, OUTSIDE);
        due("STATE", HandlingRules.STATE, STATE);
        due("ROOM", HandlingRules.ROOM, ROOM);
        due("NONE", HandlingRules.NONE, NONE);
        TreeSet<String> seen = new TreeSet<>();
        for (Method m : HandlingRules.class.getDeclaredMethods()) {
            if (!Modifier.isPrivate(m.getModifiers()) && !m.isSynthetic()) {
                seen.add(m.getReturnType() + " " + m.getName() + Arrays.toString(m.getParameterTypes()));
                due(m.getName() + " is public", Modifier.isPublic(m.getModifiers()), true);
                Class<?>[] thrown = m.getName().equals("divide") ? new Class<?>[] {ArithmeticException.class}
                    : m.getName().equals("handle") ? new Class<?>[] {IllegalStateException.class} : new Class<?>[0];
                due(m.getName() + " throws", Arrays.equals(m.getExceptionTypes(), thrown), true);
            }
        }
        for (Field f : HandlingRules.class.getDeclaredFields()) {
            if (!Modifier.isPrivate(f.getModifiers()) && !f.isSynthetic()) {
                seen.add(f.getType() + " " + f.getName());
                int constant = Modifier.PUBLIC | Modifier.STATIC | Modifier.FINAL;
                due(f.getName() + " is a public constant", f.getModifiers(), constant);
            }
        }
        for (Constructor<?> c : HandlingRules.class.getDeclaredConstructors()) {
            seen.add("new" + Arrays.toString(c.getParameterTypes()));
        }
        TreeSet<String> want = new TreeSet<>(Arrays.asList(
            "int UNKNOWN", "int OUTSIDE", "int STATE", "int ROOM", "int NONE", "new[int]",
            "int rule[int, int, int]", "int code[int, int, long]", "int fallback[int, int, long]",
            "int fact[int, long]", "int test[int]", "int day[int, int]", "int ask[int]", "long answer[int]",
            "int by[int]", "int failed[int, int]", "long cell[int]", "int edition[int, int]",
            "boolean same[int, int]", "long divide[int, long, long]", "int handle[int]"));
        if (!seen.equals(want)) {
            System.out.println("the face is " + seen);
        }
        due("the face", seen.equals(want), true);
    }

    private static void promise1NewObject() {
        int[] told = {Integer.MIN_VALUE, -1, 0, 1, 2, 99, 100, 101, Integer.MAX_VALUE};
        int[] kept = {1, 1, 1, 1, 2, 99, 100, 100, 100};
        for (int i = 0; i < told.length; i++) {
            HandlingRules x = new HandlingRules(told[i]);
            told(x, 0, 0, 0, PUT, 0, GO, -1);
            due("steps of " + told[i], x.test(0), kept[i]);
            due("cut with " + told[i], x.failed(0, 1), 1);
        }
        HandlingRules x = fresh();
        for (int e = 0; e < 6; e++) {
            due("new: state", x.edition(e, 0), 0);
            due("new: rules", x.edition(e, 1), 0);
            due("new: day", x.edition(e, 2), NONE);
        }
        for (int kind = 0; kind < 4; kind++) {
            due("new: answer", x.answer(kind), 0);
            due("new: by", x.by(kind), NONE);
        }
        due("new: failed", x.failed(0, 0), NONE);
        due("new: cell", x.cell(0), 0);
        due("new: same", x.same(0, 0), false);
        due("new: divide", divideAnswer(x, 0, 1, 0), UNKNOWN);
        due("new: handle", handleAnswer(x, 0), OUTSIDE);
        due("new: code", x.code(0, 0, 0), UNKNOWN);
        due("new: ask", x.ask(100000), NONE);
        for (int f = 0; f < 8; f++) {
            due("new: fact " + f, value("fact", fresh(), FACT, f, GIVE, 0), 0);
        }
    }

    private static void promise2Rule() {
        HandlingRules x = fresh();
        int[][] outside = {{-1, 0, 0}, {6, 0, 0}, {0, -1, 0}, {0, 10, 0}, {0, 0, -1}, {0, 0, 100},
            {Integer.MIN_VALUE, 0, 0}, {0, Integer.MAX_VALUE, 0}, {0, 0, Integer.MIN_VALUE}};
        for (int[] o : outside) {
            due("rule outside " + Arrays.toString(o), x.rule(o[0], o[1], o[2]), OUTSIDE);
        }
        due("nothing was told", x.edition(0, 0), 0);
        due("rule(5, 9, 99)", x.rule(5, 9, 99), 0);
        due("TOLD", x.edition(5, 0), 1);
        due("rule(0, 0, 0)", x.rule(0, 0, 0), 1);
        x.test(5);
        due("READY", x.rule(5, 0, 0), STATE);
        due("OUTSIDE before STATE", x.rule(5, 10, 0), OUTSIDE);
        told(x, 4, 0, 0, ADD, 0);
        x.test(4);
        due("BARRED", x.rule(4, 0, 0), STATE);
        for (int i = 0; i < 8; i++) {
            due("rule of edition 1", x.rule(1, 0, 0), 3 + i);
        }
        due("ROOM of an edition", x.rule(1, 0, 0), ROOM);
        due("OUTSIDE before ROOM", x.rule(1, 0, 100), OUTSIDE);
        due("eight rules", x.edition(1, 1), 8);
        due("the next number", x.rule(2, 0, 0), 11);
        x.test(1);
        due("STATE before ROOM", x.rule(1, 0, 0), STATE);
        fortyRules();
    }

    private static void fortyRules() {
        HandlingRules x = fresh();
        for (int i = 0; i < 40; i++) {
            due("rule " + i, x.rule(i / 7, 0, 0), i);
        }
        due("forty rules are all", x.rule(5, 0, 0), ROOM);
        due("and no more", x.edition(5, 1), 5);
        due("the last one", x.code(39, END, 0), 1);
        due("none behind it", x.code(40, END, 0), UNKNOWN);
        x.test(5);
        due("STATE before ROOM of all", x.rule(5, 0, 0), STATE);
    }

    private static void promise3Code() {
        HandlingRules x = fresh();
        x.rule(0, 0, 0);
        due("no rule -1", x.code(-1, 0, 0), UNKNOWN);
        due("no rule 1", x.code(1, 0, 0), UNKNOWN);
        due("UNKNOWN before OUTSIDE", x.code(1, 16, 0), UNKNOWN);
        long[][] outside = {{-1, 0}, {16, 0}, {Integer.MIN_VALUE, 0}, {Integer.MAX_VALUE, 0}, {FACT, -1}, {FACT, 8},
            {FACT, 1L << 32}, {GO, 0}, {GO, -13}, {GO, 13}, {GO, (1L << 32) + 1}, {GIVE, -1}, {GIVE, 4},
            {GIVE, 1L << 32}, {KEEP, -1}, {KEEP, 8}, {KEEP, MIN}};
        for (long[] o : outside) {
            due("code outside " + Arrays.toString(o), x.code(0, (int) o[0], o[1]), OUTSIDE);
        }
        long[][] fine = {{PUT, MIN}, {PUT, MAX}, {FACT, 0}, {FACT, 7}, {GO, -12}, {GO, 12}, {GIVE, 0}, {GIVE, 3},
            {KEEP, 0}, {KEEP, 7}, {GO, -1}, {GO, 1}};
        for (int i = 0; i < fine.length; i++) {
            due("code " + Arrays.toString(fine[i]), x.code(0, (int) fine[i][0], fine[i][1]), i + 1);
        }
        due("twelve are all", x.code(0, PUT, 0), ROOM);
        due("OUTSIDE before ROOM", x.code(0, GO, 0), OUTSIDE);
        x.test(0);
        due("STATE before ROOM", x.code(0, PUT, 0), STATE);
        due("OUTSIDE before STATE", x.code(0, 16, 0), OUTSIDE);
        int[] without = {ADD, SUB, MUL, DIV, LESS, EQUAL, NOT, ADD_CELL, CELL, USE, END};
        x.rule(1, 0, 0);
        for (int i = 0; i < without.length; i++) {
            due("any n for " + without[i], x.code(1, without[i], i % 2 == 0 ? MIN : MAX), i + 1);
        }
        x.test(1);
        due("BARRED", x.code(1, PUT, 0), STATE);
        told(x, 2, 0, 0);
        x.test(2);
        due("READY", x.code(2, PUT, 0), STATE);
    }

    private static void instructions() {
        due("put", value("put", fresh(), PUT, MIN, GIVE, 0), MIN);
        due("sum", value("sum", fresh(), PUT, 7, PUT, -2, ADD, 9, GIVE, 0), 5);
        due("sum wraps", value("sum", fresh(), PUT, MAX, PUT, 1, ADD, 0, GIVE, 0), MIN);
        due("difference", value("difference", fresh(), PUT, 7, PUT, 9, SUB, 0, GIVE, 0), -2);
        due("difference wraps", value("difference", fresh(), PUT, MIN, PUT, 1, SUB, 0, GIVE, 0), MAX);
        due("product", value("product", fresh(), PUT, 7, PUT, -9, MUL, 0, GIVE, 0), -63);
        due("product wraps", value("product", fresh(), PUT, MAX, PUT, 2, MUL, 0, GIVE, 0), -2);
        due("quotient", value("quotient", fresh(), PUT, -7, PUT, 2, DIV, 0, GIVE, 0), -3);
        due("quotient wraps", value("quotient", fresh(), PUT, MIN, PUT, -1, DIV, 0, GIVE, 0), MIN);
        due("less", value("less", fresh(), PUT, 1, PUT, 2, LESS, 0, GIVE, 0), 1);
        due("not less: equal", value("less", fresh(), PUT, 2, PUT, 2, LESS, 0, GIVE, 0), 0);
        due("not less", value("less", fresh(), PUT, MAX, PUT, MIN, LESS, 0, GIVE, 0), 0);
        due("equal", value("equal", fresh(), PUT, 5, PUT, 5, EQUAL, 0, GIVE, 0), 1);
        due("not equal", value("equal", fresh(), PUT, 5, PUT, 5 + (1L << 32), EQUAL, 0, GIVE, 0), 0);
        due("not of 0", value("not", fresh(), PUT, 0, NOT, 0, GIVE, 0), 1);
        due("not of another", value("not", fresh(), PUT, 1L << 32, NOT, 0, GIVE, 0), 0);
        due("over ends it", value("end", fresh(), PUT, 4, GIVE, 0, END, 0, PUT, 5, GIVE, 0), 4);
        due("in place of an earlier one", value("again", fresh(), PUT, 4, GIVE, 0, PUT, 5, GIVE, 0), 5);
        due("cell within a program", value("cell", fresh(), PUT, 4, ADD_CELL, 0, PUT, 5, ADD_CELL, 0, CELL, 0, GIVE, 0), 9);
        due("handle", value("handle", facts(), KEEP, 3, KEEP, 6, USE, 0, PUT, 0, USE, 0, SUB, 0, GIVE, 0, END, 0), 30);
        due("give takes one alone", value("give", fresh(), PUT, 1, PUT, 2, PUT, 3, GIVE, 0, GIVE, 0), 2);
        due("to the cell goes one alone", value("cell", fresh(), PUT, 1, PUT, 2, ADD_CELL, 0, PUT, 3, ADD, 0, GIVE, 0), 4);
        due("the eighth is used", value("eighth", fresh(), PUT, 1, PUT, 1, PUT, 1, PUT, 1, PUT, 1, PUT, 1, PUT, 12, PUT, 4,
            DIV, 0, GIVE, 0), 3);
        dueFault("give leaves no more", 3, 4, PUT, 1, PUT, 2, GIVE, 0, ADD, 0);
        dueFault("nor does the cell", 3, 4, PUT, 1, PUT, 2, ADD_CELL, 0, ADD, 0);
        HandlingRules x = fresh();
        x.fact(0, 8);
        x.fact(7, -8);
        due("facts", value("facts", x, FACT, 0, FACT, 7, SUB, 0, GIVE, 0), 16);
    }

    private static HandlingRules facts() {
        HandlingRules x = fresh();
        for (int f = 0; f < 8; f++) {
            x.fact(f, 10 * f);
        }
        return x;
    }

    private static void jumps() {
        due("on when it is 0", value("go", fresh(), PUT, 4, GIVE, 0, PUT, 0, GO, 3, PUT, 5, GIVE, 0), 4);
        due("not when it is not", value("go", fresh(), PUT, 4, GIVE, 0, PUT, -1, GO, 3, PUT, 5, GIVE, 0), 5);
        due("one on is the next", value("go", fresh(), PUT, 0, GO, 1, PUT, 5, GIVE, 0), 5);
        due("from itself", value("go", fresh(), PUT, 1, PUT, 2, PUT, 0, GO, 2, ADD, 0, GIVE, 0), 2);
        due("far behind the last", value("go", fresh(), PUT, 4, GIVE, 0, PUT, 0, GO, 12), 4);
        dueFault("back before the first is the first", 1, 100, PUT, 0, GO, -12);
        dueFault("back by one", 1, 100, PUT, 0, GO, -1);
        dueFault("just behind the last is over", NONE, 2, PUT, 0, GO, 1);
        dueFault("a loop that ends", NONE, 3 * 6 + 1,
            PUT, 1, ADD_CELL, 0, CELL, 0, PUT, 3, EQUAL, 0, GO, -5, END, 0, PUT, 1, PUT, 1, PUT, 1, PUT, 1, PUT, 1);
    }

    private static void faults() {
        dueFault("empty program", NONE, 0);
        dueFault("quotient by 0", 2, 3, PUT, 1, PUT, 0, DIV, 0, PUT, 1);
        dueFault("too few before by 0", 3, 2, PUT, 0, DIV, 0);
        for (int op = ADD; op <= EQUAL; op++) {
            dueFault("two are taken by " + op, 3, 2, PUT, 1, op, 0);
            dueFault("two are taken, none is there: " + op, 3, 1, op, 0);
            dueFault("two are there for " + op, NONE, 3, PUT, 1, PUT, 1, op, 0);
        }
        for (int op : new int[] {NOT, ADD_CELL, USE}) {
            dueFault("one is taken by " + op, 3, 1, op, 0);
        }
        dueFault("one is taken by go", 3, 1, GO, 1);
        dueFault("one is taken by give", 3, 1, GIVE, 1);
        dueFault("two taken, one put", 3, 4, PUT, 1, PUT, 1, ADD, 0, ADD, 0);
        long[] eight = new long[16];
        dueFault("eight are fine", NONE, 8, eight);
        long[][] ninths = {{PUT, 1}, {FACT, 1}, {CELL, 0}, {KEEP, 0}};
        for (long[] ninth : ninths) {
            long[] nine = Arrays.copyOf(eight, 20);
            nine[16] = ninth[0];
            nine[17] = ninth[1];
            nine[18] = END;
            dueFault("a ninth by " + ninth[0], 3, 9, nine);
        }
        for (int op : new int[] {NOT, ADD, END, GIVE, ADD_CELL}) {
            long[] nine = Arrays.copyOf(eight, 18);
            nine[16] = op;
            dueFault("no ninth by " + op, NONE, 9, nine);
        }
        dueFault("use on a full stack", NONE, 9, KEEP, 0, PUT, 0, PUT, 0, PUT, 0, PUT, 0, PUT, 0, PUT, 0, PUT, 0, USE, 0);
        dueFault("no such handle", 4, 2, PUT, 0, USE, 0);
        dueFault("no handle 1", 4, 3, KEEP, 0, PUT, 1, USE, 0);
        dueFault("no handle -1", 4, 3, KEEP, 0, PUT, -1, USE, 0);
        dueFault("no handle 2^32", 4, 3, KEEP, 0, PUT, 1L << 32, USE, 0);
        dueFault("over is a step", NONE, 1, END, 0, ADD, 0);
    }

    private static void cutting() {
        HandlingRules x = new HandlingRules(3);
        told(x, 0, 0, 0, PUT, 1, PUT, 1, END, 0, PUT, 1);
        due("as many as STEPS", x.test(0), 3);
        due("is not cut", x.edition(0, 0), 2);
        told(x, 1, 0, 0, PUT, 1, PUT, 1, ADD, 0, PUT, 1);
        due("one more", x.test(1), 3);
        due("is cut", x.failed(0, 1), 1);
        told(x, 2, 0, 0, PUT, 1, PUT, 0, DIV, 0, PUT, 1);
        due("the last one fails", x.test(2), 3);
        due("is not cut but fails", x.failed(0, 1), 2);
        told(x, 3, 0, 0, PUT, 1, PUT, 1, PUT, 1, DIV, 0);
        told(x, 3, 0, 1, PUT, 1, PUT, 1, PUT, 1);
        due("steps are counted for each rule", x.test(3), 6);
        due("only the first one", x.failed(1, 0), NONE);
    }

    private static void promise4Fallback() {
        HandlingRules x = fresh();
        int r = told(x, 0, 0, 0, PUT, 6, GIVE, 1, PUT, 5, ADD_CELL, 0, PUT, 8, FACT, 0, DIV, 0, GIVE, 0);
        due("no rule", x.fallback(1, 0, 0), UNKNOWN);
        due("no rule -1", x.fallback(-1, 9, 0), UNKNOWN);
        due("kind -1", x.fallback(r, -1, 0), OUTSIDE);
        due("kind 4", x.fallback(r, 4, 0), OUTSIDE);
        due("kind 0", x.fallback(r, 0, 3), 1);
        due("another", x.fallback(r, 3, MIN), 1);
        x.fact(0, 2);
        ready(x, 0, 0);
        due("READY", x.fallback(r, 0, 0), STATE);
        due("OUTSIDE before STATE", x.fallback(r, 4, 0), OUTSIDE);
        due("well", x.ask(0), 2);
        due("no fallback", x.by(3), NONE);
        due("its own", x.answer(0), 4);
        due("its cell", x.cell(r), 5);
        x.fact(0, 0);
        due("failing", x.ask(0), 1);
        due("the fallback", x.answer(3), MIN);
        due("by it", x.by(3), r);
        due("has answered nothing", x.by(1), NONE);
        due("nor this", x.answer(1), 0);
        due("the earlier fallback is gone", x.by(0), NONE);
        due("its cell is as before", x.cell(r), 5);
        int b = told(x, 1, 0, 0, ADD, 0);
        x.test(1);
        due("BARRED", x.fallback(b, 0, 0), STATE);
        HandlingRules y = fresh();
        told(y, 0, 0, 0, FACT, 0, FACT, 0, DIV, 0);
        y.fact(0, 1);
        ready(y, 0, 0);
        y.fact(0, 0);
        due("no fallback, no answer", y.ask(0), 0);
        due("it failed", y.failed(0, 1), 2);
    }

    private static void promise5Fact() {
        HandlingRules x = fresh();
        int[] outside = {-1, 8, Integer.MIN_VALUE, Integer.MAX_VALUE};
        for (int f : outside) {
            due("fact " + f, x.fact(f, 1), OUTSIDE);
        }
        due("fact 0", x.fact(0, MIN), 1);
        due("fact 7", x.fact(7, MAX), 1);
        told(x, 0, 0, 0, FACT, 0, GIVE, 0, FACT, 7, GIVE, 1, FACT, 6, GIVE, 2, KEEP, 7, USE, 0, GIVE, 3);
        ready(x, 0, 0);
        due("four kinds", x.ask(0), 4);
        due("the first fact", x.answer(0), MIN);
        due("the last fact", x.answer(1), MAX);
        due("a fact of 0 answers too", x.answer(2), 0);
        due("by the rule", x.by(2), 0);
        due("through a handle", x.answer(3), MAX);
        x.fact(0, 5);
        due("the latest asking's answer stays", x.answer(0), MIN);
        x.ask(0);
        due("facts as they are now", x.answer(0), 5);
    }

    private static void promise6Test() {
        HandlingRules x = fresh();
        due("edition -1", x.test(-1), OUTSIDE);
        due("edition 6", x.test(6), OUTSIDE);
        due("EMPTY", x.test(5), STATE);
        int a = told(x, 0, 1, 0, ADD, 0);
        int b = told(x, 0, 0, 5, PUT, 3, ADD_CELL, 0, CELL, 0, GIVE, 2);
        int c = told(x, 0, 2, 0, KEEP, 0, PUT, 1, FACT, 1, DIV, 0);
        x.fallback(a, 0, 7);
        due("all rules are done", x.test(0), 4 + 1 + 4);
        due("BARRED", x.edition(0, 0), 3);
        due("first", x.failed(0, 0), a);
        due("how", x.failed(0, 1), 3);
        due("second", x.failed(1, 0), c);
        due("how too", x.failed(1, 1), 2);
        due("no third", x.failed(2, 0), NONE);
        due("cell as before", x.cell(b), 0);
        due("a test answers nothing", x.by(2), NONE);
        due("nor by fallback", x.by(0), NONE);
        due("its handle is over", handleAnswer(x, 0), 77);
        due("BARRED is not TOLD", x.test(0), STATE);
        due("refused: failures stay", x.failed(1, 0), c);
        due("refused: handles stay", handleAnswer(x, 0), 77);
        due("OUTSIDE: handles stay", x.test(6) + handleAnswer(x, 0), OUTSIDE + 77);
        told(x, 1, 0, 0, PUT, 1);
        due("well", x.test(1), 1);
        due("READY", x.edition(1, 0), 2);
        due("READY is not TOLD", x.test(1), STATE);
        due("failures are this test's", x.failed(0, 0), NONE);
        due("handles are this test's", handleAnswer(x, 0), OUTSIDE);
        due("the other stays", x.edition(0, 0), 3);
        testLeavesAnswers();
    }

    private static void testLeavesAnswers() {
        HandlingRules x = fresh();
        told(x, 0, 0, 0, PUT, 6, GIVE, 1);
        ready(x, 0, 0);
        x.ask(0);
        told(x, 1, 0, 0, PUT, 9, GIVE, 1, PUT, 9, GIVE, 2);
        x.test(1);
        due("a test leaves the latest asking's answer", x.answer(1), 6);
        due("and who gave it", x.by(1), 0);
        due("and those that were not", x.by(2), NONE);
    }

    private static void promise7Day() {
        HandlingRules x = fresh();
        told(x, 0, 0, 0, PUT, 1, GIVE, 0);
        due("TOLD", x.day(0, 0), STATE);
        due("EMPTY", x.day(1, 0), STATE);
        due("edition -1", x.day(-1, 0), OUTSIDE);
        due("edition 6", x.day(6, 0), OUTSIDE);
        due("day -1 before STATE", x.day(1, -1), OUTSIDE);
        due("day 100001", x.day(0, 100001), OUTSIDE);
        x.test(0);
        due("no day yet", x.edition(0, 2), NONE);
        due("not in force yet", x.ask(100000), NONE);
        due("day 100000", x.day(0, 100000), 1);
        due("from then on", x.ask(100000), 1);
        due("not before", x.ask(99999), NONE);
        due("day 0", x.day(0, 0), 1);
        due("instead", x.edition(0, 2), 0);
        due("now before", x.ask(0), 1);
        due("a later one instead", x.day(0, 8), 1);
        due("not from the earlier", x.ask(7), NONE);
        due("from the later", x.ask(8), 1);
        due("refused: day stays", x.day(0, -1) + x.edition(0, 2), OUTSIDE + 8);
        told(x, 2, 0, 0, ADD, 0);
        x.test(2);
        due("BARRED", x.day(2, 0), STATE);
        due("no day", x.edition(2, 2), NONE);
    }

    private static void promise8Ask() {
        HandlingRules x = fresh();
        due("day -1", x.ask(-1), OUTSIDE);
        due("day 100001", x.ask(100001), OUTSIDE);
        due("none in force", x.ask(0), NONE);
        for (int e = 0; e < 4; e++) {
            told(x, e, 0, 0, PUT, 10 + e, GIVE, 1);
            x.test(e);
        }
        x.day(0, 10);
        x.day(1, 20);
        x.day(3, 20);
        x.day(2, 20);
        int[][] dues = {{9, NONE, 0}, {10, 1, 10}, {19, 1, 10}, {20, 1, 12}, {100000, 1, 12}};
        for (int[] d : dues) {
            due("ask " + d[0], x.ask(d[0]), d[1]);
            due("answer " + d[0], x.answer(1), d[2]);
        }
        x.day(1, 20);
        due("the one told latest, told again", x.ask(20) + x.answer(1), 1 + 11);
        x.day(0, 19);
        due("not the day told latest", x.ask(25) + x.answer(1), 1 + 11);
        due("an item keeps its edition", x.ask(19) + x.answer(1), 1 + 10);
        due("refused", x.ask(-1), OUTSIDE);
        due("the answer stays", x.answer(1), 10);
        due("none", x.ask(18), NONE);
        due("no answer", x.answer(1), 0);
        due("by none", x.by(1), NONE);
        firstAnswersCount();
        nothingIsDone();
    }

    private static void firstAnswersCount() {
        HandlingRules x = fresh();
        int last = told(x, 0, 9, 0, PUT, 1, GIVE, 0, PUT, 2, GIVE, 1, PUT, 3, GIVE, 2, PUT, 4, GIVE, 3);
        int third = told(x, 0, 5, 7, PUT, 10, GIVE, 0, PUT, 11, GIVE, 1, PUT, 12, GIVE, 2);
        int fourth = told(x, 0, 5, 7, PUT, 20, GIVE, 0, PUT, 21, GIVE, 1, PUT, 22, GIVE, 2);
        int second = told(x, 0, 5, 6, FACT, 0, FACT, 0, DIV, 0, GIVE, 1, PUT, 31, GIVE, 2);
        int first = told(x, 0, 4, 99, PUT, 0, GIVE, 0);
        x.fallback(second, 1, -1);
        x.fact(0, 3);
        ready(x, 0, 0);
        due("all kinds", x.ask(0), 4);
        dueAnswers("well", x, new long[] {0, 1, 31, 4}, new int[] {first, second, second, last});
        x.fact(0, 0);
        due("all kinds", x.ask(0), 4);
        dueAnswers("failing", x, new long[] {0, -1, 12, 4}, new int[] {first, second, third, last});
        due("only the second failed", x.failed(0, 0), second);
        due("not the fourth", x.by(2) == fourth, false);
        HandlingRules y = fresh();
        int g = told(y, 0, 0, 0, PUT, 5, GIVE, 2);
        int h = told(y, 0, 1, 0, FACT, 0, FACT, 0, DIV, 0);
        y.fallback(h, 2, 9);
        y.fact(0, 1);
        ready(y, 0, 0);
        y.fact(0, 0);
        due("one kind", y.ask(0), 1);
        due("a fallback behind an answer does not count", y.answer(2), 5);
        due("by the first", y.by(2), g);
    }

    private static void dueAnswers(String what, HandlingRules x, long[] values, int[] givers) {
        for (int kind = 0; kind < 4; kind++) {
            due(what + ": answer " + kind, x.answer(kind), values[kind]);
            due(what + ": by " + kind, x.by(kind), givers[kind]);
        }
    }

    private static void nothingIsDone() {
        HandlingRules x = fresh();
        int r = told(x, 0, 0, 0, KEEP, 0, ADD_CELL, 0, PUT, 1, ADD_CELL, 0, PUT, 1, FACT, 0, DIV, 0);
        x.fact(0, 1);
        ready(x, 0, 5);
        x.ask(5);
        due("cell", x.cell(r), 1);
        x.fact(0, 0);
        x.ask(5);
        due("failed", x.failed(0, 0), r);
        due("a handle was kept", handleAnswer(x, 0), 77);
        x.ask(-1);
        due("refused: failed stays", x.failed(0, 0), r);
        due("refused: handle stays", handleAnswer(x, 0), 77);
        due("no edition", x.ask(4), NONE);
        due("the cell stays", x.cell(r), 1);
        due("nothing failed", x.failed(0, 0), NONE);
        due("no handle was kept", handleAnswer(x, 0), OUTSIDE);
    }

    private static void promise9AndPromise10AnswerAndBy() {
        HandlingRules x = fresh();
        told(x, 0, 0, 0);
        int r = told(x, 0, 1, 0, PUT, MIN, GIVE, 0, PUT, -5, GIVE, 3);
        ready(x, 0, 0);
        due("ask", x.ask(0), 2);
        dueAnswers("some", x, new long[] {MIN, 0, 0, -5}, new int[] {r, NONE, NONE, r});
        int[] outside = {-1, 4, Integer.MIN_VALUE, Integer.MAX_VALUE};
        for (int kind : outside) {
            due("answer " + kind, x.answer(kind), 0);
            due("by " + kind, x.by(kind), NONE);
        }
    }

    private static void promise11Failed() {
        HandlingRules x = new HandlingRules(4);
        int d = told(x, 0, 3, 0, FACT, 0, NOT, 0, USE, 0);
        int c = told(x, 0, 2, 9, FACT, 1, GO, -1);
        int b = told(x, 0, 2, 8, FACT, 0, GO, 3, END, 0, END, 0, ADD, 0);
        int a = told(x, 0, 2, 8, PUT, 1, FACT, 0, DIV, 0);
        int e = told(x, 0, 1, 0, KEEP, 0);
        x.fact(0, 1);
        x.fact(1, 1);
        ready(x, 0, 0);
        due("ask well", x.ask(0), 0);
        due("none failed", x.failed(0, 0), NONE);
        x.fact(0, 0);
        x.fact(1, 0);
        x.ask(0);
        int[] rules = {b, a, c, d};
        int[] hows = {3, 2, 1, 4};
        for (int i = 0; i < 4; i++) {
            due("failed " + i, x.failed(i, 0), rules[i]);
            due("how " + i, x.failed(i, 1), hows[i]);
        }
        due("not the well one", x.failed(4, 0), NONE);
        due("nor how", x.failed(4, 1), NONE);
        due("its number is 4", e, 4);
        int[] outside = {-1, 8, Integer.MIN_VALUE, Integer.MAX_VALUE};
        for (int i : outside) {
            due("failed " + i, x.failed(i, 0), NONE);
            due("how " + i, x.failed(i, 1), NONE);
            due("what " + i, x.failed(0, i), NONE);
        }
        due("what 2", x.failed(0, 2), NONE);
        allEightFail();
    }

    private static void allEightFail() {
        HandlingRules x = fresh();
        for (int i = 0; i < 8; i++) {
            told(x, 3, 9 - i, 0, ADD, 0);
        }
        due("eight steps", x.test(3), 8);
        for (int i = 0; i < 8; i++) {
            due("failed " + i, x.failed(i, 0), 7 - i);
            due("how " + i, x.failed(i, 1), 3);
        }
        due("failed 8", x.failed(8, 0), NONE);
    }

    private static void promise12Cell() {
        HandlingRules x = fresh();
        int a = told(x, 0, 0, 0, FACT, 0, ADD_CELL, 0, CELL, 0, GIVE, 0);
        int b = told(x, 0, 0, 0, CELL, 0, GIVE, 1, PUT, -1, ADD_CELL, 0);
        x.fact(0, MAX);
        ready(x, 0, 0);
        due("as before a test", x.cell(a), 0);
        x.ask(0);
        due("added", x.cell(a), MAX);
        due("a cell of its own", x.cell(b), -1);
        due("as it was when it was put", x.answer(1), 0);
        x.fact(0, 1);
        x.ask(0);
        due("wraps", x.cell(a), MIN);
        due("the answer too", x.answer(0), MIN);
        due("it goes on from call to call", x.answer(1), -1);
        int[] none = {-1, 2, 40, Integer.MIN_VALUE, Integer.MAX_VALUE};
        for (int r : none) {
            due("cell " + r, x.cell(r), 0);
        }
        HandlingRules y = new HandlingRules(5);
        int c = told(y, 0, 0, 0, PUT, 1, ADD_CELL, 0, FACT, 0, GO, -1, CELL, 0);
        y.fact(0, 1);
        ready(y, 0, 0);
        y.ask(0);
        due("well", y.cell(c), 1);
        y.fact(0, 0);
        y.ask(0);
        due("cut", y.failed(0, 1), 1);
        due("as before", y.cell(c), 1);
    }

    private static void promise13Edition() {
        HandlingRules x = fresh();
        int[] outside = {-1, 6, Integer.MIN_VALUE, Integer.MAX_VALUE};
        for (int e : outside) {
            due("edition " + e, x.edition(e, 0), OUTSIDE);
        }
        for (int what : new int[] {-1, 3, Integer.MIN_VALUE, Integer.MAX_VALUE}) {
            due("what " + what, x.edition(0, what), OUTSIDE);
        }
        told(x, 5, 0, 0);
        told(x, 5, 0, 0);
        due("TOLD", x.edition(5, 0), 1);
        due("two rules", x.edition(5, 1), 2);
        due("no day", x.edition(5, 2), NONE);
        x.test(5);
        due("READY", x.edition(5, 0), 2);
        due("no day still", x.edition(5, 2), NONE);
        x.day(5, 100000);
        due("a day", x.edition(5, 2), 100000);
        due("READY still", x.edition(5, 0), 2);
        told(x, 4, 0, 0, END, 0);
        told(x, 4, 0, 0, USE, 0);
        x.test(4);
        due("BARRED", x.edition(4, 0), 3);
        due("two rules still", x.edition(4, 1), 2);
        due("EMPTY", x.edition(3, 0), 0);
    }

    private static void promise14Same() {
        HandlingRules x = fresh();
        int a = told(x, 0, 0, 0, PUT, 1, ADD, 5, GIVE, 0);
        int b = told(x, 1, 7, 8, PUT, 1, ADD, -6, GIVE, 0);
        int c = told(x, 0, 0, 0, PUT, 2, ADD, 5, GIVE, 0);
        int d = told(x, 0, 0, 0, PUT, 1, SUB, 5, GIVE, 0);
        int e = told(x, 0, 0, 0, PUT, 1, ADD, 5);
        int f = told(x, 0, 0, 0);
        int g = told(x, 0, 0, 0);
        x.fallback(b, 0, 1);
        due("n does not matter", x.same(a, b), true);
        due("n matters", x.same(a, c), false);
        due("op matters", x.same(a, d), false);
        due("a shorter one", x.same(a, e), false);
        due("a longer one", x.same(e, a), false);
        due("empty ones", x.same(f, g), true);
        due("an empty one", x.same(f, e), false);
        for (int r : new int[] {-1, 7, 40, Integer.MIN_VALUE, Integer.MAX_VALUE}) {
            due("no first " + r, x.same(r, a), false);
            due("no second " + r, x.same(a, r), false);
            due("neither " + r, x.same(r, r), false);
        }
        for (int op = 0; op < 16; op++) {
            HandlingRules y = fresh();
            told(y, 0, 0, 0, op, 1);
            told(y, 0, 0, 0, op, 2);
            boolean hasNumber = op == PUT || op == FACT || op == GO || op == GIVE || op == KEEP;
            due("n of " + op, y.same(0, 1), !hasNumber);
        }
    }

    private static void promise15Divide() {
        HandlingRules x = fresh();
        due("UNKNOWN", divideAnswer(x, 0, 1, 1), UNKNOWN);
        x.rule(0, 0, 0);
        long[][] dues = {{7, 2, 3}, {-7, 2, -3}, {7, -2, -3}, {-7, -2, 3}, {0, 5, 0}, {MIN, -1, MIN}, {MIN, 1, MIN},
            {MAX, -1, -MAX}, {1, MIN, 0}, {MAX, 2, MAX / 2}};
        for (long[] d : dues) {
            due("divide " + Arrays.toString(d), divideAnswer(x, 0, d[0], d[1]), d[2]);
            due("program " + Arrays.toString(d), value("div", fresh(), PUT, d[0], PUT, d[1], DIV, 0, GIVE, 0), d[2]);
        }
        due("by 0", divideAnswer(x, 0, 5, 0), 777777);
        due("0 by 0", divideAnswer(x, 0, 0, 0), 777777);
        due("UNKNOWN before by 0", divideAnswer(x, 1, 5, 0), UNKNOWN);
        due("UNKNOWN -1", divideAnswer(x, -1, 5, 0), UNKNOWN);
        due("nothing changes", x.failed(0, 0), NONE);
    }

    private static void promise16Handle() {
        HandlingRules x = facts();
        int a = told(x, 0, 0, 0, KEEP, 3, KEEP, 4, FACT, 0, NOT, 0, DIV, 0);
        told(x, 0, 1, 0, PUT, 1, USE, 0, GIVE, 0, KEEP, 5, GIVE, 1);
        due("before any call", handleAnswer(x, 0), OUTSIDE);
        ready(x, 0, 0);
        for (int k = 0; k < 3; k++) {
            due("of a test " + k, handleAnswer(x, k), 77);
        }
        due("no fourth", handleAnswer(x, 3), OUTSIDE);
        x.ask(0);
        due("numbered together", x.answer(1), 2);
        due("of another rule", x.answer(0), 40);
        due("again from 0", handleAnswer(x, 2), 77);
        due("no fourth again", handleAnswer(x, 3), OUTSIDE);
        x.fact(0, 1);
        x.ask(0);
        due("the first rule failed", x.failed(0, 0), a);
        due("its handles were kept", x.answer(1), 2);
        due("and are over", handleAnswer(x, 2), 77);
        for (int k : new int[] {-1, 16, Integer.MIN_VALUE, Integer.MAX_VALUE}) {
            due("handle " + k, handleAnswer(x, k), OUTSIDE);
        }
        x.fact(0, 1);
        x.cell(0);
        x.rule(1, 0, 0);
        due("other calls keep none and end none", handleAnswer(x, 2), 77);
        sixteenHandles();
    }

    private static void sixteenHandles() {
        HandlingRules x = fresh();
        long[] eight = new long[16];
        for (int i = 0; i < 16; i += 2) {
            eight[i] = KEEP;
        }
        told(x, 0, 0, 0, eight);
        int full = told(x, 0, 1, 0, KEEP, 0, KEEP, 0, KEEP, 0, KEEP, 0, KEEP, 0, KEEP, 0, KEEP, 0, KEEP, 0,
            KEEP, 0);
        int more = told(x, 0, 2, 0, KEEP, 0);
        told(x, 0, 3, 0, PUT, 15, USE, 0);
        int none = told(x, 0, 4, 0, PUT, 16, USE, 0);
        due("steps", x.test(0), 8 + 9 + 1 + 2 + 2);
        due("a ninth on the stack is asked first", x.failed(0, 0), full);
        due("as 3", x.failed(0, 1), 3);
        due("a seventeenth fails", x.failed(1, 0), more);
        due("as 4", x.failed(1, 1), 4);
        due("there is no seventeenth", x.failed(2, 0), none);
        due("as 4 too", x.failed(2, 1), 4);
        due("the sixteenth is there", x.failed(3, 0), NONE);
        due("sixteen were kept", handleAnswer(x, 15), 77);
        due("not more", handleAnswer(x, 16), OUTSIDE);
        HandlingRules y = fresh();
        told(y, 0, 0, 0, eight);
        int ninth = told(y, 0, 1, 0, PUT, 0, PUT, 0, PUT, 0, PUT, 0, PUT, 0, PUT, 0, PUT, 0, PUT, 0, KEEP, 0);
        told(y, 0, 2, 0, KEEP, 0);
        due("steps", y.test(0), 8 + 9 + 1);
        due("3", y.failed(0, 0), ninth);
        due("keeps nothing", handleAnswer(y, 9), OUTSIDE);
        due("so that there are nine", handleAnswer(y, 8), 77);
    }

    public static void main(String[] args) {
        face();
        promise1NewObject();
        promise2Rule();
        promise3Code();
        instructions();
        jumps();
        faults();
        cutting();
        promise4Fallback();
        promise5Fact();
        promise6Test();
        promise7Day();
        promise8Ask();
        promise9AndPromise10AnswerAndBy();
        promise11Failed();
        promise12Cell();
        promise13Edition();
        promise14Same();
        promise15Divide();
        promise16Handle();
        System.out.println(asked + " answers, " + wrong + " of them not as due");
        if (wrong != 0) {
            System.exit(1);
        }
    }
}
