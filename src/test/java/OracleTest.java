import java.lang.reflect.InvocationTargetException;
import java.lang.reflect.Method;
import java.util.ArrayList;
import java.util.Arrays;
import java.util.Comparator;
import java.util.List;
import java.util.Random;

/** Random runs of calls on the class and on the oracle: each answer, each exception must be the same. */
public final class OracleTest {
    private static final int RUNS = Integer.getInteger("hungry.runs", 1500);
    private static final int CALLS = 480;
    private static final String[] ACTS = {
        "hours", "list", "strike", "feeds", "fast", "inn", "appeal", "grave", "undo", "seed", "image", "back",
    };

    private final Random random;
    private final Texts texts;
    private final HungryBench bench = new HungryBench();
    private final Oracle oracle = new Oracle();
    private final List<String> calls = new ArrayList<>();
    private final List<Method> face;
    private int left = CALLS;

    private OracleTest(long seed) {
        random = new Random(seed);
        texts = new Texts(random);
        face = new ArrayList<>(Arrays.asList(HungryBench.class.getDeclaredMethods()));
        face.removeIf(m -> !java.lang.reflect.Modifier.isPublic(m.getModifiers()));
        face.sort(Comparator.comparing(Method::getName));
    }

    public static void main(String[] args) throws Exception {
        int wrong = 0;
        long first = Long.getLong("hungry.first", 0);
        for (long seed = first; seed < first + RUNS && wrong < 5; seed++) {
            OracleTest test = new OracleTest(seed);
            String fault = test.run();
            if (fault != null) {
                wrong++;
                System.out.println("seed " + seed + ": " + fault);
                int from = Math.max(0, test.calls.size() - 40);
                System.out.println("  " + String.join("\n  ", test.calls.subList(from, test.calls.size())));
            }
        }
        System.out.println(RUNS + " runs beside the oracle, " + wrong + " went apart");
        System.exit(wrong == 0 ? 0 : 1);
    }

    private String run() throws Exception {
        String fault = random.nextInt(10) == 0 ? null : text(true);
        fault = fault != null || random.nextInt(5) == 0 ? fault : text(false);
        if (fault == null && random.nextInt(3) == 0) {
            fault = crowd();
        }
        int busy = random.nextInt(3) == 0 ? 40 : 5;
        while (fault == null && left > 0) {
            int sort = random.nextInt(100);
            if (random.nextInt(100) < busy) {
                fault = hearing();
            } else if (sort < 3) {
                fault = text(true);
            } else if (sort < 5) {
                fault = text(false);
            } else if (sort < 9) {
                fault = rows();
            } else if (sort < 55) {
                fault = anyCall(ACTS[random.nextInt(ACTS.length)]);
            } else {
                fault = anyCall(face.get(random.nextInt(face.size())).getName());
            }
        }
        return fault;
    }

    private String text(boolean assize) throws Exception {
        String text = assize ? texts.assize(oracle.count(0), oracle.count(1)) : texts.law();
        String fault = tape(text);
        fault = fault != null ? fault : call(assize ? "assize" : "law");
        return fault != null ? fault : call("fault");
    }

    /** As many judges and cases as there may be. */
    private String crowd() throws Exception {
        String fault = null;
        for (int n = 0; n < 13 && fault == null && (oracle.count(0) < 5 || oracle.count(1) < 8); n++) {
            fault = tape(oracle.count(0) < 5 ? texts.judgeLine() : texts.caseLine(oracle.count(1)));
            fault = fault != null ? fault : call("assize");
        }
        return fault;
    }

    /** A case is heard in this hour, and waits again: what fills the log. */
    private String hearing() throws Exception {
        int judge = argument("judge");
        int cause = argument("cause");
        String fault = call("list", judge, oracle.count(4), cause);
        fault = fault != null ? fault : call("hours", 1);
        return fault != null || random.nextInt(3) == 0 ? fault : call("appeal", cause);
    }

    /** Rows of MEALS, most of them what a judge of some hunger would have found. */
    private String rows() throws Exception {
        StringBuilder s = new StringBuilder();
        int rows = random.nextInt(random.nextInt(10) == 0 ? 18 : 5);
        int judge = argument("judge");
        boolean there = judge >= 0 && judge < oracle.count(0);
        for (int i = 0; i < rows; i++) {
            int hour = random.nextInt(30) == 0 ? 12 : random.nextInt(12);
            int cause = random.nextInt(Math.max(1, oracle.count(1)));
            boolean right = there && cause < oracle.count(1) && hour < 12 && random.nextInt(6) != 0;
            int freed = right ? (oracle.would(judge, cause, hour) >= 0 ? 1 : 0) : random.nextInt(2);
            s.append((char) hour).append((char) cause);
            s.append((char) (random.nextInt(40) == 0 ? 2 + random.nextInt(250) : freed));
        }
        if (random.nextInt(15) == 0) {
            s.append((char) random.nextInt(256));
        }
        String fault = tape(s.toString());
        if (fault != null) {
            return fault;
        }
        if (random.nextBoolean()) {
            return call("tries", judge);
        }
        return call("meals", judge, random.nextInt(2));
    }

    private String tape(String text) throws Exception {
        String fault = random.nextInt(30) == 0 ? null : call("end", 0);
        for (int i = 0; i < text.length() && fault == null; i += 20) {
            int[] n = new int[5];
            for (int k = 0; k < 20; k++) {
                int b = i + k < text.length() ? text.charAt(i + k) : random.nextInt(256);
                n[k / 4] = n[k / 4] << 8 | b;
            }
            fault = call("feed", n[0], n[1], n[2], n[3], n[4]);
        }
        return fault != null ? fault : call("end", text.length());
    }

    private String anyCall(String name) throws Exception {
        Method m = method(name);
        int[] args = new int[m.getParameterCount()];
        for (int i = 0; i < args.length; i++) {
            args[i] = argument(sortOf(name, i));
        }
        return call(name, args);
    }

    private Method method(String name) {
        for (Method m : face) {
            if (m.getName().equals(name)) {
                return m;
            }
        }
        throw new AssertionError(name);
    }

    /** What an argument of a call stands for. */
    private static String sortOf(String call, int i) {
        switch (call) {
            case "judge": return i == 0 ? "judge" : "what";
            case "cause": return i == 0 ? "cause" : "what";
            case "listed": case "strike": return i == 0 ? "judge" : "hour";
            case "smell": return "hour";
            case "inn": return i == 0 ? "hour" : "percent";
            case "point": case "would": return i == 0 ? "judge" : i == 1 ? "cause" : "hour";
            case "list": return i == 0 ? "judge" : i == 1 ? "hour" : "cause";
            case "hours": case "trial": case "span": return i == 0 ? "run" : "flag";
            case "ahead": return i == 0 ? "cause" : "run";
            case "fast": return i == 0 ? "judge" : "percent";
            case "grave": return i == 0 ? "cause" : "percent";
            case "appeal": case "split": return "cause";
            case "led": return i == 0 ? "cause" : "flag";
            case "early": case "moved": case "even": return i == 0 ? "judge" : "cause";
            case "rather": case "odds": return i == 0 ? "judge" : "few";
            case "kind": case "state": return "few";
            case "log": return i == 0 ? "ago" : "few";
            case "count": return "what";
            case "saved": return "flag";
            case "meals": return i == 0 ? "judge" : "flag";
            case "feeds": case "crumbles": case "pairs": case "rests": case "tries": return "judge";
            case "end": return "percent";
            default: return "any";
        }
    }

    private int argument(String sort) {
        if (random.nextInt(60) == 0) {
            int[] odd = {Integer.MIN_VALUE, Integer.MAX_VALUE, -1, -2, 5, 8, 12, 49, 100, 101, 60, 256, 65536};
            return odd[random.nextInt(odd.length)];
        }
        switch (sort) {
            case "judge": return random.nextInt(Math.max(1, oracle.count(0))) - (random.nextInt(30) == 0 ? 1 : 0);
            case "cause": return random.nextInt(Math.max(1, oracle.count(1)));
            case "hour": return random.nextInt(3) == 0 ? oracle.count(4) : random.nextInt(12);
            case "what": return random.nextInt(14);
            case "percent": return random.nextInt(random.nextInt(3) == 0 ? 101 : 60);
            case "run": return random.nextInt(4) == 0 ? random.nextInt(49) : 1 + random.nextInt(4);
            case "flag": return random.nextInt(2);
            case "few": return random.nextInt(6);
            case "ago": return random.nextInt(random.nextInt(3) == 0 ? 61 : 8);
            default: return random.nextInt();
        }
    }

    private String call(String name, int... args) throws Exception {
        left--;
        Method mine = method(name);
        Class<?>[] types = mine.getParameterTypes();
        Object[] given = new Object[args.length];
        for (int i = 0; i < args.length; i++) {
            given[i] = types[i] == boolean.class ? (Object) ((args[i] & 1) != 0) : (Object) args[i];
        }
        String due = answer(Oracle.class.getDeclaredMethod(name, types), oracle, given);
        String got = answer(mine, bench, given);
        String row = name + Arrays.toString(given) + " -> " + got;
        calls.add(row);
        if (!due.equals(got)) {
            return row + ", due is " + due;
        }
        return left % 100 == 0 ? all() : null;
    }

    /** Compares all that can be looked at without changing anything. */
    private String all() throws Exception {
        StringBuilder mine = new StringBuilder();
        StringBuilder due = new StringBuilder();
        for (int what = 0; what < 13; what++) {
            for (int i = 0; i < 9; i++) {
                Object[] args = {i, what};
                for (String name : new String[] {"judge", "cause", "listed", "log", "count"}) {
                    Object[] given = name.equals("count") ? new Object[] {what} : args;
                    Class<?>[] types = method(name).getParameterTypes();
                    mine.append(name).append(answer(method(name), bench, given)).append(' ');
                    due.append(name).append(answer(Oracle.class.getDeclaredMethod(name, types), oracle, given))
                            .append(' ');
                }
            }
        }
        return mine.toString().equals(due.toString()) ? null : "all: " + mine + "\n due is " + due;
    }

    private static String answer(Method m, Object on, Object[] given) throws Exception {
        try {
            return String.valueOf(m.invoke(on, given));
        } catch (InvocationTargetException e) {
            Throwable t = e.getTargetException();
            if (t instanceof Error) {
                throw (Error) t;
            }
            return "throws " + t.getClass().getName();
        }
    }
}
