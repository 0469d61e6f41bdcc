import java.io.IOException;
import java.lang.reflect.InvocationTargetException;
import java.lang.reflect.Method;
import java.nio.file.Files;
import java.nio.file.Path;
import java.nio.file.Paths;
import java.util.ArrayList;
import java.util.Arrays;
import java.util.Collections;
import java.util.Comparator;
import java.util.List;
import java.util.NoSuchElementException;

/** What the tests share: checks that print what is not as due, towns made by texts, and looks at all of an object. */
abstract class Check {
    static final Class<?> INDEX = IndexOutOfBoundsException.class;
    static final Class<?> ARGUMENT = IllegalArgumentException.class;
    static final Class<?> STATE = IllegalStateException.class;
    static final Class<?> ELEMENT = NoSuchElementException.class;
    static final Class<?> UNSUPPORTED = UnsupportedOperationException.class;

    /** Tests are run where the project stands. */
    static final Path SOURCE = Paths.get("src/main/java/HungryBench.java");
    static final Path TESTS = Paths.get("src/test/java");
    static final Path DOC = Paths.get("../shared/DOC.md");

    static final int LEAST = Integer.MIN_VALUE;
    static final int MOST = Integer.MAX_VALUE;

    /** What is tested, for what is printed of a check that goes wrong. */
    static String label = "";

    private static final int MOST_ACTS = 12;

    private static int checks = 0;
    private static int wrong = 0;
    private static String doc = null;

    interface Call {
        void go();
    }

    interface Use {
        void on(HungryBench x);
    }

    interface NumberedUse {
        void on(HungryBench x, int n);
    }

    interface Recipe {
        HungryBench make();
    }

    static void due(String what, long got, long want) {
        checks++;
        if (got != want) {
            wrong++;
            System.out.println(label + ": " + what + " answered " + got + ", due is " + want);
        }
    }

    static void due(String what, boolean got, boolean want) {
        due(what, got ? 1 : 0, want ? 1 : 0);
    }

    static void refused(String what, Class<?> type, Call call) {
        checks++;
        Class<?> got = null;
        try {
            call.go();
        } catch (RuntimeException e) {
            got = e.getClass();
        }
        if (got != type) {
            wrong++;
            System.out.println(label + ": " + what + " threw " + got + ", due is " + type);
        }
    }

    /** That a call throws nothing, whatever it answers. */
    static void taken(String what, Call call) {
        refused(what, null, call);
    }

    /** Ends a test's main method, told how many checks there were. */
    static void end(String name) {
        System.out.println(name + ": " + checks + " checks, " + wrong + " wrong");
        System.exit(wrong == 0 ? 0 : 1);
    }

    /**
     * Runs the tests of a class: its methods named p, the number of a promise, _ and what is tested of it. Each promise
     * from the first to the last must have one.
     */
    static void runTests(Class<?> tests, int first, int last) throws Exception {
        List<Method> all = new ArrayList<>();
        for (Method m : tests.getDeclaredMethods()) {
            if (m.getName().matches("p[0-9]+_.*")) {
                all.add(m);
            }
        }
        all.sort(Comparator.comparing(Check::promiseOf).thenComparing(Method::getName));
        for (int promise = first; promise <= last; promise++) {
            int number = promise;
            label = "promise " + promise;
            due("has a test", all.stream().anyMatch(m -> promiseOf(m) == number), true);
        }
        for (Method m : all) {
            label = m.getName();
            due("is of a promise from " + first + " to " + last, promiseOf(m) >= first && promiseOf(m) <= last, true);
            run(m);
        }
        System.out.println(all.size() + " tests");
        end(tests.getSimpleName());
    }

    private static int promiseOf(Method test) {
        return Integer.parseInt(test.getName().replaceAll("p([0-9]+)_.*", "$1"));
    }

    private static void run(Method test) throws Exception {
        try {
            test.invoke(null);
        } catch (InvocationTargetException e) {
            wrong++;
            System.out.println(label + ": threw " + e.getTargetException());
            e.getTargetException().printStackTrace(System.out);
        }
    }

    /** Names the sentence of the document that a test is of; it must stand there, if the document is at hand. */
    static void says(String sentence) throws Exception {
        label = label.replaceAll(" \".*", "") + " \"" + sentence + "\"";
        if (doc == null) {
            doc = Files.isRegularFile(DOC) ? text(DOC).replaceAll("\\s+", " ") : "";
        }
        due("stands in the document", doc.isEmpty() || doc.contains(sentence), true);
    }

    static String text(Path file) throws IOException {
        return new String(Files.readAllBytes(file), "UTF-8");
    }

    static String times(String text, int n) {
        return String.join(";", Collections.nCopies(n, text));
    }

    /** Puts a text on the tape, in place of what is there. */
    static void tape(HungryBench x, String text) {
        x.end(0);
        for (int i = 0; i < text.length(); i += 20) {
            int[] n = new int[5];
            for (int k = 0; k < 20; k++) {
                n[k / 4] = n[k / 4] << 8 | (i + k < text.length() ? text.charAt(i + k) : 0);
            }
            x.feed(n[0], n[1], n[2], n[3], n[4]);
        }
        x.end(text.length());
    }

    static HungryBench town(String... texts) {
        HungryBench x = new HungryBench();
        for (String text : texts) {
            tell(x, text);
        }
        return x;
    }

    static HungryBench under(String law, String... texts) {
        HungryBench x = town(texts);
        rule(x, law);
        return x;
    }

    static int tell(HungryBench x, String text) {
        tape(x, text);
        return x.assize();
    }

    static int rule(HungryBench x, String law) {
        tape(x, law);
        return x.law();
    }

    static void wrongAssize(HungryBench x, String text, int fault) {
        tape(x, text);
        refused("assize of '" + text + "'", ARGUMENT, x::assize);
        due("fault of '" + text + "'", x.fault(), fault);
    }

    static void wrongLaw(HungryBench x, String text, int fault) {
        tape(x, text);
        refused("law of '" + text + "'", ARGUMENT, x::law);
        due("fault of '" + text + "'", x.fault(), fault);
    }

    /**
     * Three judges and five cases in hour 2 of day 2: 0 freed, 1 waiting, 2 hanged, 3 undone, 4 waiting; a law, a fault
     * (4), an image, four acts that can be undone, and 'day 7' on the tape.
     */
    static HungryBench standing() {
        HungryBench x = under("move 3 if late;harden 2 if kind > 3;crumb 1 if late and leaning",
                "judge mercy 40 nerve 9 hunger 5 pay 7;judge mercy 0 nerve 9 hunger 60;judge mercy 20 nerve 0 pay 40;"
                + "case a grave 45 worth 5;case b grave 30 worth 4 on 0;case c grave 90 worth 3 on 1;"
                + "case a grave 10 worth 2;case f grave 5;inn 1 90;inn 7 30;list 0 0 0;list 1 0 2;day 2");
        wrongAssize(x, "day x", 4);
        x.image();
        x.list(2, 1, 3);
        x.hours(2);
        x.inn(3, 9);
        x.list(2, 5, 4);
        tape(x, "day 7");
        return x;
    }

    /** That a call throws, and that all is behind it as if it had not been called. */
    static void stays(String what, Class<?> type, Recipe recipe, Use call) {
        HungryBench x = recipe.make();
        refused(what, type, () -> call.on(x));
        alike("behind " + what, look(x), look(recipe.make()));
    }

    static void stays(String what, Class<?> type, Use call) {
        stays(what, type, Check::standing, call);
    }

    /** That a call throws, and that all is behind it as if it had not been called, but for the tape, which is empty. */
    static void staysButTape(String what, Class<?> type, Recipe recipe, Use call) {
        HungryBench x = recipe.make();
        refused(what, type, () -> call.on(x));
        HungryBench y = recipe.make();
        y.end(0);
        alike("behind " + what, look(x), look(y));
    }

    /** Likewise of a text that is refused: the tape is empty, and fault() as told. */
    static void staysButText(String what, Class<?> type, Recipe recipe, String text, int fault, Use call) {
        HungryBench x = recipe.make();
        tape(x, text);
        refused(what, type, () -> call.on(x));
        due("fault behind " + what, x.fault(), fault);
        due("the tape behind " + what, x.end(1), false);
        HungryBench y = recipe.make();
        y.end(0);
        alike("behind " + what, look(x, false), look(y, false));
    }

    /** That there are n of a kind: 0 and n - 1 are taken, all others are refused and change nothing. */
    static void thereAre(int n, String what, NumberedUse call) {
        for (int i : new int[] {0, n - 1}) {
            HungryBench x = standing();
            taken(what + " " + i, () -> call.on(x, i));
        }
        for (int i : new int[] {-1, n, -2, n + 1, 256, LEAST, MOST}) {
            stays(what + " " + i, INDEX, x -> call.on(x, i));
        }
    }

    /** That numbers from least to most are taken, all others are refused and change nothing. */
    static void numbersFrom(int least, int most, String what, NumberedUse call) {
        for (int n : new int[] {least, least + 1, most - 1, most}) {
            HungryBench x = standing();
            taken(what + " " + n, () -> call.on(x, n));
        }
        for (int n : new int[] {least - 1, most + 1, -1, LEAST, MOST}) {
            stays(what + " " + n, ARGUMENT, x -> call.on(x, n));
        }
    }

    /** That a call only asks: all is behind it as if it had not been called. */
    static void asks(String what, Use call) {
        HungryBench x = standing();
        call.on(x);
        alike("behind " + what, look(x), look(standing()));
    }

    /** That a call only asks, but for the tape, which it uses up. */
    static void asksWithTheTape(String what, String told, Use call) {
        HungryBench x = standing();
        tape(x, told);
        call.on(x);
        HungryBench y = standing();
        y.end(0);
        alike("behind " + what, look(x), look(y));
    }

    /**
     * That a call changes nothing but what is told: lines of all that can be seen around, as they are behind it, in their
     * order.
     */
    static void changes(String what, Use call, String... lines) {
        HungryBench x = standing();
        call.on(x);
        List<String> got = new ArrayList<>();
        List<String> was = withTape(standing());
        for (String line : withTape(x)) {
            if (!was.contains(line)) {
                got.add(line);
            }
        }
        alike("behind " + what + ", changed", got, Arrays.asList(lines));
    }

    /** What is on the tape (as many bytes), what was the fault, and all that stands around. */
    private static List<String> withTape(HungryBench x) {
        List<String> seen = new ArrayList<>();
        seen.add("fault: " + x.fault());
        seen.add("tape: " + (x.feed(0, 0, 0, 0, 0) - 20));
        lookAround(x, seen);
        return seen;
    }

    /** That a call throws as what was told first of several exceptions, and changes nothing. */
    static void toldFirst(String what, Class<?> type, Use call) {
        stays(what, type, call);
    }

    static void alike(String what, List<String> got, List<String> want) {
        due("the number of looks " + what, got.size(), want.size());
        for (int i = 0; i < Math.min(got.size(), want.size()); i++) {
            checks++;
            if (!got.get(i).equals(want.get(i))) {
                wrong++;
                System.out.println(label + ": " + what + " there is " + got.get(i) + ", due is " + want.get(i));
                return;
            }
        }
    }

    /** All that can be seen of an object: what is now, what was ahead of each act, and the image. It is worn out by it. */
    static List<String> look(HungryBench x) {
        return look(x, true);
    }

    private static List<String> look(HungryBench x, boolean withFault) {
        List<String> seen = new ArrayList<>();
        if (withFault) {
            seen.add("fault " + x.fault());
        }
        lookAtTape(x, seen);
        lookAround(x, seen);
        for (int n = 0; n <= MOST_ACTS && x.undo(); n++) {
            glance(x, seen, "undone");
        }
        seen.add("back " + x.back());
        glance(x, seen, "back");
        readTape(x, seen);
        return seen;
    }

    /** All that can be seen of an object now. */
    static List<String> around(HungryBench x) {
        List<String> seen = new ArrayList<>();
        lookAround(x, seen);
        return seen;
    }

    private static void lookAround(HungryBench x, List<String> seen) {
        glance(x, seen, "now");
        int judges = x.count(0);
        int cases = x.count(1);
        for (int j = 0; j < judges; j++) {
            for (int what = 0; what < 9; what++) {
                seen.add("judge " + j + " " + what + ": " + x.judge(j, what));
            }
            for (int h = 0; h < 12; h++) {
                seen.add("listed " + j + " " + h + ": " + x.listed(j, h));
            }
        }
        for (int c = 0; c < cases; c++) {
            for (int what = 0; what < 13; what++) {
                seen.add("cause " + c + " " + what + ": " + x.cause(c, what));
            }
            for (int j = 0; j < judges; j++) {
                seen.add("point " + j + " " + c + ": " + x.point(j, c, 7));
            }
        }
        for (int h = 0; h < 12; h++) {
            seen.add("smell " + h + ": " + x.smell(h));
        }
        int rows = Math.min(5, x.count(9));
        for (int ago = 0; ago < rows; ago++) {
            for (int what = 0; what < 6; what++) {
                seen.add("log " + ago + " " + what + ": " + x.log(ago, what));
            }
        }
    }

    private static void glance(HungryBench x, List<String> seen, String when) {
        for (int what = 0; what <= 10; what++) {
            seen.add(when + ", count " + what + ": " + x.count(what));
        }
        for (int state = 0; state <= 3; state++) {
            seen.add(when + ", state " + state + ": " + x.state(state));
        }
        int seed = x.seed(0);
        x.seed(seed);
        seen.add(when + ", seed: " + seed);
    }

    private static void lookAtTape(HungryBench x, List<String> seen) {
        int longer = x.feed(0, 0, 0, 0, 0);
        seen.add("tape, and 20 more: " + longer);
        if (longer >= 20) {
            x.end(longer - 20);
        }
    }

    private static void readTape(HungryBench x, List<String> seen) {
        String answer;
        try {
            answer = String.valueOf(x.assize());
        } catch (RuntimeException e) {
            answer = e.getClass().getName();
        }
        seen.add("tape as a text: " + answer + ", fault " + x.fault() + ", day " + x.count(5));
    }
}
