import java.lang.management.ManagementFactory;
import java.lang.reflect.Constructor;
import java.lang.reflect.Field;
import java.lang.reflect.Member;
import java.lang.reflect.Method;
import java.lang.reflect.Modifier;
import java.nio.file.Files;
import java.util.ArrayList;
import java.util.Arrays;
import java.util.List;
import java.util.TreeSet;
import java.util.regex.Matcher;
import java.util.regex.Pattern;

/** The form of the class: its face, what can be seen of LANGUAGE.md, and what a run makes. */
public final class FormTest {
    private static final String FACE = "int feed(int,int,int,int,int)|boolean end(int)"
            + "|int assize() IllegalArgumentException UnsupportedOperationException|int law() IllegalArgumentException"
            + "|int fault()|int judge(int,int) IndexOutOfBoundsException NoSuchElementException"
            + "|int cause(int,int) IndexOutOfBoundsException NoSuchElementException"
            + "|int listed(int,int) IndexOutOfBoundsException|int smell(int) IndexOutOfBoundsException"
            + "|int point(int,int,int) IndexOutOfBoundsException|int would(int,int,int) IndexOutOfBoundsException"
            + "|int hours(int) IllegalArgumentException"
            + "|int list(int,int,int) IndexOutOfBoundsException IllegalStateException"
            + "|int strike(int,int) IndexOutOfBoundsException IllegalStateException"
            + "|int feeds(int) IndexOutOfBoundsException"
            + "|int fast(int,int) IndexOutOfBoundsException IllegalArgumentException IllegalStateException"
            + "|int inn(int,int) IndexOutOfBoundsException IllegalArgumentException"
            + "|int appeal(int) IndexOutOfBoundsException IllegalStateException"
            + "|int grave(int,int) IndexOutOfBoundsException IllegalArgumentException"
            + "|int early(int,int) IndexOutOfBoundsException|boolean split(int) IndexOutOfBoundsException"
            + "|int saved(boolean)|int needed()|int crumbles(int) IndexOutOfBoundsException|int worst()|int deep()"
            + "|int roots()|int meals(int,boolean) IndexOutOfBoundsException IllegalArgumentException"
            + "|int tries(int) IndexOutOfBoundsException IllegalArgumentException"
            + "|int moved(int,int) IndexOutOfBoundsException|int even(int,int) IndexOutOfBoundsException"
            + "|int rather(int,int) IndexOutOfBoundsException|int worth()|int pairs(int) IndexOutOfBoundsException"
            + "|int agree()|int rests(int) IndexOutOfBoundsException"
            + "|int odds(int,int) IndexOutOfBoundsException IllegalArgumentException|int hungriest()|int gravest()"
            + "|int kind(int) IndexOutOfBoundsException|int state(int) IllegalArgumentException|int twins()"
            + "|int ahead(int,int) IndexOutOfBoundsException IllegalArgumentException"
            + "|int trial(int,boolean) IllegalArgumentException|int span(int,boolean) IllegalArgumentException"
            + "|int led(int,boolean) IndexOutOfBoundsException|int log(int,int) NoSuchElementException|int seed(int)"
            + "|boolean undo()|void image()|boolean back()|int count(int)";

    private static int wrong = 0;

    private FormTest() {
    }

    private static void need(boolean right, String what) {
        if (!right) {
            wrong++;
            System.out.println("form: " + what);
        }
    }

    public static void main(String[] args) throws Exception {
        face();
        document();
        nested();
        source();
        room();
        System.out.println("form: " + wrong + " wrong");
        System.exit(wrong == 0 ? 0 : 1);
    }

    private static void face() {
        Class<?> c = HungryBench.class;
        need(Modifier.isPublic(c.getModifiers()) && Modifier.isFinal(c.getModifiers()), "public and final");
        TreeSet<String> got = new TreeSet<>();
        for (Method m : c.getDeclaredMethods()) {
            if (Modifier.isPublic(m.getModifiers())) {
                got.add(text(m));
            } else {
                need(Modifier.isPrivate(m.getModifiers()), "a hidden method that is not private: " + m);
            }
        }
        TreeSet<String> want = new TreeSet<>(Arrays.asList(FACE.split("\\|")));
        need(got.equals(want), "the face: " + got);
        for (Field f : c.getDeclaredFields()) {
            boolean open = f.getName().equals("NONE");
            need(Modifier.isPublic(f.getModifiers()) == open && (open || hidden(f)), "field " + f);
        }
        Constructor<?>[] made = c.getDeclaredConstructors();
        need(made.length == 1 && made[0].getParameterCount() == 0 && Modifier.isPublic(made[0].getModifiers()),
                "one constructor");
    }

    /** The face is that of the document, where it is told whole and where each promise tells its call. */
    private static void document() throws Exception {
        if (!Files.isRegularFile(Check.DOC)) {
            return;
        }
        String doc = Check.text(Check.DOC);
        TreeSet<String> face = new TreeSet<>(Arrays.asList(FACE.split("\\|")));
        TreeSet<String> told = calls(doc, "    public (\\w+ \\w+)\\(([^)]*)\\)(?: throws ([^;]*))?;");
        need(told.equals(face), "the face of the document: " + told);
        TreeSet<String> promised = calls(doc, "`(\\w+ \\w+)\\(([^)]*)\\)(?: throws ([^`]*))?`: ");
        need(promised.equals(face), "the calls of the promises: " + promised);
    }

    private static TreeSet<String> calls(String doc, String form) {
        TreeSet<String> calls = new TreeSet<>();
        Matcher m = Pattern.compile(form).matcher(doc);
        while (m.find()) {
            String thrown = m.group(3) == null ? "" : " " + m.group(3).replace(",", "");
            calls.add(m.group(1) + "(" + m.group(2).replaceAll(" \\w+(, )?", ",").replaceAll(",$", "") + ")" + thrown);
        }
        return calls;
    }

    private static boolean hidden(Member m) {
        return Modifier.isPrivate(m.getModifiers());
    }

    private static String text(Method m) {
        List<String> types = new ArrayList<>();
        for (Class<?> t : m.getParameterTypes()) {
            types.add(t.getSimpleName());
        }
        StringBuilder s = new StringBuilder(m.getReturnType().getSimpleName() + " " + m.getName());
        s.append('(').append(String.join(",", types)).append(')');
        for (Class<?> t : m.getExceptionTypes()) {
            s.append(' ').append(t.getSimpleName());
        }
        return s.toString();
    }

    private static void nested() {
        TreeSet<String> names = new TreeSet<>();
        for (Method m : HungryBench.class.getMethods()) {
            names.add(m.getName());
        }
        Class<?>[] inside = HungryBench.class.getDeclaredClasses();
        need(inside.length <= 12, "at most some twelve classes");
        for (Class<?> c : inside) {
            need(Modifier.isStatic(c.getModifiers()) && !Modifier.isPublic(c.getModifiers()), "class " + c);
            int fields = 0;
            for (Field f : c.getDeclaredFields()) {
                boolean fixed = Modifier.isStatic(f.getModifiers());
                fields += fixed ? 0 : 1;
                need(!fixed || Modifier.isFinal(f.getModifiers()), "static state " + f);
            }
            need(fields <= 22, "some twenty fields: " + c);
            for (Method m : c.getDeclaredMethods()) {
                need(!names.contains(m.getName()), "a method of the name of a public one: " + m);
                need(m.getParameterCount() <= 7, "more than seven parameters: " + m);
            }
        }
    }

    private static void source() throws Exception {
        String text = Check.text(Check.SOURCE);
        String code = text.replaceAll("(?s)/\\*.*?\\*/", "").replaceAll("//[^\n]*", "");
        for (String bad : new String[] {"->", "::", "\\bcatch\\b", "\\bfinally\\b", "\\bsynchronized\\b",
            "\\bassert\\b", "\\bdouble\\b", "\\bfloat\\b", "Exact\\b", "\\bSystem\\.(?!arraycopy)", "\\bRandom\\b",
            "\\bThread\\b", "\\bgetMessage\\b", "hashCode", "toString", "\\bpackage\\b", "\\bstatic\\s*\\{"}) {
            need(!Pattern.compile(bad).matcher(code).find(), "the code has " + bad);
        }
        Matcher imports = Pattern.compile("import ([^;]*);").matcher(code);
        while (imports.find()) {
            need(Arrays.asList("java.util.Arrays", "java.util.NoSuchElementException").contains(imports.group(1)),
                    "import " + imports.group(1));
        }
        Matcher thrown = Pattern.compile("throw\\b([^;]*);").matcher(code);
        while (thrown.find()) {
            need(thrown.group(1).matches(" new (IllegalState|IllegalArgument|IndexOutOfBounds|UnsupportedOperation"
                    + "|NoSuchElement)(Exception)\\(\\)"), "throw" + thrown.group(1));
        }
        for (char c : text.toCharArray()) {
            need(c > 0 && c < 128, "a sign beyond 127");
        }
        int lines = 0;
        for (String line : code.split("\n")) {
            lines = line.matches(" {4,8}\\S.*[^;]\\s*\\{") || line.matches(" {4,8}\\}") ? 0 : lines + 1;
            need(lines <= 60, "a method beyond some sixty lines, at: " + line);
        }
    }

    /** The dearest calls make nothing: what a run makes is made by the constructor. */
    private static void room() {
        com.sun.management.ThreadMXBean meter =
                (com.sun.management.ThreadMXBean) ManagementFactory.getThreadMXBean();
        long id = Thread.currentThread().getId();
        exercise(told());
        HungryBench x = told();
        long before = meter.getThreadAllocatedBytes(id);
        exercise(x);
        long during = meter.getThreadAllocatedBytes(id) - before;
        need(during < 4096, "calls allocate " + during + " bytes");
        before = meter.getThreadAllocatedBytes(id);
        HungryBench y = new HungryBench();
        during = meter.getThreadAllocatedBytes(id) - before;
        need(y.count(0) == 0 && during < 64 * 1024, "an object takes " + during + " bytes");
    }

    private static HungryBench told() {
        HungryBench x = new HungryBench();
        tape(x, "judge mercy 30 nerve 0;judge mercy 20 nerve 1;judge mercy 1 nerve 0;case a grave 20;"
                + "case b grave 31 on 0;case a grave 40;list 0 0 0;list 1 0 1;list 2 4 2;inn 0 50");
        x.assize();
        tape(x, "move 4 if late and not (hunger + 3 > grave or leaning);crumb 5;harden 3 if precedent");
        x.law();
        return x;
    }

    private static void tape(HungryBench x, String text) {
        for (int i = 0; i < text.length(); i += 20) {
            int[] n = new int[5];
            for (int k = 0; k < 20; k++) {
                n[k / 4] = n[k / 4] << 8 | (i + k < text.length() ? text.charAt(i + k) : ' ');
            }
            x.feed(n[0], n[1], n[2], n[3], n[4]);
        }
    }

    private static void exercise(HungryBench x) {
        for (int n = 0; n < 20; n++) {
            x.hours(5);
            x.saved(true);
            x.needed();
            x.span(48, true);
            x.trial(48, true);
            x.ahead(0, 48);
            x.tries(1);
            x.pairs(-1);
            x.moved(0, 1);
            x.even(0, 1);
            x.image();
            x.undo();
            x.back();
            x.worth();
            for (int what = 0; what < 9; what++) {
                x.judge(1, what);
                x.cause(1, what + 4);
            }
        }
        x.assize();
        x.law();
    }
}
