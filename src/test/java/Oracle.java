import java.util.ArrayDeque;
import java.util.ArrayList;
import java.util.Arrays;
import java.util.Collections;
import java.util.Comparator;
import java.util.List;
import java.util.NoSuchElementException;
import java.util.TreeMap;

/**
 * A second, naive reading of DOC.md with the same face, for comparing answers. It shares nothing with the class:
 * laws are trees that are walked anew, all ways are tried one by one, and states are copied whole.
 */
public final class Oracle {
    static final class Judge {
        int hunger, mercy, nerve, pay;

        Judge copy() {
            Judge o = new Judge();
            o.hunger = hunger;
            o.mercy = mercy;
            o.nerve = nerve;
            o.pay = pay;
            return o;
        }
    }

    static final class Case {
        int kind, grave, worth = 1, lean = -1, state = 0, by = -1, day = -1;

        Case copy() {
            Case o = new Case();
            o.kind = kind;
            o.grave = grave;
            o.worth = worth;
            o.lean = lean;
            o.state = state;
            o.by = by;
            o.day = day;
            return o;
        }
    }

    static final class World {
        List<Judge> judges = new ArrayList<>();
        List<Case> cases = new ArrayList<>();
        TreeMap<Integer, Integer> list = new TreeMap<>(); // judge * 100 + hour -> case
        int[] inn = new int[12];
        int hour, day, texts, seed = 1;
        List<int[]> log = new ArrayList<>();
        List<Rule> law = null;

        World copy() {
            World o = new World();
            for (Judge j : judges) {
                o.judges.add(j.copy());
            }
            for (Case c : cases) {
                o.cases.add(c.copy());
            }
            o.list.putAll(list);
            o.inn = inn.clone();
            o.hour = hour;
            o.day = day;
            o.texts = texts;
            o.seed = seed;
            for (int[] row : log) {
                o.log.add(row.clone());
            }
            o.law = law;
            return o;
        }
    }

    /** What a condition sees. */
    static final class View {
        int judge, hunger, nerve, kind, grave, worth, hour;
        boolean leaning, precedent;
    }

    interface Cond {
        boolean test(View v);
    }

    interface Sum {
        int get(View v);
    }

    static final class Rule {
        String verb;
        int n;
        Cond cond = v -> true;
    }

    static final class Wrong extends Exception {
        private static final long serialVersionUID = 1L;
        final int at;

        Wrong(int at) {
            this.at = at;
        }
    }

    static final class Tok {
        String text;
        int at;
        char type; // w, n, s, e
    }

    private World w = new World();
    private World image = null;
    private final ArrayDeque<World> past = new ArrayDeque<>();
    private byte[] tape = new byte[0];
    private int faultAt = -1;
    private List<Tok> toks;
    private int pos;

    // ---- the tape and texts

    public int feed(int a, int b, int c, int d, int e) {
        if (tape.length + 20 > 400) {
            return -1;
        }
        byte[] more = Arrays.copyOf(tape, tape.length + 20);
        int i = tape.length;
        for (int n : new int[] {a, b, c, d, e}) {
            more[i++] = (byte) (n >> 24);
            more[i++] = (byte) (n >> 16);
            more[i++] = (byte) (n >> 8);
            more[i++] = (byte) n;
        }
        tape = more;
        return tape.length;
    }

    public boolean end(int n) {
        if (n < 0 || n > tape.length) {
            return false;
        }
        tape = Arrays.copyOf(tape, n);
        return true;
    }

    private void tokens() {
        String s = new String(tape, java.nio.charset.StandardCharsets.ISO_8859_1);
        tape = new byte[0];
        toks = new ArrayList<>();
        pos = 0;
        java.util.regex.Matcher m = java.util.regex.Pattern.compile("([a-z]+)|([0-9]+)|([^ ])",
                java.util.regex.Pattern.DOTALL).matcher(s);
        while (m.find()) {
            Tok t = new Tok();
            t.text = m.group();
            t.at = m.start();
            t.type = m.group(1) != null ? 'w' : m.group(2) != null ? 'n' : 's';
            toks.add(t);
        }
        Tok t = new Tok();
        t.text = "";
        t.at = s.length();
        t.type = 'e';
        toks.add(t);
    }

    private Tok peek() {
        return toks.get(pos);
    }

    private boolean accept(String text) {
        if (peek().type != 'e' && peek().text.equals(text)) {
            pos++;
            return true;
        }
        return false;
    }

    private void expect(String text) throws Wrong {
        if (!accept(text)) {
            throw new Wrong(peek().at);
        }
    }

    private int number(int most) throws Wrong {
        Tok t = peek();
        if (t.type != 'n' || t.text.length() > 3 || Integer.parseInt(t.text) > most) {
            throw new Wrong(t.at);
        }
        pos++;
        return Integer.parseInt(t.text);
    }

    public int assize() {
        tokens();
        World next = w.copy();
        try {
            readAssize(next);
            faultAt = -1;
        } catch (Wrong e) {
            faultAt = e.at;
            throw new IllegalArgumentException();
        }
        if (w.texts == 12) {
            throw new UnsupportedOperationException();
        }
        next.texts++;
        w = next;
        past.clear();
        return w.texts;
    }

    private void readAssize(World n) throws Wrong {
        if (peek().type == 'e') {
            return;
        }
        int lines = 0;
        do {
            if (++lines > 14) {
                throw new Wrong(peek().at);
            }
            assizeLine(n);
        } while (accept(";"));
        if (peek().type != 'e') {
            throw new Wrong(peek().at);
        }
    }

    private void assizeLine(World n) throws Wrong {
        Tok t = peek();
        if (accept("judge")) {
            if (n.judges.size() == 5) {
                throw new Wrong(t.at);
            }
            Judge j = new Judge();
            expect("mercy");
            j.mercy = number(99);
            expect("nerve");
            j.nerve = number(9);
            if (accept("hunger")) {
                j.hunger = number(99);
            }
            if (accept("pay")) {
                j.pay = number(99);
            }
            n.judges.add(j);
        } else if (accept("case")) {
            if (n.cases.size() == 8) {
                throw new Wrong(t.at);
            }
            Case c = new Case();
            Tok k = peek();
            if (!k.text.matches("[a-f]")) {
                throw new Wrong(k.at);
            }
            pos++;
            c.kind = k.text.charAt(0) - 'a';
            expect("grave");
            c.grave = number(99);
            if (accept("worth")) {
                c.worth = number(99);
            }
            if (accept("on")) {
                c.lean = number(n.cases.size() - 1);
            }
            n.cases.add(c);
        } else if (accept("list")) {
            int j = number(n.judges.size() - 1);
            int h = number(11);
            Tok ct = peek();
            int c = number(n.cases.size() - 1);
            if (n.list.containsValue(c)) {
                throw new Wrong(ct.at);
            }
            n.list.put(j * 100 + h, c);
        } else if (accept("inn")) {
            int h = number(11);
            n.inn[h] = number(100);
        } else if (accept("hour")) {
            n.hour = number(11);
        } else if (accept("day")) {
            n.day = number(999);
        } else {
            throw new Wrong(t.at);
        }
    }

    public int law() {
        tokens();
        List<Rule> rules = new ArrayList<>();
        try {
            if (peek().type != 'e') {
                do {
                    if (rules.size() == 12) {
                        throw new Wrong(peek().at);
                    }
                    rules.add(lawLine());
                } while (accept(";"));
                if (peek().type != 'e') {
                    throw new Wrong(peek().at);
                }
            }
            faultAt = -1;
        } catch (Wrong e) {
            faultAt = e.at;
            throw new IllegalArgumentException();
        }
        w.law = rules;
        past.clear();
        return rules.size();
    }

    private Rule lawLine() throws Wrong {
        Rule r = new Rule();
        Tok t = peek();
        if (!accept("move") && !accept("harden") && !accept("crumb")) {
            throw new Wrong(t.at);
        }
        r.verb = t.text;
        r.n = number(99);
        if (accept("if")) {
            r.cond = anyOf(0);
        }
        return r;
    }

    private Cond anyOf(int deep) throws Wrong {
        Cond c = allOf(deep);
        while (accept("or")) {
            Cond a = c;
            Cond b = allOf(deep);
            c = v -> a.test(v) || b.test(v);
        }
        return c;
    }

    private Cond allOf(int deep) throws Wrong {
        Cond c = atom(deep);
        while (accept("and")) {
            Cond a = c;
            Cond b = atom(deep);
            c = v -> a.test(v) && b.test(v);
        }
        return c;
    }

    private Cond atom(int deep) throws Wrong {
        Tok t = peek();
        if (t.text.equals("not") || t.text.equals("(")) {
            if (deep == 6) {
                throw new Wrong(t.at);
            }
            pos++;
            if (t.text.equals("not")) {
                Cond c = atom(deep + 1);
                return v -> !c.test(v);
            }
            Cond c = anyOf(deep + 1);
            expect(")");
            return c;
        }
        if (accept("leaning")) {
            return v -> v.leaning;
        }
        if (accept("precedent")) {
            return v -> v.precedent;
        }
        if (accept("late")) {
            return v -> v.hour > 5;
        }
        Sum a = sum();
        boolean less = accept("<");
        if (!less) {
            expect(">");
        }
        Sum b = sum();
        return less ? v -> a.get(v) < b.get(v) : v -> a.get(v) > b.get(v);
    }

    private Sum sum() throws Wrong {
        Sum s = part();
        while (accept("+")) {
            Sum a = s;
            Sum b = part();
            s = v -> a.get(v) + b.get(v);
        }
        return s;
    }

    private Sum part() throws Wrong {
        if (accept("judge")) {
            return v -> v.judge;
        } else if (accept("hunger")) {
            return v -> v.hunger;
        } else if (accept("nerve")) {
            return v -> v.nerve;
        } else if (accept("kind")) {
            return v -> v.kind;
        } else if (accept("grave")) {
            return v -> v.grave;
        } else if (accept("worth")) {
            return v -> v.worth;
        } else if (accept("hour")) {
            return v -> v.hour;
        }
        int n = number(999);
        return v -> n;
    }

    public int fault() {
        return faultAt;
    }

    // ---- what is told

    private static View view(World x, int j, int c, int h) {
        View v = new View();
        v.judge = j;
        v.hunger = x.judges.get(j).hunger;
        v.nerve = x.judges.get(j).nerve;
        v.hour = h;
        v.kind = 6;
        if (c >= 0) {
            Case k = x.cases.get(c);
            v.kind = k.kind;
            v.grave = k.grave;
            v.worth = k.worth;
            v.leaning = k.lean != -1;
            v.precedent = v.leaning && x.cases.get(k.lean).state == 1;
        }
        return v;
    }

    private static int total(World x, String verb, View v) {
        int n = 0;
        if (x.law != null) {
            for (Rule r : x.law) {
                if (r.verb.equals(verb) && r.cond.test(v)) {
                    n += r.n;
                }
            }
        }
        return n;
    }

    private static int pointIn(World x, int j, int c, int h) {
        View v = view(x, j, c, h);
        return v.hunger + x.judges.get(j).mercy + total(x, "move", v) - v.grave - total(x, "harden", v);
    }

    private static int crumbsIn(World x, int j, int c) {
        int n = x.inn[x.hour] + total(x, "crumb", view(x, j, c, x.hour)) - 10 * x.judges.get(j).nerve;
        return n < 0 ? 0 : n;
    }

    /** A world in which the hour is another one, and the judge has waited for it. */
    private static int wouldIn(World x, int j, int c, int h) {
        World o = x.copy();
        for (int i = x.hour; i < h; i++) {
            if (o.judges.get(j).hunger < 99) {
                o.judges.get(j).hunger++;
            }
        }
        o.hour = h;
        return pointIn(o, j, c, h);
    }

    private boolean frees(int j, int c) {
        return wouldIn(w, j, c, w.hour) >= 0;
    }

    private void judgeThere(int j) {
        if (j < 0 || j >= w.judges.size()) {
            throw new IndexOutOfBoundsException();
        }
    }

    private void caseThere(int c) {
        if (c < 0 || c >= w.cases.size()) {
            throw new IndexOutOfBoundsException();
        }
    }

    private static void hourThere(int h) {
        if (h < 0 || h > 11) {
            throw new IndexOutOfBoundsException();
        }
    }

    private static void number(int n, int least, int most) {
        if (n < least || n > most) {
            throw new IllegalArgumentException();
        }
    }

    private List<Integer> waiting() {
        List<Integer> all = new ArrayList<>();
        for (int c = 0; c < w.cases.size(); c++) {
            if (w.cases.get(c).state == 0) {
                all.add(c);
            }
        }
        return all;
    }

    private static int waitingAt(World x, int j, int h) {
        Integer c = x.list.get(j * 100 + h);
        return c != null && x.cases.get(c).state == 0 ? c : -1;
    }

    public int judge(int judge, int what) {
        judgeThere(judge);
        Judge j = w.judges.get(judge);
        switch (what) {
            case 0: return j.hunger;
            case 1: return j.mercy;
            case 2: return j.nerve;
            case 3: return j.pay;
            case 4: return crumbsIn(w, judge, waitingAt(w, judge, w.hour));
            case 5: return (int) waiting().stream().filter(c -> !frees(judge, c)).count();
            case 6: {
                long all = w.cases.stream().filter(c -> c.state == 1).count();
                long his = w.cases.stream().filter(c -> c.state == 1 && c.by == judge).count();
                return all == 0 ? 0 : (int) (100 * his / all);
            }
            case 7: {
                int bits = 0;
                for (int h = 0; h < 12; h++) {
                    bits += w.list.containsKey(judge * 100 + h) ? 0 : 1 << h;
                }
                return bits;
            }
            case 8: return circuits()[judge];
            default: throw new NoSuchElementException();
        }
    }

    private int pays(int j, int k) {
        return k * 17 % 40 + (j == k ? w.judges.get(j).pay : 0);
    }

    private List<Integer> wishes(int j) {
        List<Integer> all = new ArrayList<>(List.of(0, 1, 2, 3, 4));
        all.sort(Comparator.comparingInt((Integer k) -> -pays(j, k)).thenComparingInt(k -> k));
        return all;
    }

    /** In rounds: all who have none ask the next one, each circuit keeps one of those who ask it. */
    private int[] circuits() {
        int n = w.judges.size();
        int[] asked = new int[n];
        int[] has = new int[n];
        Arrays.fill(has, -1);
        int[] keeps = {-1, -1, -1, -1, -1};
        boolean on = true;
        while (on) {
            on = false;
            for (int j = n - 1; j >= 0; j--) {
                if (has[j] != -1) {
                    continue;
                }
                on = true;
                int k = wishes(j).get(asked[j]++);
                int o = keeps[k];
                boolean better = o == -1 || w.judges.get(j).hunger > w.judges.get(o).hunger
                        || w.judges.get(j).hunger == w.judges.get(o).hunger && j < o;
                if (better) {
                    if (o != -1) {
                        has[o] = -1;
                    }
                    keeps[k] = j;
                    has[j] = k;
                }
            }
        }
        return has;
    }

    private static boolean leansOn(World x, int c, int on) {
        for (int d = c; d != -1; d = x.cases.get(d).lean) {
            if (d == on) {
                return true;
            }
        }
        return false;
    }

    public int cause(int cause, int what) {
        caseThere(cause);
        Case c = w.cases.get(cause);
        int at = -1;
        for (int place : w.list.keySet()) {
            if (w.list.get(place) == cause) {
                at = place;
            }
        }
        switch (what) {
            case 0: return c.kind;
            case 1: return c.grave;
            case 2: return c.worth;
            case 3: return c.lean;
            case 4: return c.state;
            case 5: return c.by;
            case 6: return c.day;
            case 7: return at == -1 ? -1 : at / 100;
            case 8: return at == -1 ? -1 : at % 100;
            case 9: {
                int bits = 0;
                for (int d = 0; d < w.cases.size(); d++) {
                    bits += leansOn(w, d, cause) ? 1 << d : 0;
                }
                return bits;
            }
            case 10: {
                for (int h = w.hour; h < 12; h++) {
                    for (int j = 0; j < w.judges.size(); j++) {
                        if (wouldIn(w, j, cause, h) >= 0) {
                            return j;
                        }
                    }
                }
                return -1;
            }
            case 11: {
                if (c.state != 0 || at == -1 || at % 100 < w.hour) {
                    return -1;
                }
                for (int d = 0; at % 100 + d < 12; d++) {
                    if (wouldIn(w, at / 100, cause, at % 100 + d) >= 0) {
                        return d;
                    }
                }
                return -1;
            }
            case 12: {
                if (w.judges.isEmpty() || c.state != 0) {
                    return -1;
                }
                int[] sums = new int[w.judges.size()];
                for (int d : waiting()) {
                    int least = Arrays.stream(sums).min().getAsInt();
                    int j = 0;
                    while (sums[j] != least) {
                        j++;
                    }
                    sums[j] += w.cases.get(d).grave;
                    if (d == cause) {
                        return j;
                    }
                }
                return -1;
            }
            default: throw new NoSuchElementException();
        }
    }

    public int listed(int judge, int hour) {
        judgeThere(judge);
        hourThere(hour);
        return w.list.getOrDefault(judge * 100 + hour, -1);
    }

    public int smell(int hour) {
        hourThere(hour);
        return w.inn[hour];
    }

    public int point(int judge, int cause, int hour) {
        judgeThere(judge);
        caseThere(cause);
        hourThere(hour);
        return pointIn(w, judge, cause, hour);
    }

    public int would(int judge, int cause, int hour) {
        judgeThere(judge);
        caseThere(cause);
        hourThere(hour);
        return wouldIn(w, judge, cause, hour);
    }

    // ---- hours and acts

    private static void write(World x, int cause, int how, int judge, int point) {
        x.log.add(new int[] {x.day, x.hour, cause, how, judge, point});
        if (x.log.size() > 60) {
            x.log.remove(0);
        }
    }

    private static int hour(World x, boolean crumbs) {
        int n = 0;
        int[] had = new int[x.judges.size()];
        for (int j = 0; j < had.length; j++) {
            had[j] = waitingAt(x, j, x.hour);
            if (had[j] >= 0) {
                Case c = x.cases.get(had[j]);
                int p = pointIn(x, j, had[j], x.hour);
                c.state = p >= 0 ? 1 : 2;
                c.by = j;
                c.day = x.day;
                write(x, had[j], p >= 0 ? 0 : 1, j, p);
                n++;
            }
        }
        for (Judge j : x.judges) {
            j.hunger = j.hunger == 99 ? 99 : j.hunger + 1;
        }
        for (int j = 0; j < had.length && crumbs; j++) {
            long s = (x.seed * 1103515245L + 12345L) & 0xffffffffL;
            x.seed = (int) s;
            long draw = s / 65536 % 32768;
            if (draw % 100 < crumbsIn(x, j, had[j])) {
                x.judges.get(j).hunger = 0;
                for (int c : crumble(x, j)) {
                    x.cases.get(c).state = 3;
                    write(x, c, 2, j, 0);
                }
            }
        }
        if (x.hour < 11) {
            x.hour++;
        } else {
            x.hour = 0;
            x.day = x.day == 9999 ? 9999 : x.day + 1;
            x.list.values().removeIf(c -> x.cases.get(c).state != 0);
        }
        return n;
    }

    private static List<Integer> crumble(World x, int j) {
        List<Integer> all = new ArrayList<>();
        for (int c = 0; c < x.cases.size(); c++) {
            boolean falls = false;
            for (int d = 0; d < x.cases.size(); d++) {
                Case o = x.cases.get(d);
                falls |= (o.state == 1 || o.state == 2) && o.by == j && o.day == x.day && leansOn(x, c, d);
            }
            if (falls && (x.cases.get(c).state == 1 || x.cases.get(c).state == 2)) {
                all.add(c);
            }
        }
        return all;
    }

    private static int bits(List<Integer> all) {
        int bits = 0;
        for (int c : all) {
            bits |= 1 << c;
        }
        return bits;
    }

    private void act() {
        past.addLast(w.copy());
        if (past.size() > 12) {
            past.removeFirst();
        }
    }

    public int hours(int n) {
        number(n, 1, 48);
        act();
        int sum = 0;
        for (int i = 0; i < n; i++) {
            sum += hour(w, true);
        }
        return sum;
    }

    public int list(int judge, int hour, int cause) {
        judgeThere(judge);
        hourThere(hour);
        caseThere(cause);
        if (w.cases.get(cause).state != 0) {
            throw new IllegalStateException();
        }
        act();
        int stood = listed(judge, hour);
        w.list.values().removeIf(c -> c == cause);
        w.list.put(judge * 100 + hour, cause);
        return stood;
    }

    public int strike(int judge, int hour) {
        int stood = listed(judge, hour);
        if (stood == -1) {
            throw new IllegalStateException();
        }
        act();
        w.list.remove(judge * 100 + hour);
        return stood;
    }

    public int feeds(int judge) {
        judgeThere(judge);
        act();
        int had = w.judges.get(judge).hunger;
        w.judges.get(judge).hunger = 0;
        return had;
    }

    public int fast(int judge, int n) {
        judgeThere(judge);
        number(n, 0, 99);
        int had = w.judges.get(judge).hunger;
        if (had > n) {
            throw new IllegalStateException();
        }
        act();
        w.judges.get(judge).hunger = n;
        return had;
    }

    public int inn(int hour, int n) {
        hourThere(hour);
        number(n, 0, 100);
        act();
        int was = w.inn[hour];
        w.inn[hour] = n;
        return was;
    }

    public int appeal(int cause) {
        caseThere(cause);
        int was = w.cases.get(cause).state;
        if (was < 2) {
            throw new IllegalStateException();
        }
        act();
        w.cases.get(cause).state = 0;
        w.cases.get(cause).by = -1;
        w.cases.get(cause).day = -1;
        return was;
    }

    public int grave(int cause, int n) {
        caseThere(cause);
        number(n, 0, 99);
        act();
        int was = w.cases.get(cause).grave;
        w.cases.get(cause).grave = n;
        return was;
    }

    // ---- questions

    public int early(int judge, int cause) {
        judgeThere(judge);
        caseThere(cause);
        for (int h = w.hour; h < 12; h++) {
            if (wouldIn(w, judge, cause, h) >= 0) {
                return h;
            }
        }
        return -1;
    }

    public boolean split(int cause) {
        caseThere(cause);
        boolean some = false;
        boolean others = false;
        for (int j = 0; j < w.judges.size(); j++) {
            some |= frees(j, cause);
            others |= !frees(j, cause);
        }
        return some && others;
    }

    /** Whether all of these can have places of their own among the hours below one, by trying all ways. */
    private boolean seated(List<Integer> cases, int i, boolean[] taken, boolean[][] open, int below) {
        if (i == cases.size()) {
            return true;
        }
        for (int p = 0; p < 60; p++) {
            if (!taken[p] && p % 12 < below && open[cases.get(i)][p]) {
                taken[p] = true;
                boolean done = seated(cases, i + 1, taken, open, below);
                taken[p] = false;
                if (done) {
                    return true;
                }
            }
        }
        return false;
    }

    private boolean[][] open() {
        boolean[][] open = new boolean[8][60];
        for (int c : waiting()) {
            for (int j = 0; j < w.judges.size(); j++) {
                for (int h = w.hour; h < 12; h++) {
                    open[c][j * 12 + h] = wouldIn(w, j, c, h) >= 0;
                }
            }
        }
        return open;
    }

    /** Augmenting paths, where trying all ways would be long. */
    private static boolean augment(int c, boolean[][] open, int[] owner, boolean[] seen, int below) {
        for (int p = 0; p < 60; p++) {
            if (open[c][p] && p % 12 < below && !seen[p]) {
                seen[p] = true;
                if (owner[p] == -1 || augment(owner[p], open, owner, seen, below)) {
                    owner[p] = c;
                    return true;
                }
            }
        }
        return false;
    }

    private boolean can(List<Integer> cases, boolean[][] open, int below) {
        int[] owner = new int[60];
        Arrays.fill(owner, -1);
        boolean all = true;
        for (int c : cases) {
            all &= augment(c, open, owner, new boolean[60], below);
        }
        if (cases.size() <= 3 && all != seated(cases, 0, new boolean[60], open, below)) {
            throw new AssertionError("the oracle is at odds with itself");
        }
        return all;
    }

    private List<Integer> savedList() {
        boolean[][] open = open();
        List<Integer> order = waiting();
        order.sort(Comparator.comparingInt((Integer c) -> -w.cases.get(c).worth).thenComparingInt(c -> c));
        List<Integer> kept = new ArrayList<>();
        for (int c : order) {
            kept.add(c);
            if (!can(kept, open, 12)) {
                kept.remove(kept.size() - 1);
            }
        }
        return kept;
    }

    public int saved(boolean worth) {
        List<Integer> kept = savedList();
        return worth ? kept.stream().mapToInt(c -> w.cases.get(c).worth).sum() : bits(kept);
    }

    public int needed() {
        List<Integer> kept = savedList();
        boolean[][] open = open();
        for (int n = 0; n <= 12; n++) {
            if (can(kept, open, w.hour + n)) {
                return n;
            }
        }
        throw new AssertionError();
    }

    public int crumbles(int judge) {
        judgeThere(judge);
        return bits(crumble(w, judge));
    }

    public int worst() {
        int best = -1;
        for (int j = w.judges.size() - 1; j >= 0; j--) {
            if (best == -1 || crumble(w, j).size() >= crumble(w, best).size()) {
                best = j;
            }
        }
        return best;
    }

    public int deep() {
        int most = 0;
        for (int c = 0; c < w.cases.size(); c++) {
            int n = 0;
            for (int d = 0; d < w.cases.size(); d++) {
                n += leansOn(w, c, d) ? 1 : 0;
            }
            most = Math.max(most, n);
        }
        return most;
    }

    public int roots() {
        int bits = 0;
        for (Case c : w.cases) {
            if (c.lean != -1 && w.cases.get(c.lean).lean == -1) {
                bits |= 1 << c.lean;
            }
        }
        return bits;
    }

    private List<Integer> fits(int judge) {
        byte[] t = tape;
        tape = new byte[0];
        judgeThere(judge);
        if (t.length > 45 || t.length % 3 != 0) {
            throw new IllegalArgumentException();
        }
        for (int i = 0; i < t.length; i++) {
            int most = i % 3 == 0 ? 11 : i % 3 == 1 ? w.cases.size() - 1 : 1;
            if (t[i] < 0 || t[i] > most) {
                throw new IllegalArgumentException();
            }
        }
        List<Integer> all = new ArrayList<>();
        for (int x = 0; x <= 60; x++) {
            boolean fit = true;
            for (int i = 0; i < t.length; i += 3) {
                fit &= freed(x, judge, t[i + 1], t[i]) == (t[i + 2] == 1);
            }
            if (fit) {
                all.add(x);
            }
        }
        return all;
    }

    private boolean freed(int x, int judge, int cause, int hour) {
        World o = w.copy();
        o.judges.get(judge).hunger = Math.min(99, x + hour);
        return pointIn(o, judge, cause, hour) >= 0;
    }

    public int meals(int judge, boolean least) {
        List<Integer> all = fits(judge);
        return !least ? all.size() : all.isEmpty() ? -1 : Collections.min(all);
    }

    public int tries(int judge) {
        List<Integer> all = fits(judge);
        if (all.size() < 2) {
            return -1;
        }
        int best = -1;
        int bestPart = 1000;
        for (int c : waiting()) {
            int yes = (int) all.stream().filter(x -> freed(x, judge, c, w.hour)).count();
            int part = Math.max(yes, all.size() - yes);
            if (part < bestPart) {
                bestPart = part;
                best = c;
            }
        }
        return best;
    }

    public int moved(int judge, int cause) {
        judgeThere(judge);
        caseThere(cause);
        for (int x = 0; x < 100; x++) {
            World o = w.copy();
            o.judges.get(judge).hunger = x;
            if (pointIn(o, judge, cause, o.hour) >= 0) {
                return x;
            }
        }
        return -1;
    }

    public int even(int judge, int cause) {
        judgeThere(judge);
        caseThere(cause);
        for (int x = 0; x < 100; x++) {
            World o = w.copy();
            o.cases.get(cause).grave = x;
            if (pointIn(o, judge, cause, o.hour) < 0) {
                return x;
            }
        }
        return -1;
    }

    public int rather(int judge, int circuit) {
        judgeThere(judge);
        if (circuit < 0 || circuit > 4) {
            throw new IndexOutOfBoundsException();
        }
        List<Integer> order = wishes(judge);
        return bits(order.subList(0, order.indexOf(circuit)));
    }

    public int worth() {
        int best = -1;
        int most = -1000;
        for (int c = 0; c < w.cases.size(); c++) {
            Case k = w.cases.get(c);
            boolean some = false;
            for (int j = 0; j < w.judges.size(); j++) {
                some |= frees(j, c);
            }
            int gain = k.worth - Math.floorDiv(k.grave, 10);
            if (k.state >= 2 && some && gain > most) {
                most = gain;
                best = c;
            }
        }
        return best;
    }

    public int pairs(int judge) {
        if (judge != -1) {
            judgeThere(judge);
        }
        int n = w.judges.size();
        int[] best = null;
        int most = -1;
        int ways = (int) Math.round(Math.pow(n + 1, n));
        for (int way = 0; way < ways; way++) {
            int[] with = new int[n];
            int rest = way;
            for (int i = n - 1; i >= 0; i--) {
                with[i] = rest % (n + 1) - 1;
                rest /= n + 1;
            }
            int sum = 0;
            boolean right = true;
            for (int i = 0; i < n && right; i++) {
                right = with[i] == -1 || with[i] != i && with[with[i]] == i;
                if (right && with[i] > i) {
                    for (int c : waiting()) {
                        sum += frees(i, c) != frees(with[i], c) ? 1 : 0;
                    }
                }
            }
            if (right && sum > most) {
                most = sum;
                best = with;
            }
        }
        return judge == -1 ? most : best[judge];
    }

    public int agree() {
        int bits = 0;
        for (int c : waiting()) {
            boolean all = true;
            for (int j = 0; j < w.judges.size(); j++) {
                all &= frees(j, c);
            }
            bits |= all ? 1 << c : 0;
        }
        return bits;
    }

    public int rests(int judge) {
        judgeThere(judge);
        int h = w.judges.get(judge).hunger / 10;
        int[][] his = {{h - 3, h}, {4, -2}};
        int[][] cooks = {{-1, 0}, {w.judges.get(judge).nerve, 0}};
        int bits = 0;
        for (int a = 0; a < 2; a++) {
            for (int b = 0; b < 2; b++) {
                if (!(his[1 - a][b] > his[a][b]) && !(cooks[a][1 - b] > cooks[a][b])) {
                    bits |= 1 << 2 * a + b;
                }
            }
        }
        return bits;
    }

    public int odds(int judge, int n) {
        judgeThere(judge);
        number(n, 0, 4);
        int odds = 10000;
        for (int h = w.hour; h < w.hour + n; h++) {
            int c = w.inn[h % 12] - 10 * w.judges.get(judge).nerve;
            odds = (int) Math.floor(odds * (c < 0 ? 100 : 100 - c) / 100.0);
        }
        return odds;
    }

    public int hungriest() {
        int best = -1;
        for (int j = w.judges.size() - 1; j >= 0; j--) {
            best = best == -1 || w.judges.get(j).hunger >= w.judges.get(best).hunger ? j : best;
        }
        return best;
    }

    public int gravest() {
        int best = -1;
        for (int c : waiting()) {
            best = best == -1 || w.cases.get(c).grave > w.cases.get(best).grave ? c : best;
        }
        return best;
    }

    public int kind(int kind) {
        if (kind < 0 || kind > 5) {
            throw new IndexOutOfBoundsException();
        }
        int bits = 0;
        for (int c = 0; c < w.cases.size(); c++) {
            bits |= w.cases.get(c).kind == kind ? 1 << c : 0;
        }
        return bits;
    }

    private static int stateBits(World x, int state) {
        int bits = 0;
        for (int c = 0; c < x.cases.size(); c++) {
            bits |= x.cases.get(c).state == state ? 1 << c : 0;
        }
        return bits;
    }

    public int state(int state) {
        number(state, 0, 3);
        return stateBits(w, state);
    }

    public int twins() {
        int n = 0;
        for (Case a : w.cases) {
            for (Case b : w.cases) {
                n += a != b && a.kind == b.kind && a.grave == b.grave ? 1 : 0;
            }
        }
        return n / 2;
    }

    public int ahead(int cause, int n) {
        caseThere(cause);
        number(n, 0, 48);
        World o = w.copy();
        for (int i = 0; i < n; i++) {
            hour(o, false);
        }
        return o.cases.get(cause).state;
    }

    public int trial(int n, boolean undone) {
        number(n, 0, 48);
        World o = w.copy();
        for (int i = 0; i < n; i++) {
            hour(o, true);
        }
        return stateBits(o, undone ? 3 : 1);
    }

    public int span(int n, boolean most) {
        number(n, 0, 48);
        List<Integer> all = new ArrayList<>();
        for (int s = 1; s < 7; s++) {
            World o = w.copy();
            o.seed = s;
            for (int i = 0; i < n; i++) {
                hour(o, true);
            }
            all.add(o.cases.stream().filter(c -> c.state == 1).mapToInt(c -> c.worth).sum());
        }
        return most ? Collections.max(all) : Collections.min(all);
    }

    public int led(int cause, boolean day) {
        caseThere(cause);
        int n = 0;
        int latest = -1;
        for (int[] row : w.log) {
            if (row[2] == cause) {
                n++;
                latest = row[0];
            }
        }
        return day ? latest : n;
    }

    public int log(int ago, int what) {
        if (what < 0 || what > 5) {
            throw new NoSuchElementException();
        }
        return ago < 0 || ago >= w.log.size() ? -1000 : w.log.get(w.log.size() - 1 - ago)[what];
    }

    public int seed(int n) {
        int was = w.seed;
        w.seed = n;
        return was;
    }

    public boolean undo() {
        if (past.isEmpty()) {
            return false;
        }
        w = past.removeLast();
        return true;
    }

    public void image() {
        image = w.copy();
    }

    public boolean back() {
        if (image == null) {
            return false;
        }
        w = image.copy();
        past.clear();
        return true;
    }

    public int count(int what) {
        switch (what) {
            case 0: return w.judges.size();
            case 1: return w.cases.size();
            case 2: return w.texts;
            case 3: return w.law == null ? -1 : w.law.size();
            case 4: return w.hour;
            case 5: return w.day;
            case 6: return bits(waiting());
            case 7: return bits(new ArrayList<>(w.list.values()));
            case 8: return w.judges.stream().mapToInt(j -> j.hunger).sum();
            case 9: return w.log.size();
            case 10: return past.size();
            default: return -1;
        }
    }
}
