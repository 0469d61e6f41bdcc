/**
 * DOC.md from its first line on, promise by promise: each test is a method named by its promise's number that quotes what
 * it is of; the answers that are due were worked out on paper. What lies at the bounds is in the tests of bounds.
 */
public final class PromiseTest extends Check {
    /** Points in hour 3, judge by judge: 40, 45 and 60 less how grave a case is. */
    private static final String BENCH = "judge mercy 10 nerve 2 hunger 30 pay 50;judge mercy 40 nerve 0 hunger 5;"
            + "judge mercy 0 nerve 5 hunger 60 pay 3;case a grave 45 worth 8;case b grave 30 worth 5 on 0;"
            + "case a grave 45 worth 9 on 1;case f grave 90 worth 20;list 0 3 0;list 0 4 1;list 1 3 2;inn 3 60;"
            + "hour 3;day 2";

    /** One judge who frees case 0 in hour 0 (point 40) and hangs case 1 in hour 1 (point -9). */
    private static final String TWO = "judge mercy 50 nerve 0;case a grave 10 worth 3;case b grave 60 worth 4 on 0;"
            + "list 0 0 0;list 0 1 1";

    private PromiseTest() {
    }

    public static void main(String[] args) throws Exception {
        runTests(PromiseTest.class, 1, 53);
    }

    private static void badAssize(String text, int fault) {
        HungryBench x = town("judge mercy 1 nerve 1;case a grave 1");
        tape(x, text);
        refused("assize of '" + text + "'", ARGUMENT, x::assize);
        due("fault of '" + text + "'", x.fault(), fault);
        due("judges behind '" + text + "'", x.count(0), 1);
        due("cases behind '" + text + "'", x.count(1), 1);
        due("texts behind '" + text + "'", x.count(2), 1);
    }

    private static void badLaw(String text, int fault) {
        HungryBench x = under("move 1;move 2");
        tape(x, text);
        refused("law of '" + text + "'", ARGUMENT, x::law);
        due("fault of '" + text + "'", x.fault(), fault);
        due("lines behind '" + text + "'", x.count(3), 2);
    }

    /** Whether a condition holds for judge 0, case and hour of a town: the point is 1 more. */
    private static void holds(HungryBench x, String condition, int cause, int hour, boolean want) {
        tape(x, "");
        x.law();
        int without = x.point(0, cause, hour);
        tape(x, "move 1 if " + condition);
        x.law();
        due(condition + " for case " + cause + " in hour " + hour, x.point(0, cause, hour) - without, want ? 1 : 0);
    }

    /** The town of two, in which both cases were heard: 0 is freed, 1 is hanged. */
    private static HungryBench twoHeard() {
        HungryBench x = town(TWO);
        x.hours(2);
        return x;
    }

    /** Freed on day 0, in hour 5: 1, which leans on 0; freed on day 1, in hour 0: 0, 2. Three cases, of judges 0, 0, 1. */
    private static HungryBench twoDays() {
        HungryBench x = town("judge mercy 50 nerve 0;judge mercy 50 nerve 9;case a grave 1 worth 2;case b grave 1 worth 4 on 0;"
                + "case c grave 1 worth 8;list 0 5 1;list 0 0 0;list 1 0 2;hour 5");
        x.hours(8);
        return x;
    }

    // ---- 1 a new object, 2 feed, 3 end

    static void p1_newObject() throws Exception {
        says("`HungryBench()`: A town without JUDGES.");
        HungryBench x = new HungryBench();
        due("NONE", HungryBench.NONE, -1);
        for (int what = 0; what <= 10; what++) {
            due("count " + what, x.count(what), what == 3 ? -1 : 0);
        }
        due("fault", x.fault(), -1);
        due("hungriest", x.hungriest(), -1);
        due("gravest", x.gravest(), -1);
        due("worst", x.worst(), -1);
        due("worth", x.worth(), -1);
        due("saved", x.saved(false), 0);
        due("saved worth", x.saved(true), 0);
        due("needed", x.needed(), 0);
        due("deep", x.deep(), 0);
        due("roots", x.roots(), 0);
        due("twins", x.twins(), 0);
        due("agree", x.agree(), 0);
        due("pairs", x.pairs(-1), 0);
        due("kind", x.kind(0), 0);
        due("state", x.state(0), 0);
        due("smell", x.smell(11), 0);
        due("trial", x.trial(48, false), 0);
        due("span", x.span(48, true), 0);
        due("log", x.log(0, 0), -1000);
        due("undo", x.undo(), false);
        due("back", x.back(), false);
        due("seed", x.seed(5), 1);
        refused("judge 0", INDEX, () -> x.judge(0, 0));
        refused("cause 0", INDEX, () -> x.cause(0, 0));
    }

    static void p2_feed() throws Exception {
        says("Twenty bytes come behind the TAPE, of each number the highest first: how many it has; NONE, and none come, if it "
                + "would have more than 400.");
        HungryBench x = new HungryBench();
        for (int n = 20; n <= 400; n += 20) {
            due("feed", x.feed(0x64617920, 0x37202020, 0x20202020, 0x20202020, 0x20202020), n);
        }
        due("feed beyond", x.feed(0, 0, 0, 0, 0), -1);
        due("end 381", x.end(381), true);
        due("feed beyond by one", x.feed(0, 0, 0, 0, 0), -1);
        due("end 380", x.end(380), true);
        due("feed to the brim", x.feed(0, 0, 0, 0, 0), 400);
        x.end(0);
        due("highest byte first", x.feed(0x64617920, 0x39ffffff, -1, -1, -1), 20);
        x.end(5);
        x.assize();
        due("day", x.count(5), 9);
        due("five numbers, the first one first", x.feed(0x20202020, 0x20206461, 0x79202020, 0x20202031, 0x32332020), 20);
        x.assize();
        due("day", x.count(5), 123);
        for (int n = 0; n < 20; n++) {
            x.feed(0x28282828, 0x28282828, 0x28282828, 0x28282828, 0x28282828);
        }
        refused("400 things", ARGUMENT, x::law);
        due("fault", x.fault(), 0);
        for (int n = 0; n < 20; n++) {
            x.feed(0x20202020, 0x20202020, 0x20202020, 0x20202020, 0x20202020);
        }
        due("400 blanks", x.law(), 0);
        String brimful = "move 9 if 1" + "+1".repeat(193) + ">1";
        tape(x, brimful.substring(0, 397) + ">19");
        due("a law of 400 bytes", x.law(), 1);
        changes("feed", y -> y.feed(0, 0, 0, 0, 0), "tape: 25");
    }

    static void p3_end() throws Exception {
        says("The TAPE has its first n bytes alone: true; false, and nothing happens, if it has fewer, or n is below 0.");
        HungryBench x = new HungryBench();
        for (int n = 0; n < 20; n++) {
            x.feed(0x64617920, 0x37202020, 0x20202020, 0x20202020, 0x20202020);
        }
        due("end beyond", x.end(401), false);
        due("end below", x.end(-1), false);
        due("end least", x.end(Integer.MIN_VALUE), false);
        due("end at its length", x.end(400), true);
        due("end 5", x.end(5), true);
        due("end 6", x.end(6), false);
        due("assize of 'day 7'", x.assize(), 1);
        due("day", x.count(5), 7);
        due("the tape is used up", x.end(1), false);
        due("end 0", x.end(0), true);
        x.feed(0x64617920, 0x31313131, 0x31313131, 0, 0);
        x.end(5);
        x.assize();
        due("its first bytes alone", x.count(5), 1);
        x.feed(0x64617920, 0x39393939, 0x39393939, 0, 0);
        x.end(4);
        refused("no number among its first bytes", ARGUMENT, x::assize);
        due("fault", x.fault(), 4);
        changes("end", y -> y.end(4), "tape: 4");
        asks("end at its length", y -> y.end(5));
        asks("end beyond", y -> y.end(6));
        asks("end below", y -> y.end(-1));
    }

    // ---- 4 assize, 5 law, 6 fault

    static void p4_texts() throws Exception {
        says("Uses the TAPE up: a text of THE ASSIZE: how many texts there are.");
        HungryBench x = town("  judge mercy 007nerve 9hunger 99 pay 99 ;case f grave 0 on 0".substring(0, 41));
        due("mercy", x.judge(0, 1), 7);
        due("nerve", x.judge(0, 2), 9);
        due("hunger", x.judge(0, 0), 99);
        due("pay", x.judge(0, 3), 99);
        tape(x, "judge mercy 3 nerve 0;judge mercy 99 nerve 1 pay 4");
        due("texts", x.assize(), 2);
        due("fault", x.fault(), -1);
        due("hunger at first", x.judge(1, 0), 0);
        due("pay at first", x.judge(1, 3), 0);
        due("pay without hunger", x.judge(2, 3), 4);
        tape(x, "case c grave 99;case a grave 5 on 0;case b grave 6 worth 0;case b grave 6 worth 99 on 2");
        due("texts", x.assize(), 3);
        due("kind", x.cause(0, 0), 2);
        due("worth at first", x.cause(0, 2), 1);
        due("leans at first", x.cause(0, 3), -1);
        due("leans", x.cause(1, 3), 0);
        due("worth 0", x.cause(2, 2), 0);
        due("worth 99", x.cause(3, 2), 99);
        due("leans on 2", x.cause(3, 3), 2);
        tape(x, "list 0 0 0;list 2 11 1;list 0 0 2;list 1 0 0");
        x.assize();
        due("what stood there stands nowhere, and may stand again", x.listed(1, 0), 0);
        due("in the list", x.count(7), 7);
        due("in its place", x.listed(0, 0), 2);
        due("last place", x.listed(2, 11), 1);
        tape(x, "inn 11 100;inn 0 0;hour 11;day 999");
        x.assize();
        due("inn", x.smell(11), 100);
        due("hour", x.count(4), 11);
        due("day", x.count(5), 999);
        tape(x, "    ");
        due("blanks alone", x.assize(), 6);
        tape(x, "");
        due("empty", x.assize(), 7);
        tape(x, times("day 1", 14));
        due("14 lines", x.assize(), 8);
        due("day", x.count(5), 1);
    }

    static void p4_atMostTwelve() throws Exception {
        says("IllegalArgumentException: it is wrong; UnsupportedOperationException: there are 12.");
        HungryBench x = new HungryBench();
        for (int n = 1; n <= 12; n++) {
            tape(x, n == 5 ? "day 1" : "");
            due("text " + n, x.assize(), n);
        }
        tape(x, "day 5");
        refused("a 13th", UNSUPPORTED, x::assize);
        due("fault of one that is refused", x.fault(), -1);
        due("day stays", x.count(5), 1);
        due("the tape is used up", x.end(1), false);
        tape(x, "day q");
        refused("a wrong 13th", ARGUMENT, x::assize);
        due("fault of a wrong 13th", x.fault(), 4);
        due("texts", x.count(2), 12);
        due("the tape is used up", x.end(1), false);
    }

    static void p4_oneTextBehindAnother() throws Exception {
        says("THE ASSIZE is told in texts (at most 12, one behind another)");
        String[] text = {"fault: -1", "tape: 0", "now, count 2: 2", "now, count 10: 0"};
        changes("an empty text", x -> tell(x, ""), text);
        changes("an inn", x -> tell(x, "inn 4 44"), "fault: -1", "tape: 0", "now, count 2: 2", "now, count 10: 0",
                "smell 4: 44");
        changes("a day", x -> tell(x, "day 999"), "fault: -1", "tape: 0", "now, count 2: 2", "now, count 5: 999",
                "now, count 10: 0");
        changes("an hour", x -> tell(x, "hour 5"), "fault: -1", "tape: 0", "now, count 2: 2", "now, count 4: 5",
                "now, count 10: 0");
        changes("a place", x -> tell(x, "list 0 11 1"), "fault: -1", "tape: 0", "now, count 2: 2", "now, count 7: 31",
                "now, count 10: 0", "judge 0 7: 2046", "listed 0 11: 1", "cause 1 7: 0", "cause 1 8: 11", "cause 1 11: 0");
        changes("a place where one stands", x -> tell(x, "list 0 0 1"), "fault: -1", "tape: 0", "now, count 2: 2",
                "now, count 7: 30", "now, count 10: 0", "listed 0 0: 1", "cause 0 7: -1", "cause 0 8: -1", "cause 1 7: 0",
                "cause 1 8: 0");
    }

    static void p4_judgesAndCasesMore() throws Exception {
        says("judge mercy N nerve N [ hunger N ] [ pay N ] | case K grave N [ worth N ] [ on C ] | list J H C | inn H "
                + "N | hour H | day N. (K: one letter a to f;");
        String free = "listed 3 0: -1,listed 3 1: -1,listed 3 2: -1,listed 3 3: -1,listed 3 4: -1,listed 3 5: -1,"
                + "listed 3 6: -1,listed 3 7: -1,listed 3 8: -1,listed 3 9: -1,listed 3 10: -1,listed 3 11: -1,";
        // hungrier than judge 2, he has circuit 1 of those that are left
        changes("a judge", x -> tell(x, "judge mercy 1 nerve 2 hunger 3 pay 4"), ("fault: -1,tape: 0,now, count 0: 4,"
                + "now, count 2: 2,now, count 8: 72,now, count 10: 0,judge 2 8: 3,judge 3 0: 3,judge 3 1: 1,judge 3 2: 2,"
                + "judge 3 3: 4,judge 3 4: 0,judge 3 5: 2,judge 3 6: 0,judge 3 7: 4095,judge 3 8: 1," + free
                + "point 3 0: -38,point 3 1: -23,point 3 2: -83,point 3 3: -3,point 3 4: 0").split(",(?! )"));
        changes("a case", x -> tell(x, "case e grave 98 worth 97 on 4"), ("fault: -1,tape: 0,now, count 1: 6,"
                + "now, count 2: 2,now, count 6: 50,now, count 10: 0,now, state 0: 50,judge 0 5: 1,judge 1 5: 1,judge 2 5: 2,"
                + "cause 4 9: 48,cause 5 0: 4,cause 5 1: 98,cause 5 2: 97,cause 5 3: 4,cause 5 4: 0,cause 5 5: -1,"
                + "cause 5 6: -1,cause 5 7: -1,cause 5 8: -1,cause 5 9: 32,cause 5 10: -1,cause 5 11: -1,cause 5 12: 2,"
                + "point 0 5: -50,point 1 5: -35,point 2 5: -77").split(",(?! )"));
    }

    static void p4_aCaseThatDoesNotWait() throws Exception {
        says("list: a CASE, waiting or not, that stands nowhere in THE LIST by then, else it is wrong at it");
        HungryBench y = town(TWO);
        y.hours(1);
        tape(y, "list 0 5 0");
        refused("a case that stands still", ARGUMENT, y::assize);
        due("wrong at it", y.fault(), 9);
        y.strike(0, 0);
        tape(y, "list 0 5 0");
        due("a case that does not wait may be told", y.assize(), 2);
        due("it stands", y.listed(0, 5), 0);
        due("it is freed still", y.cause(0, 4), 1);
    }

    static void p4_eachByteBehindAWordOrANumber() throws Exception {
        says("Words are as long as a to z go on; between all there may be blanks (32), also ahead and behind.");
        for (int b = 0; b <= 255; b++) {
            boolean letter = b >= 'a' && b <= 'z';
            String word = "case a" + (char) b + "grave 1";
            if (b == ' ') {
                due("a blank behind a word", tell(new HungryBench(), word), 1);
            } else {
                wrongAssize(new HungryBench(), word, letter ? 5 : 6);
            }
            String number = "day 1" + (char) b;
            if (b == ' ' || b >= '0' && b <= '9') {
                due("a blank or a digit behind a number, " + b, tell(new HungryBench(), number), 1);
            } else {
                wrongAssize(new HungryBench(), number, b == ';' ? 6 : 5);
            }
        }
    }

    static void p5_conditions() throws Exception {
        says("Uses the TAPE up: THE LAW: how many LINES.");
        says("leaning | precedent | late | SUM < SUM | SUM > SUM. SUM: PART { + PART }; PART: NUMBER | judge | hunger "
                + "| nerve | kind | grave | worth | hour.");
        HungryBench x = town("judge mercy 10 nerve 3 hunger 20;judge mercy 0 nerve 0;case c grave 5 worth 7;"
                + "case a grave 50 on 0;case b grave 2 on 1");
        due("lines without a law", x.count(3), -1);
        due("point without a law", x.point(0, 0, 0), 25);
        tape(x, "");
        due("an empty law", x.law(), 0);
        due("lines", x.count(3), 0);
        tape(x, "  ");
        due("blanks alone", x.law(), 0);
        tape(x, times("move 99", 12));
        due("12 lines", x.law(), 12);
        due("point", x.point(0, 0, 0), 25 + 12 * 99);
        tape(x, "move 5;harden 7 if late ;move 1 if hour>6;harden 0");
        due("in place of the one before", x.law(), 4);
        due("point in hour 5", x.point(0, 0, 5), 30);
        due("point in hour 6", x.point(0, 0, 6), 23);
        due("point in hour 7", x.point(0, 0, 7), 24);
        holds(x, "late", 0, 5, false);
        holds(x, "late", 0, 6, true);
        holds(x, "leaning", 0, 0, false);
        holds(x, "leaning", 1, 0, true);
        holds(x, "precedent", 1, 0, false);
        holds(x, "not precedent", 1, 0, true);
        holds(x, "not not late", 0, 6, true);
        holds(x, "judge < 1", 0, 0, true);
        holds(x, "judge > 0", 0, 0, false);
        holds(x, "hunger > 19", 0, 0, true);
        holds(x, "hunger > 20", 0, 0, false);
        holds(x, "hunger < 20", 0, 0, false);
        holds(x, "nerve + 1 > 3", 0, 0, true);
        holds(x, "kind + kind < 5", 0, 0, true);
        holds(x, "kind > 2", 0, 0, false);
        holds(x, "grave+grave+1 > 10", 0, 0, true);
        holds(x, "worth < 8", 0, 0, true);
        holds(x, "worth > 7", 0, 0, false);
        holds(x, "worth < 2", 1, 0, true);
        holds(x, "hour > 3 + 4", 0, 8, true);
        holds(x, "hour > 3 + 4", 0, 7, false);
        holds(x, "999 > 998", 0, 0, true);
        holds(x, "late or leaning and precedent", 0, 6, true);
        holds(x, "leaning and precedent or late", 1, 6, true);
        holds(x, "(late or leaning) and precedent", 0, 6, false);
        holds(x, "not late and leaning", 1, 0, true);
        holds(x, "not (late and leaning)", 1, 0, true);
        holds(x, "not late or leaning", 1, 6, true);
        holds(x, "not (late or leaning)", 1, 6, false);
        holds(x, "((((((late))))))", 0, 6, true);
        holds(x, "not(not(not(late)))", 0, 0, true);
        holds(x, "not not not not not not late and not late", 0, 0, false);
        x.list(1, 0, 0);
        x.inn(0, 0);
        x.fast(1, 99);
        x.hours(1);
        due("case 0 is freed", x.cause(0, 4), 1);
        holds(x, "precedent", 1, 0, true);
        holds(x, "not precedent", 1, 0, false);
        holds(x, "precedent", 2, 0, false);
        holds(x, "leaning or (late)", 1, 0, true);
        holds(x, "late and (leaning)", 1, 0, false);
        holds(x, "late and (leaning or leaning)", 1, 0, false);
        holds(x, "late or late and leaning or leaning and leaning", 1, 0, true);
        holds(x, "late or late and leaning or late and leaning", 1, 0, false);
        holds(x, "1 + 2 + 3 > 2 + 3 and 1 < 1 + 1 + 1", 0, 0, true);
        holds(x, "1 + 2 + 3 > 2 + 3 + 1", 0, 0, false);
    }

    static void p5_factsOfTheCaseAndTheOneItLeansOn() throws Exception {
        says("Of a JUDGE, a CASE and an HOUR: leaning: the CASE LEANS on one; precedent: that one is freed; late: the "
                + "HOUR is 6 at least; kind 0 to 5.");
        HungryBench x = town("judge mercy 50 nerve 0;case a grave 1;case b grave 99 on 0;case c grave 1 on 1;"
                + "case f grave 1 on 1;list 0 0 0;list 0 1 1");
        holds(x, "leaning", 2, 0, true);
        x.hours(2);
        holds(x, "leaning", 1, 2, true);
        holds(x, "leaning", 2, 2, true);
        holds(x, "leaning", 0, 2, false);
        holds(x, "precedent", 1, 2, true);
        holds(x, "precedent", 2, 2, false);
        holds(x, "kind < 1", 0, 2, true);
        holds(x, "kind > 4 and kind < 6", 3, 2, true);
        x.list(0, 2, 2);
        x.inn(2, 100);
        x.hours(1);
        due("all are undone", x.state(3), 7);
        holds(x, "leaning", 1, 3, true);
        holds(x, "precedent", 1, 3, false);
    }

    static void p5_changesPointsAndCrumbsAlone() throws Exception {
        says("THE LAW (a text, in place of the one before): LINE { ; LINE }, at most 12: move N [ if C ] | harden N [ "
                + "if C ] | crumb N [ if C ].");
        // in hour 7 there were 3 of move, and 2 of harden for case 4
        changes("another law", x -> rule(x, "move 1;crumb 9"), "fault: -1", "tape: 0", "now, count 3: 2", "now, count 10: 0",
                "judge 2 4: 9", "point 0 0: 3", "point 1 0: 18", "point 2 0: -24", "point 0 1: 18", "point 1 1: 33",
                "point 2 1: -9", "point 0 2: -42", "point 1 2: -27", "point 2 2: -69", "point 0 3: 38", "point 1 3: 53",
                "point 2 3: 11");
    }

    static void p6_ofTheAssize() throws Exception {
        says("The first wrong byte: the begin of the first thing that cannot stand there");
        badAssize("bench", 0);
        badAssize("dayz 1", 0);
        badAssize("aday 1", 0);
        badAssize("list", 4);
        badAssize("list 0", 6);
        badAssize("inn", 3);
        badAssize("  bench", 2);
        badAssize("judges", 0);
        badAssize("Judge mercy 1 nerve 1", 0);
        badAssize("judge", 5);
        badAssize("judge  ", 7);
        badAssize("judge nerve 1", 6);
        badAssize("judge mercy", 11);
        badAssize("judge mercy x", 12);
        badAssize("judge mercy 100", 12);
        badAssize("judge mercy 0001", 12);
        badAssize("judge mercy 1", 13);
        badAssize("judge mercy 1 nerve 10", 20);
        badAssize("judge mercy 1 nerve 1 hunger 100", 29);
        badAssize("judge mercy 1 nerve 1 pay 100", 26);
        badAssize("judge mercy 1 nerve 1 pay 1 hunger 1", 28);
        badAssize("judge mercy 1 nerve 1 1", 22);
        badAssize("judge mercy 1 nerve 1x", 21);
        badAssize("judge mercy 1 nerve 1;", 22);
        badAssize("judge mercy 1 nerve 1; ", 23);
        badAssize("judge mercy 1 nerve 1;;", 22);
        badAssize(";", 0);
        badAssize("case", 4);
        badAssize("case g", 5);
        badAssize("case ab", 5);
        badAssize("case 1", 5);
        badAssize("case a", 6);
        badAssize("case a worth 1", 7);
        badAssize("case a grave 100", 13);
        badAssize("case a grave 1 worth 100", 21);
        badAssize("case a grave 1 on 1", 18);
        badAssize("case a grave 1 on 0 worth 1", 20);
        badAssize("case a grave 1 on", 17);
        badAssize("case a grave 1 on x", 18);
        badAssize("list 1 0 0", 5);
        badAssize("list 0 12 0", 7);
        badAssize("list 0 0 1", 9);
        badAssize("list 0 0", 8);
        badAssize("list 0 0 0;list 0 0 0", 20);
        badAssize("list 0 0 0;list 0 1 0", 20);
        badAssize("inn 12 1", 4);
        badAssize("inn 0 101", 6);
        badAssize("inn 0", 5);
        badAssize("hour 12", 5);
        badAssize("hour", 4);
        badAssize("day 1000", 4);
        badAssize("day 1 day 2", 6);
        badAssize("day\t1", 3);
        badAssize("day 1.", 5);
        badAssize("day \u00e9", 4);
        badAssize("\u0000", 0);
        badAssize(times("judge mercy 1 nerve 1", 5), 88);
        badAssize(times("case a grave 1", 8), 105);
        badAssize(times("day 1", 15), 84);
        badAssize(times("day 1", 14) + ";", 84);
        badAssize(times("day 1", 14) + "; ", 85);
        badAssize(times("day 1", 14) + ";  )", 86);
        HungryBench x = town("day 1");
        due("fault of a right one", x.fault(), -1);
        tape(x, "day 2;day");
        refused("cut", ARGUMENT, x::assize);
        due("of a wrong text nothing stays", x.count(5), 1);
        tape(x, "move 3");
        x.law();
        due("fault of the latest", x.fault(), -1);
    }

    static void p6_ofTheLaw() throws Exception {
        says("The first wrong byte of the latest text that was read; NONE without one, and ahead of any.");
        badLaw("tax", 0);
        badLaw("moves 1", 0);
        badLaw("5", 0);
        badLaw("move", 4);
        badLaw("move if late", 5);
        badLaw("move 100", 5);
        badLaw("move 0001", 5);
        badLaw("move 5;", 7);
        badLaw("move 5 late", 7);
        badLaw("harden 5 if", 11);
        badLaw("harden 5 if hour", 16);
        badLaw("harden 5 if hour = 5", 17);
        badLaw("harden 5 if hour < ", 19);
        badLaw("harden 5 if hour < late", 19);
        badLaw("harden 5 if hour < 1 < 2", 21);
        badLaw("harden 5 if hour + < 1", 19);
        badLaw("harden 5 if 1000 < 1", 12);
        badLaw("harden 5 if late late", 17);
        badLaw("harden 5 if late and", 20);
        badLaw("harden 5 if late or or", 20);
        badLaw("harden 5 if mercy < 5", 12);
        badLaw("harden 5 if pay < 5", 12);
        badLaw("crumb 5 if (late", 16);
        badLaw("crumb 5 if late)", 15);
        badLaw("crumb 5 if ()", 12);
        badLaw("crumb 5 if (hour + 1) < 5", 20);
        badLaw("crumb 5 if not", 14);
        badLaw("move 5 if not not not not not not not late", 34);
        badLaw("move 5 if (((((((late)))))))", 16);
        badLaw("move 5 if not(not(not(not late)))", 22);
        badLaw("move 5 if late and ((((((late)))))) and (((not(not(( late", 50);
        badLaw(times("move 1", 13), 84);
        badLaw(times("move 1", 12) + ";", 84);
        badLaw("move 5 if late\u00a0", 14);
        asks("fault", x -> x.fault());
    }

    // ---- 7 judge

    static void p7_whatIsAskedOfAJudge() throws Exception {
        says("Of a JUDGE what 0 HUNGER, 1 MERCY, 2 NERVE, 3 PAY, 4 CRUMBS in HOUR (with the CASE in THE LIST, if it "
                + "waits), 5 HARSH, 6 SHARE, 7 HOURS FREE, as bits, 8 the CIRCUIT. NoSuchElementException: another "
                + "what.");
        HungryBench x = town(BENCH);
        int[][] want = {
            {30, 10, 2, 50, 40, 3, 0, 4095 - 8 - 16, 0},
            {5, 40, 0, 0, 60, 1, 0, 4095 - 8, 4},
            {60, 0, 5, 3, 10, 1, 0, 4095, 2},
        };
        for (int j = 0; j < 3; j++) {
            for (int what = 0; what < 9; what++) {
                due("judge " + j + " " + what, x.judge(j, what), want[j][what]);
            }
        }
        refused("no such judge", INDEX, () -> x.judge(3, 0));
        refused("no such judge", INDEX, () -> x.judge(-1, 9));
        refused("another what", ELEMENT, () -> x.judge(0, 9));
        refused("another what", ELEMENT, () -> x.judge(0, -1));
        for (int what = 0; what < 9; what++) {
            int asked = what;
            asks("judge what " + what, y -> y.judge(1, asked));
        }
    }

    static void p7_crumbs() throws Exception {
        says("CRUMBS of a JUDGE in an HOUR: INN of it, and the sum of N of all crumb LINES that hold (without a CASE: "
                + "kind 6, grave 0, worth 0, neither leaning nor precedent), less 10 times NERVE: 0 at least.");
        HungryBench x = town(BENCH);
        tape(x, "crumb 7 if kind > 5;crumb 3 if leaning;crumb 2 if grave > 44 and hunger < 31;crumb 1 if worth < 1");
        x.law();
        due("crumbs with case 0", x.judge(0, 4), 42);
        due("crumbs with case 2", x.judge(1, 4), 65);
        due("crumbs without a case", x.judge(2, 4), 60 + 7 + 1 - 50);
        x.inn(3, 10);
        due("crumbs are 0 at least", x.judge(2, 4), 0);
        tape(x, "crumb 50 if grave > 0 or worth > 0 or leaning or precedent or kind < 6;crumb 3 if kind < 7");
        x.law();
        x.inn(3, 60);
        x.point(2, 2, 3);
        due("without a case: nothing of another one", x.judge(2, 4), 13);
        tape(x, "move 50;harden 50;crumb 1");
        x.law();
        due("by crumb lines alone", x.judge(1, 4), 61);
        HungryBench y = twoHeard();
        rule(y, "crumb 4 if kind < 6");
        tell(y, "hour 0");
        due("a case that does not wait is none", y.judge(0, 4), 0);
        y.appeal(1);
        tell(y, "hour 1");
        due("one that waits again is one", y.judge(0, 4), 4);
    }

    static void p7_share() throws Exception {
        says("SHARE of a JUDGE (those BY him) of all CASES that are freed now, in hundredths, rounded down (0 "
                + "without).");
        HungryBench y = town("judge mercy 99 nerve 0;judge mercy 99 nerve 0;case a grave 1;case a grave 1;"
                + "case a grave 1;case b grave 99;list 0 0 0;list 1 0 1;list 1 1 2");
        due("share of none", y.judge(0, 6), 0);
        y.hours(1);
        due("share", y.judge(0, 6), 50);
        y.hours(1);
        due("share, rounded down", y.judge(0, 6), 33);
        due("share, rounded down", y.judge(1, 6), 66);
        HungryBench d = twoDays();
        due("two of three, of both days", d.judge(0, 6), 66);
        due("one of three", d.judge(1, 6), 33);
        d.inn(1, 100);
        d.hours(1);
        due("of one freed now", d.judge(1, 6), 100);
        due("none of those undone", d.judge(0, 6), 0);
    }

    static void p7_harsh() throws Exception {
        says("HARSH of a JUDGE: of all CASES that wait how many would be hanged by him in HOUR.");
        HungryBench x = under("move 9 if late", "judge mercy 5 nerve 0;judge mercy 9 nerve 0;case a grave 5;case a grave 6;"
                + "case a grave 14;case a grave 99;list 1 0 3");
        due("harsh", x.judge(0, 5), 3);
        due("harsh", x.judge(1, 5), 2);
        tell(x, "hour 6");
        due("late", x.judge(0, 5), 1);
        tell(x, "hour 0");
        x.hours(1);
        due("of those that wait", x.judge(1, 5), 1);
    }

    /** Circuits pay 0, 17, 34, 11, 28. */
    static void p7_circuits() throws Exception {
        says("CIRCUITS 0 to 4: what a CIRCUIT pays is its number times 17, modulo 40, and PAY of the JUDGE more, if "
                + "they are of one number; JUDGES ask CIRCUITS by what these pay them (the most first; of several the "
                + "least);");
        says("each CIRCUIT keeps of those who ask it the one of the most HUNGER (of several the least number), and "
                + "the others ask on: the CIRCUIT of a JUDGE in the end.");
        HungryBench x = town(times("judge mercy 1 nerve 1", 5));
        int[] of = {2, 4, 1, 3, 0};
        for (int j = 0; j < 5; j++) {
            due("all alike: circuit of " + j, x.judge(j, 8), of[j]);
        }
        x.fast(4, 9);
        x.fast(2, 8);
        int[] then = {1, 3, 4, 0, 2};
        for (int j = 0; j < 5; j++) {
            due("by hunger: circuit of " + j, x.judge(j, 8), then[j]);
        }
        HungryBench y = town("judge mercy 1 nerve 1 pay 34;judge mercy 1 nerve 1 pay 18");
        due("like pay: the least", y.judge(0, 8), 0);
        due("35 for 1", y.judge(1, 8), 1);
        String three = times("judge mercy 1 nerve 1", 3) + ";judge mercy 1 nerve 1 hunger 9 pay ";
        due("11 and 23, and 34", town(three + "23").judge(3, 8), 2);
        due("11 and 24, and 34", town(three + "24").judge(3, 8), 3);
        String four = times("judge mercy 1 nerve 1", 4) + ";judge mercy 1 nerve 1 hunger 9 pay ";
        due("28 and 6, and 34", town(four + "6").judge(4, 8), 2);
        due("28 and 7, and 34", town(four + "7").judge(4, 8), 4);
        due("one alone", town("judge mercy 1 nerve 1").judge(0, 8), 2);
    }

    /** Circuits pay 0, 17, 34, 11, 28. */
    static void p7_circuitsKeepOneUntilAHungrierAsks() throws Exception {
        says("each CIRCUIT keeps of those who ask it the one of the most HUNGER (of several the least number), and "
                + "the others ask on: the CIRCUIT of a JUDGE in the end.");
        // judge 1 asks circuit 1 first, which pays him 116, and is put off by judge 3, who asks it as his third
        HungryBench x = town("judge mercy 1 nerve 1 hunger 50;judge mercy 1 nerve 1 hunger 5 pay 99;"
                + "judge mercy 1 nerve 1 hunger 40;judge mercy 1 nerve 1 hunger 30;judge mercy 1 nerve 1 hunger 20");
        int[] of = {2, 0, 4, 1, 3};
        for (int j = 0; j < 5; j++) {
            due("circuit of " + j, x.judge(j, 8), of[j]);
        }
        x.fast(1, 30);
        int[] then = {2, 1, 4, 3, 0};
        for (int j = 0; j < 5; j++) {
            due("of several the least: circuit of " + j, x.judge(j, 8), then[j]);
        }
    }

    // ---- 8 cause, 9 listed, 10 smell

    static void p8_whatIsAskedOfACase() throws Exception {
        says("Of a CASE what 0 KIND, 1 GRAVE, 2 WORTH, 3 on which it LEANS (NONE), 4 the STATE, 5 BY whom (NONE), 6 "
                + "the DAY (NONE), 7, 8 the JUDGE and the HOUR where it stands in THE LIST (NONE), 9 those LEANING on "
                + "it, as bits, 10 BENCH (NONE), 11 DELAY (NONE), 12 SHARES (NONE). NoSuchElementException: another "
                + "what.");
        HungryBench x = town(BENCH);
        int[][] want = {
            {0, 45, 8, -1, 0, -1, -1, 0, 3, 7, 1, 5, 0},
            {1, 30, 5, 0, 0, -1, -1, 0, 4, 6, 0, 0, 1},
            {0, 45, 9, 1, 0, -1, -1, 1, 3, 4, 1, 0, 2},
            {5, 90, 20, -1, 0, -1, -1, -1, -1, 8, -1, -1, 1},
        };
        for (int c = 0; c < 4; c++) {
            for (int what = 0; what < 13; what++) {
                due("cause " + c + " " + what, x.cause(c, what), want[c][what]);
            }
        }
        refused("no such case", INDEX, () -> x.cause(4, 0));
        refused("no such case", INDEX, () -> x.cause(-1, 13));
        refused("another what", ELEMENT, () -> x.cause(0, 13));
        refused("another what", ELEMENT, () -> x.cause(0, -1));
        x.seed(1);
        x.inn(3, 0);
        x.hours(1);
        due("hanged", x.cause(0, 4), 2);
        due("by", x.cause(0, 5), 0);
        due("day", x.cause(0, 6), 2);
        due("it stands still", x.cause(0, 8), 3);
        due("no delay of one that does not wait", x.cause(0, 11), -1);
        due("no share of one that does not wait", x.cause(0, 12), -1);
        due("shares of those that wait alone", x.cause(1, 12), 0);
        due("shares of those that wait alone", x.cause(3, 12), 1);
        due("bench, now by those a bit hungrier", x.cause(0, 10), 1);
        x.list(0, 2, 1);
        due("no delay of one in an hour that is behind", x.cause(1, 11), -1);
        x.list(0, 4, 1);
        x.grave(1, 50);
        due("not behind 11", x.cause(1, 11), -1);
        x.grave(1, 48);
        due("as late as 11", x.cause(1, 11), 7);
        HungryBench f = town("judge mercy 1 nerve 0;judge mercy 2 nerve 0;case a grave 2;case b grave 3;list 0 0 0;"
                + "hour 0;day 0");
        due("first place, judge", f.cause(0, 7), 0);
        due("first place, hour", f.cause(0, 8), 0);
        due("put off by one", f.cause(0, 11), 1);
        due("hour 0 is not free", f.judge(0, 7), 4094);
        due("bench in hour 0", f.cause(0, 10), 1);
        due("in the list", f.count(7), 1);
        f.list(0, 0, 1);
        due("put off by two", f.cause(1, 11), 2);
        due("in the list", f.count(7), 2);
        f.fast(0, 2);
        due("not put off", f.cause(1, 11), 0);
        due("bench of several the least", f.cause(0, 10), 0);
        f.list(1, 5, 1);
        due("taken from the first place", f.listed(0, 0), -1);
        HungryBench y = town("case a grave 0");
        due("no bench without judges", y.cause(0, 10), -1);
        due("no shares without judges", y.cause(0, 12), -1);
        for (int what = 0; what < 13; what++) {
            int asked = what;
            asks("cause what " + what, z -> z.cause(4, asked));
        }
    }

    static void p8_leaningOn() throws Exception {
        says("LEANING on a CASE: those that LEAN on it, on and on, itself too, as bits.");
        HungryBench x = town("case a grave 1;case a grave 1;case a grave 1 on 1;case a grave 1 on 1;case a grave 1 on 3;"
                + "case a grave 1;case a grave 1 on 5;case a grave 1 on 4");
        due("leaning on 1", x.cause(1, 9), 2 + 4 + 8 + 16 + 128);
        due("leaning on 3", x.cause(3, 9), 8 + 16 + 128);
        due("leaning on 7", x.cause(7, 9), 128);
        due("of those found, too", twoHeard().cause(0, 9), 3);
        due("of those of two days, too", twoDays().cause(0, 9), 3);
    }

    static void p8_bench() throws Exception {
        says("BENCH of a CASE: the JUDGE whose EARLY is the first (of several the least; none).");
        HungryBench x = under("move 50 if hour < 3 and judge < 1", "judge mercy 0 nerve 0;judge mercy 40 nerve 0;"
                + "judge mercy 42 nerve 0;case a grave 50;case a grave 45;hour 3");
        due("not in an hour behind: 8 more of 42 in hour 11", x.cause(0, 10), 2);
        due("3 more of 42", x.cause(1, 10), 2);
        x.fast(1, 2);
        due("of several the least", x.cause(1, 10), 1);
        tell(x, "hour 2");
        due("in hour 2", x.cause(0, 10), 0);
    }

    static void p8_delay() throws Exception {
        says("DELAY of a CASE that waits and stands in THE LIST in an HOUR from HOUR on: by how many HOURS at least "
                + "it must be put off (0, too; not behind 11) so that WOULD of its JUDGE is 0 at least then, whatever "
                + "stands there; none.");
        HungryBench x = under("move 50 if hour < 3", "judge mercy 10 nerve 0;judge mercy 50 nerve 0;case a grave 18;"
                + "case a grave 99;list 0 4 0;list 0 8 1;hour 2");
        due("freed in hour 2, not in 4 to 9", x.cause(0, 11), 6);
        tell(x, "hour 4");
        due("none in hour 4: 7 more in hour 11", x.cause(0, 11), -1);
        x.grave(0, 14);
        due("in hour 8, where case 1 stands", x.cause(0, 11), 4);
        due("whatever stands there, and whoever else would free it", x.cause(1, 11), -1);
    }

    static void p8_shares() throws Exception {
        says("SHARES: CASES that wait put to JUDGES by numbers, each to the one who has the least GRAVE of these so far "
                + "together (of several the least): the JUDGE of a CASE; none (it does not wait, or without JUDGES).");
        HungryBench x = town(times("judge mercy 50 nerve 9", 3), "case a grave 10;case a grave 5;case a grave 4;"
                + "case a grave 3;case a grave 9;case a grave 0;case a grave 5;case a grave 1");
        int[] of = {0, 1, 2, 2, 1, 2, 2, 0};
        for (int c = 0; c < 8; c++) {
            due("of case " + c, x.cause(c, 12), of[c]);
        }
        x.list(0, 0, 0);
        x.hours(1);
        int[] then = {-1, 0, 1, 2, 2, 1, 1, 0};
        for (int c = 0; c < 8; c++) {
            due("of case " + c + ", without the first", x.cause(c, 12), then[c]);
        }
        due("none without judges", town("case a grave 0").cause(0, 12), -1);
    }

    static void p9_listed() throws Exception {
        says("What stands in THE LIST; NONE.");
        HungryBench x = town(BENCH);
        due("listed", x.listed(0, 3), 0);
        due("listed", x.listed(0, 4), 1);
        due("listed", x.listed(1, 3), 2);
        due("listed none", x.listed(2, 11), -1);
        refused("no such judge", INDEX, () -> x.listed(3, 0));
        refused("no such hour", INDEX, () -> x.listed(0, 12));
        refused("no such hour", INDEX, () -> x.listed(0, -1));
        asks("listed", y -> y.listed(2, 5));
    }

    static void p10_smell() throws Exception {
        says("INN of an HOUR.");
        HungryBench x = town(BENCH);
        due("smell", x.smell(3), 60);
        due("smell", x.smell(4), 0);
        refused("no such hour", INDEX, () -> x.smell(12));
        refused("no such hour", INDEX, () -> x.smell(-1));
        asks("smell", y -> y.smell(7));
    }

    // ---- 11 point, 12 would

    static void p11_point() throws Exception {
        says("POINT of a JUDGE, a CASE and an HOUR, with HUNGER as it is.");
        HungryBench x = under("move 7 if late;harden 20 if hunger > 33;move 2 if judge > 0;crumb 9", BENCH);
        due("point", x.point(0, 0, 3), -5);
        due("point late", x.point(0, 0, 8), 2);
        due("point of another judge", x.point(1, 1, 0), 17);
        for (int bad : new int[] {-1, 12, Integer.MAX_VALUE}) {
            refused("point " + bad, INDEX, () -> x.point(bad, 0, 0));
            refused("point " + bad, INDEX, () -> x.point(0, bad, 0));
            refused("point " + bad, INDEX, () -> x.point(0, 0, bad));
        }
        asks("point", y -> y.point(0, 1, 11));
    }

    static void p12_would() throws Exception {
        says("WOULD.");
        says("WOULD of a JUDGE, a CASE and an HOUR: POINT, if HOUR was that and HUNGER as many more as the HOURS are "
                + "from HOUR to it (0, if it is not behind HOUR; 99 at most), else by all as it is now.");
        HungryBench x = under("move 7 if late;harden 20 if hunger > 33;move 2 if judge > 0;move 60 if hour < 2", BENCH);
        due("would now", x.would(0, 0, 3), -5);
        due("would in an hour behind this", x.would(0, 0, 6), -5 + 3 + 7);
        due("would, hungrier", x.would(0, 0, 7), -5 + 4 + 7 - 20);
        due("would ahead of this hour", x.would(0, 0, 2), -5);
        due("would ahead of this hour, as if it was that", x.would(0, 0, 1), 55);
        x.fast(0, 95);
        due("hunger 99 at most", x.would(0, 0, 11), 99 + 10 + 7 - 45 - 20);
        for (int bad : new int[] {-1, 12, Integer.MAX_VALUE}) {
            refused("would " + bad, INDEX, () -> x.would(bad, 0, 0));
            refused("would " + bad, INDEX, () -> x.would(0, bad, 0));
            refused("would " + bad, INDEX, () -> x.would(0, 0, bad));
        }
        asks("would", y -> y.would(0, 1, 11));
    }

    // ---- 13 hours

    static void p13_hours() throws Exception {
        says("So many HOURS more (1 to 48): how many CASES were heard in these. IllegalArgumentException: they are "
                + "none.");
        says("AN HOUR more: (a) each JUDGE, by numbers, who has a CASE in THE LIST in HOUR that waits");
        HungryBench x = town(TWO);
        due("heard", x.hours(1), 1);
        due("freed", x.cause(0, 4), 1);
        due("by", x.cause(0, 5), 0);
        due("on", x.cause(0, 6), 0);
        due("the other waits", x.cause(1, 4), 0);
        due("hunger", x.judge(0, 0), 1);
        due("hour", x.count(4), 1);
        due("one draw a judge", x.seed(1103527590), 1103527590);
        due("heard", x.hours(1), 1);
        due("hanged", x.cause(1, 4), 2);
        due("point in the log", x.log(0, 5), -9);
        due("heard none", x.hours(9), 0);
        due("they stand until the day is over", x.count(7), 3);
        due("hour 11", x.count(4), 11);
        x.appeal(1);
        due("heard none", x.hours(1), 0);
        due("hour 0", x.count(4), 0);
        due("day 1", x.count(5), 1);
        due("those that do not wait are struck", x.count(7), 2);
        due("one that waits again is heard", x.hours(2), 1);
        due("it is freed by one of 13 more", x.log(0, 5), 13 + 50 - 60);
        due("day told", x.cause(1, 6), 1);
        due("48 hours", x.hours(48), 0);
        due("day", x.count(5), 5);
        due("hunger", x.judge(0, 0), 62);
        x.hours(48);
        due("hunger 99 at most", x.judge(0, 0), 99);
        refused("0 hours", ARGUMENT, () -> x.hours(0));
        refused("49 hours", ARGUMENT, () -> x.hours(49));
        refused("below", ARGUMENT, () -> x.hours(-1));
        // judge 0 frees case 0, which is a precedent for judge 1 in the same hour
        HungryBench y = under("move 50 if precedent", "judge mercy 10 nerve 9;judge mercy 0 nerve 9;case a grave 5;"
                + "case a grave 50 on 0;list 0 0 0;list 1 0 1");
        due("heard", y.hours(1), 2);
        due("by all as it is then", y.cause(1, 4), 1);
        HungryBench z = under("move 50 if precedent", "judge mercy 10 nerve 9;judge mercy 0 nerve 9;case a grave 5;"
                + "case a grave 50 on 0;list 1 0 0;list 0 0 1");
        due("heard", z.hours(1), 2);
        due("not yet a precedent", z.cause(1, 4), 2);
    }

    static void p13_anHourChangesNothingElse() throws Exception {
        says("HOUR is 1 more; behind 11 it is 0");
        // hour 2 has no crumbs; nine draws were made by now
        changes("an hour", x -> x.hours(1), "now, count 4: 3", "now, count 8: 72", "now, count 10: 5",
                "now, seed: -1084965762", "judge 0 0: 8", "judge 1 0: 63", "judge 2 0: 1", "judge 2 4: 9", "point 0 0: 6",
                "point 1 0: 21", "point 2 0: -21", "point 0 1: 21", "point 1 1: 36", "point 2 1: -6", "point 0 2: -39",
                "point 1 2: -24", "point 2 2: -66", "point 0 3: 41", "point 1 3: 56", "point 2 3: 14", "point 0 4: 44",
                "point 1 4: 59", "point 2 4: 17");
    }

    /** The draws of seed 1 modulo 100 are 38, 58, 13, 15, 51, 27, 10, 19, 12, 86. */
    static void p13_crumbs() throws Exception {
        says("(c) each JUDGE, by numbers: if DRAW modulo 100 is below his CRUMBS in HOUR (the CASE that he had in "
                + "(a), or none), HUNGER is 0, and all CASES freed or hanged BY him on this DAY are undone");
        HungryBench x = town(TWO + ";inn 0 38;inn 1 59");
        due("no crumbs at 38", x.hours(1), 1);
        due("hunger", x.judge(0, 0), 1);
        due("crumbs at 59", x.hours(1), 1);
        due("hunger", x.judge(0, 0), 0);
        due("undone", x.state(3), 3);
        due("by stays", x.cause(1, 5), 0);
        due("day stays", x.cause(1, 6), 0);
        due("rows", x.count(9), 4);
        int[][] rows = {{0, 1, 1, 2, 0, 0}, {0, 1, 0, 2, 0, 0}, {0, 1, 1, 1, 0, -9}, {0, 0, 0, 0, 0, 40}};
        for (int ago = 0; ago < 4; ago++) {
            for (int what = 0; what < 6; what++) {
                due("log " + ago + " " + what, x.log(ago, what), rows[ago][what]);
            }
        }
        HungryBench y = town(TWO + ";inn 0 39");
        y.hours(1);
        due("crumbs at 39", y.state(3), 1);
        HungryBench z = town("judge mercy 50 nerve 1;case a grave 10;list 0 0 0;inn 0 48");
        z.hours(1);
        due("a nerve is 10 less", z.state(3), 0);
        HungryBench n = under("crumb 39 if kind < 6", TWO);
        n.hours(1);
        due("crumbs by the case that he had", n.state(3), 1);
        HungryBench m = under("crumb 39 if kind > 5", TWO);
        m.hours(1);
        due("no crumbs but without a case", m.state(3), 0);
        HungryBench h = under("crumb 39 if hunger > 0", TWO);
        h.hours(1);
        due("the hunger behind (b)", h.state(3), 1);
        HungryBench k = under("crumb 39 if kind < 1;crumb 59 if kind > 0 and kind < 6 or kind > 6", TWO);
        k.seed(0);
        due("the draw of seed 0 is 0", k.hours(1), 1);
        k.appeal(0);
        k.seed(1103527590);
        k.hours(1);
        due("by the case of this hour, not of the one ahead", k.state(3), 2);
        HungryBench e = under("crumb 99 if kind < 6;crumb 99 if kind < 6", TWO);
        e.hours(1);
        e.appeal(0);
        e.strike(0, 1);
        e.hours(1);
        due("without a case behind one with", e.judge(0, 0), 1);
        // case 0 is undone, then case 1 that leans on it is freed by another, then crumbs come to the first again
        HungryBench o = town("judge mercy 50 nerve 0;judge mercy 50 nerve 9;case a grave 1;case a grave 1 on 0;"
                + "list 0 0 0;list 1 1 1;inn 0 39;inn 1 100");
        o.hours(2);
        due("nothing is undone by what is undone already", o.state(1), 2);
        due("rows", o.count(9), 3);
        due("a judge in the log", o.log(0, 4), 1);
        due("crumbles none", o.crumbles(0), 0);
        // both judges' findings of another day, and cases that lean on those of this day
        HungryBench l = town("judge mercy 50 nerve 9;judge mercy 50 nerve 9;case a grave 9;case a grave 9 on 0;"
                + "case a grave 9 on 1;case a grave 9 on 0;case a grave 9;list 0 0 4");
        l.hours(12);
        tape(l, "list 1 0 2;list 1 1 3;list 0 2 0");
        l.assize();
        l.hours(2);
        tape(l, "crumb 99 if hour > 1 and judge < 1;crumb 99 if hour > 1 and judge < 1");
        l.law();
        l.hours(1);
        due("those of this day, and all found that lean on them, though one between waits", l.state(3), 1 + 4 + 8);
        due("one of another day stays", l.cause(4, 4), 1);
        due("by stays", l.cause(2, 5), 1);
        due("the greatest the latest", l.log(0, 2), 3);
        due("whose crumbs", l.log(0, 4), 0);
        due("the other's hunger", l.judge(1, 0), 15);
        due("his hunger", l.judge(0, 0), 0);
    }

    static void p13_theCaseThatHeHadIsHisThoughUndone() throws Exception {
        says("his CRUMBS in HOUR (the CASE that he had in (a), or none)");
        // the crumbs of judge 0 undo both cases; judge 1 had case 1 nevertheless: 60 of it, the second draw is 58
        HungryBench x = under("crumb 60 if leaning", "judge mercy 50 nerve 0;judge mercy 50 nerve 0;case a grave 1;"
                + "case a grave 1 on 0;list 0 0 0;list 1 0 1;inn 0 39");
        x.inn(0, 39);
        due("heard, though undone at once", x.hours(1), 2);
        due("undone", x.state(3), 3);
        due("crumbs of judge 1", x.judge(1, 0), 0);
        due("undone once each", x.count(9), 4);
        due("by judge 0's crumbs", x.log(0, 4), 0);
    }

    static void p13_thoseThatLeanAreUndoneOfAnyDay() throws Exception {
        says("and with each all that LEAN on it, on and on, and are freed or hanged (their rows in THE LOG by numbers "
                + "of CASES, the greatest the latest; BY and the DAY of each stay;");
        HungryBench x = twoDays();
        due("freed", x.state(1), 7);
        x.inn(1, 100);
        x.hours(1);
        due("0 of this day, and 1, which leans on it, of the day ahead; not the other's", x.state(3), 3);
        due("day of 0 stays", x.cause(0, 6), 1);
        due("day of 1 stays", x.cause(1, 6), 0);
        due("by stays", x.cause(1, 5), 0);
        int[][] rows = {{1, 1, 1, 2, 0, 0}, {1, 1, 0, 2, 0, 0}, {1, 0, 2, 0, 1, 56}, {1, 0, 0, 0, 0, 56}, {0, 5, 1, 0, 0, 49}};
        due("rows", x.count(9), 5);
        for (int ago = 0; ago < 5; ago++) {
            for (int what = 0; what < 6; what++) {
                due("log " + ago + " " + what, x.log(ago, what), rows[ago][what]);
            }
        }
    }

    static void p13_onAndOnThroughOneUndone() throws Exception {
        says("all that LEAN on it, on and on, and are freed or hanged");
        // in hour 2 the draws are 51 (judge 0) and 27 (judge 1): 28 brings crumbs to judge 1 alone
        HungryBench x = town("judge mercy 50 nerve 0;judge mercy 50 nerve 0;judge mercy 50 nerve 9;case a grave 1;"
                + "case a grave 1 on 0;case a grave 1 on 1;list 0 0 0;list 1 0 1;list 1 1 2;inn 2 28");
        x.hours(2);
        due("freed", x.state(1), 7);
        x.seed(-999580867);
        x.hours(1);
        due("1, and 2 that leans on it", x.state(3), 6);
        x.appeal(2);
        x.list(2, 3, 2);
        x.hours(1);
        due("2 is freed again, 1 is undone still", x.state(1), 5);
        x.inn(4, 100);
        x.hours(1);
        due("0, and 2 that leans on it by 1", x.state(3), 7);
        due("by judge 0's crumbs", x.log(0, 4), 0);
        due("the latest", x.log(0, 2), 2);
        due("and ahead of it 0, not 1 once more", x.log(1, 2), 0);
    }

    // ---- 14 list to 20 grave

    static void p14_list() throws Exception {
        says("A CASE is listed: what stood there (it itself, if it stood just there); NONE. IllegalStateException: it "
                + "does not wait.");
        says("a CASE is listed (taken from where it stands; what stood there stands nowhere)");
        HungryBench x = town(BENCH);
        due("list on an empty place", x.list(2, 0, 3), -1);
        due("list in place of another", x.list(2, 0, 0), 3);
        due("taken from where it stood", x.listed(0, 3), -1);
        due("what stood there stands nowhere", x.cause(3, 7), -1);
        due("list where it stands", x.list(2, 0, 0), 0);
        due("it stands there", x.listed(2, 0), 0);
        HungryBench y = twoHeard();
        refused("list one freed", STATE, () -> y.list(0, 5, 0));
        refused("list one hanged", STATE, () -> y.list(0, 5, 1));
        changes("list", z -> z.list(0, 7, 1), "now, count 7: 31", "now, count 10: 5", "judge 0 7: 3966", "listed 0 7: 1",
                "cause 1 7: 0", "cause 1 8: 7", "cause 1 11: 0");
        changes("list in place of another", z -> z.list(0, 0, 4), "now, count 7: 28", "now, count 10: 5", "listed 0 0: 4",
                "judge 2 7: 4093", "listed 2 5: -1", "cause 0 7: -1", "cause 0 8: -1", "cause 4 7: 0", "cause 4 8: 0",
                "cause 4 11: -1");
        changes("list where it stands", z -> z.list(2, 5, 4), "now, count 10: 5");
    }

    static void p15_strike() throws Exception {
        says("A place is struck: what stood there. IllegalStateException: nothing did.");
        HungryBench x = town(BENCH);
        due("strike", x.strike(1, 3), 2);
        due("struck", x.listed(1, 3), -1);
        due("it waits still", x.cause(2, 4), 0);
        refused("strike nothing", STATE, () -> x.strike(1, 3));
        changes("strike", z -> z.strike(1, 0), "now, count 7: 25", "now, count 10: 5", "judge 1 7: 4095", "listed 1 0: -1",
                "cause 2 7: -1", "cause 2 8: -1");
    }

    static void p16_feeds() throws Exception {
        says("Fed: HUNGER that he had.");
        says("a JUDGE is fed (HUNGER 0, nothing is undone), or fasts (HUNGER as told, no less than it was)");
        HungryBench x = town(BENCH);
        x.inn(3, 0);
        x.hours(1);
        due("case 2 is freed", x.cause(2, 4), 1);
        due("feeds", x.feeds(1), 6);
        due("fed", x.judge(1, 0), 0);
        due("case 2 is freed still", x.cause(2, 4), 1);
        due("feeds once more", x.feeds(1), 0);
        // both others are hungry by 7 and 0 then: circuit 2 is of judge 0, circuit 4 of judge 1, the least of two
        changes("feeds", z -> z.feeds(1), "now, count 8: 7", "now, count 10: 5", "judge 0 8: 2", "judge 1 0: 0",
                "judge 1 5: 2", "judge 1 8: 4", "point 1 0: -42", "point 1 1: -27", "point 1 2: -87", "point 1 3: -7",
                "point 1 4: -4");
        changes("feeds of one fed", z -> z.feeds(2), "now, count 10: 5");
    }

    static void p17_fast() throws Exception {
        says("He fasts: HUNGER that he had. IllegalArgumentException: n is none (0 to 99); IllegalStateException: he "
                + "had more.");
        HungryBench x = town(BENCH);
        due("fast", x.fast(0, 40), 30);
        due("fast, no more", x.fast(0, 40), 40);
        due("fast of none", town(TWO).fast(0, 0), 0);
        due("fast to the most", x.fast(0, 99), 40);
        due("fasted", x.judge(0, 0), 99);
        refused("fast -1", ARGUMENT, () -> x.fast(0, -1));
        refused("fast 100", ARGUMENT, () -> x.fast(0, 100));
        refused("fast to less", STATE, () -> x.fast(0, 98));
        changes("fast", z -> z.fast(2, 30), "now, count 8: 99", "now, count 10: 5", "judge 0 8: 1", "judge 2 0: 30",
                "judge 2 5: 0", "judge 2 8: 4", "point 2 0: 8", "point 2 1: 23", "point 2 2: -37", "point 2 3: 43",
                "point 2 4: 46");
        changes("fast as he was", z -> z.fast(0, 7), "now, count 10: 5");
    }

    static void p18_inn() throws Exception {
        says("An INN is told: what it was. IllegalArgumentException: n is none (0 to 100).");
        HungryBench x = town(BENCH);
        due("inn", x.inn(3, 100), 60);
        due("inn", x.inn(3, 0), 100);
        due("told", x.smell(3), 0);
        refused("inn -1", ARGUMENT, () -> x.inn(0, -1));
        refused("inn 101", ARGUMENT, () -> x.inn(0, 101));
        changes("inn", z -> z.inn(2, 95), "now, count 10: 5", "judge 0 4: 5", "judge 1 4: 5", "judge 2 4: 95",
                "smell 2: 95");
        changes("inn as it was", z -> z.inn(7, 30), "now, count 10: 5");
    }

    static void p19_appeal() throws Exception {
        says("An appeal: the STATE that it had. IllegalStateException: it is neither hanged nor undone.");
        says("an appeal: a CASE that is hanged or undone waits again (BY and DAY none)");
        HungryBench x = twoHeard();
        due("appeal of one hanged", x.appeal(1), 2);
        due("waits", x.cause(1, 4), 0);
        due("by none", x.cause(1, 5), -1);
        due("day none", x.cause(1, 6), -1);
        due("it stands where it stood", x.cause(1, 8), 1);
        refused("appeal of one that waits", STATE, () -> x.appeal(1));
        refused("appeal of one freed", STATE, () -> x.appeal(0));
        HungryBench y = town(TWO + ";inn 0 100");
        y.hours(1);
        due("appeal of one undone", y.appeal(0), 3);
        due("waits", y.cause(0, 4), 0);
        changes("appeal of one hanged", z -> z.appeal(2), "now, count 6: 22", "now, count 10: 5", "now, state 0: 22",
                "now, state 2: 0", "judge 0 5: 1", "judge 1 5: 1", "judge 2 5: 2", "cause 2 4: 0", "cause 2 5: -1",
                "cause 2 6: -1", "cause 2 12: 1", "cause 4 12: 2");
        changes("appeal of one undone", z -> z.appeal(3), "now, count 6: 26", "now, count 10: 5", "now, state 0: 26",
                "now, state 3: 0", "cause 3 4: 0", "cause 3 5: -1", "cause 3 6: -1", "cause 3 12: 1", "cause 4 12: 2");
    }

    static void p19_thoseThatLeanOnItStay() throws Exception {
        says("a CASE that is hanged or undone waits again (BY and DAY none)");
        HungryBench x = town("judge mercy 50 nerve 0;case a grave 1;case a grave 1 on 0;list 0 0 0;list 0 1 1;inn 1 100");
        x.hours(2);
        due("both undone", x.state(3), 3);
        x.appeal(0);
        due("one waits", x.state(0), 1);
        due("the other is undone still", x.state(3), 2);
    }

    static void p20_grave() throws Exception {
        says("GRAVE is told: what it was. IllegalArgumentException: n is none (0 to 99).");
        HungryBench x = town(BENCH);
        due("grave", x.grave(3, 0), 90);
        due("grave", x.grave(3, 99), 0);
        due("told", x.cause(3, 1), 99);
        refused("grave -1", ARGUMENT, () -> x.grave(0, -1));
        refused("grave 100", ARGUMENT, () -> x.grave(0, 100));
        changes("grave", z -> z.grave(1, 48), "now, count 10: 5", "judge 0 5: 1", "cause 1 1: 48", "cause 1 10: 1",
                "point 0 1: 2", "point 1 1: 17", "point 2 1: -25");
        changes("grave as it was", z -> z.grave(2, 90), "now, count 10: 5");
    }

    static void p20_actsRefused() throws Exception {
        says("IndexOutOfBoundsException: there is no such JUDGE, CASE, HOUR, KIND, CIRCUIT. IllegalArgumentException: a "
                + "number is none, or two are one. IllegalStateException: it cannot be.");
        says("a call that throws changes nothing but the TAPE, where it is used up, and fault(), where a text is read "
                + "(also by one that is refused)");
        HungryBench x = town(BENCH + ";inn 4 0");
        x.inn(3, 0);
        x.hours(1);
        int acts = x.count(10);
        for (int bad : new int[] {-1, 12, Integer.MIN_VALUE}) {
            refused("list " + bad, INDEX, () -> x.list(bad, 0, 0));
            refused("list " + bad, INDEX, () -> x.list(0, bad, 0));
            refused("list " + bad, INDEX, () -> x.list(0, 0, bad));
            refused("strike " + bad, INDEX, () -> x.strike(bad, 0));
            refused("strike " + bad, INDEX, () -> x.strike(0, bad));
            refused("feeds " + bad, INDEX, () -> x.feeds(bad));
            refused("fast " + bad, INDEX, () -> x.fast(bad, -1));
            refused("inn " + bad, INDEX, () -> x.inn(bad, -1));
            refused("appeal " + bad, INDEX, () -> x.appeal(bad));
            refused("grave " + bad, INDEX, () -> x.grave(bad, -1));
        }
        refused("list one that does not wait", STATE, () -> x.list(0, 0, 0));
        refused("strike nothing", STATE, () -> x.strike(2, 0));
        refused("fast -1", ARGUMENT, () -> x.fast(0, -1));
        refused("fast 100", ARGUMENT, () -> x.fast(0, 100));
        refused("fast to less", STATE, () -> x.fast(0, 30));
        refused("inn -1", ARGUMENT, () -> x.inn(0, -1));
        refused("inn 101", ARGUMENT, () -> x.inn(0, 101));
        refused("appeal of one that waits", STATE, () -> x.appeal(1));
        refused("appeal of one freed", STATE, () -> x.appeal(2));
        refused("grave -1", ARGUMENT, () -> x.grave(0, -1));
        refused("grave 100", ARGUMENT, () -> x.grave(0, 100));
        due("no act", x.count(10), acts);
        due("hunger stays", x.judge(0, 0), 31);
        due("the list stays", x.count(7), 7);
    }

    // ---- 21 early to 24 needed

    static void p21_early() throws Exception {
        says("EARLY; NONE.");
        says("EARLY of a JUDGE and a CASE: the first HOUR from HOUR on in which WOULD is 0 at least; none.");
        HungryBench x = town(BENCH);
        due("early", x.early(0, 0), 8);
        due("early at once", x.early(1, 0), 3);
        due("early none", x.early(0, 3), -1);
        x.inn(3, 0);
        x.hours(1);
        due("early of one that does not wait", x.early(0, 0), 8);
        refused("no such judge", INDEX, () -> x.early(3, 0));
        refused("no such case", INDEX, () -> x.early(0, 4));
        asks("early", y -> y.early(2, 1));
    }

    static void p22_split() throws Exception {
        says("SPLIT.");
        says("SPLIT of a CASE: whether in HOUR some JUDGES would free it and some not.");
        HungryBench x = town(BENCH);
        due("split", x.split(0), true);
        due("all free it", x.split(1), false);
        due("none frees it", x.split(3), false);
        refused("no such case", INDEX, () -> x.split(4));
        due("split without judges", town("case a grave 0").split(0), false);
        x.inn(3, 0);
        x.hours(1);
        due("one hanged, about which they are split: 41 and 46 and 61 of 45", x.split(0), true);
        due("one freed", x.split(2), true);
        asks("split", y -> y.split(1));
    }

    static void p23_saved() throws Exception {
        says("SAVED, as bits (worth false), or how much WORTH.");
        says("SAVED: CASES that wait and could all be freed by a list that is empty now, each in a place of its own (a JUDGE, "
                + "an HOUR from HOUR on, WOULD 0 at least there): ");
        says("CASES by WORTH (of several the least number first), each kept, if all that are kept and it could be: "
                + "those kept, as bits; how much WORTH they have.");
        due("saved", town(BENCH).saved(false), 7);
        due("saved worth", town(BENCH).saved(true), 22);
        // one hour left: one place a judge; case 2 goes first by its worth, then 0 ahead of 1 of like worth
        HungryBench y = town("judge mercy 50 nerve 0;judge mercy 20 nerve 0;case a grave 50 worth 5;"
                + "case a grave 50 worth 5;case a grave 20 worth 6;case a grave 90 worth 99;hour 11");
        due("saved by worth", y.saved(false), 5);
        due("saved worth", y.saved(true), 11);
        tell(y, "hour 10");
        // case 2 gives way to judge 1, so that both others find judge 0 in two hours
        due("saved in two hours", y.saved(false), 7);
        tell(y, "hour 8");
        y.grave(1, 54);
        due("none for it", y.saved(false), 5);
        y.list(0, 8, 0);
        due("what is listed now does not matter", y.saved(false), 5);
        due("saved without judges", town("case a grave 0").saved(false), 0);
        HungryBench w = town("judge mercy 50 nerve 0;case a grave 0 worth 0;case a grave 0 worth 1;hour 11");
        due("the most worth first", w.saved(false), 2);
        w.hours(1);
        due("one of no worth, too", w.saved(false), 3);
        w.list(0, 0, 0);
        w.hours(1);
        due("those that wait alone", w.saved(false), 2);
        asks("saved", z -> z.saved(false));
        asks("saved worth", z -> z.saved(true));
    }

    static void p24_needed() throws Exception {
        says("HOURS NEEDED.");
        says("HOURS NEEDED: the fewest N so that all of SAVED could be freed so in HOUR and the N less 1 behind it (0 "
                + "of none).");
        due("needed", town(BENCH).needed(), 1);
        HungryBench y = town("judge mercy 50 nerve 0;judge mercy 20 nerve 0;case a grave 50 worth 5;"
                + "case a grave 50 worth 5;case a grave 20 worth 6;case a grave 90 worth 99;hour 11");
        due("needed", y.needed(), 1);
        tell(y, "hour 10");
        due("needed", y.needed(), 2);
        tell(y, "hour 8");
        y.grave(1, 53);
        due("one must wait until 11", y.needed(), 4);
        due("none needed", town("case a grave 0").needed(), 0);
        HungryBench x = under("move 9 if hour > 8 or hour < 1", "judge mercy 0 nerve 0;case a grave 9;case a grave 9");
        due("in hours 0 and 9, not in those between", x.needed(), 9 + 1);
        asks("needed", z -> z.needed());
    }

    // ---- 25 crumbles to 28 roots

    static void p25_crumbles() throws Exception {
        says("CRUMBLES, as bits.");
        says("CRUMBLES of a JUDGE: CASES that would be undone by his crumbs now (see (c)), as bits.");
        HungryBench x = town(BENCH);
        x.inn(3, 0);
        due("crumbles none", x.crumbles(0), 0);
        x.hours(1);
        due("case 0, and case 2 that leans on it by one that waits", x.crumbles(0), 5);
        due("case 2", x.crumbles(1), 4);
        due("none", x.crumbles(2), 0);
        x.feeds(0);
        due("though he is fed", x.crumbles(0), 5);
        x.appeal(0);
        due("none by one that waits again", x.crumbles(0), 0);
        x.hours(9);
        due("not on another day", x.crumbles(1), 0);
        due("one of another day that leans on one of this", twoDays().crumbles(0), 3);
        due("none of another judge's", twoDays().crumbles(1), 4);
        refused("no such judge", INDEX, () -> x.crumbles(3));
        refused("no such judge", INDEX, () -> x.crumbles(-1));
        asks("crumbles", y -> y.crumbles(1));
    }

    static void p26_worst() throws Exception {
        says("WORST; NONE.");
        says("WORST: the JUDGE by whom the most are (of several the least; none without JUDGES).");
        HungryBench x = town(BENCH);
        x.inn(3, 0);
        due("worst of none", x.worst(), 0);
        x.hours(1);
        due("two by judge 0", x.worst(), 0);
        x.appeal(0);
        due("one by judge 1", x.worst(), 1);
        // judge 1 found one, on which two lean that judge 0 found
        HungryBench y = town("judge mercy 50 nerve 0;judge mercy 50 nerve 0;case a grave 1;case a grave 1 on 0;"
                + "case a grave 1 on 0;list 1 0 0;list 0 0 1;list 0 1 2");
        y.hours(2);
        due("those that lean count", y.worst(), 1);
        due("none", new HungryBench().worst(), -1);
        asks("worst", z -> z.worst());
    }

    static void p27_deep() throws Exception {
        says("DEEP.");
        says("DEEP: the most CASES one leaning on another one, on and on: how many.");
        due("deep", town(BENCH).deep(), 3);
        HungryBench x = town("case a grave 1");
        due("deep of one", x.deep(), 1);
        tell(x, "case a grave 1;case a grave 1 on 1;case a grave 1 on 1;case a grave 1 on 3;case a grave 1;"
                + "case a grave 1 on 5;case a grave 1 on 4");
        due("deep", x.deep(), 4);
        due("of those found, too", twoHeard().deep(), 2);
        asks("deep", z -> z.deep());
    }

    static void p28_roots() throws Exception {
        says("ROOTS, as bits.");
        says("ROOTS: CASES that LEAN on none and on which some LEAN, as bits.");
        due("roots", town(BENCH).roots(), 1);
        HungryBench x = town("case a grave 1");
        due("no roots", x.roots(), 0);
        tell(x, "case a grave 1;case a grave 1 on 1;case a grave 1 on 1;case a grave 1 on 3;case a grave 1;"
                + "case a grave 1 on 5;case a grave 1 on 4");
        due("roots", x.roots(), 2 + 32);
        due("those found, too", twoHeard().roots(), 1);
        asks("roots", z -> z.roots());
    }

    // ---- 29 meals to 32 even

    static void p29_meals() throws Exception {
        says("Uses the TAPE up: MEALS (of each three bytes: the HOUR, the CASE, 1 or 0; at most 45 bytes): how many "
                + "(least false), or LEAST; NONE. IllegalArgumentException: the TAPE is not that (none may be told).");
        says("MEALS of a JUDGE: told are rows: an HOUR and a CASE and whether it would be freed then (1) or not (0): "
                + "unknown is his HUNGER in HOUR 0 (0 to 60; HOURS more in each HOUR, 99 at most): those that fit: how "
                + "many; LEAST: the least; none.");
        // freed with a hunger of 20 (case 0), 40 (case 1) and 70 (case 2) at least
        HungryBench x = town("judge mercy 10 nerve 0;case a grave 30;case a grave 50;case a grave 80;hour 2");
        tape(x, "");
        due("none told", x.meals(0, false), 61);
        due("none told", x.meals(0, true), 0);
        tape(x, "\u0003\u0000\u0001");
        due("freed in hour 3: 17 to 60", x.meals(0, false), 44);
        tape(x, "\u0003\u0000\u0001\u0005\u0001\u0000");
        due("17 to 34", x.meals(0, false), 18);
        tape(x, "\u0003\u0000\u0001\u0005\u0001\u0000");
        due("least", x.meals(0, true), 17);
        tape(x, "\u000b\u0002\u0001");
        due("freed in hour 11: 59, 60", x.meals(0, false), 2);
        tape(x, "\u0000\u0002\u0001");
        due("none fits", x.meals(0, false), 0);
        tape(x, "\u0000\u0002\u0001");
        due("no least", x.meals(0, true), -1);
        x.list(0, 2, 0);
        x.hours(1);
        tape(x, "\u0003\u0000\u0001");
        due("a case that does not wait, too", x.meals(0, false), 44);
        for (String bad : new String[] {"\u0000", "\u0000\u0000", "\u000c\u0000\u0000", "\u0000\u0003\u0000",
            "\u0000\u0000\u0002", "\u0000\u0000\u00ff", "\u00ff\u0000\u0000"}) {
            tape(x, bad);
            refused("meals", ARGUMENT, () -> x.meals(0, false));
            due("the tape is used up", x.end(1), false);
        }
        String rows = "\u0003\u0001\u0000".repeat(15);
        tape(x, rows);
        due("15 rows: 0 to 36", x.meals(0, false), 37);
        tape(x, rows + rows.substring(0, 3));
        refused("16 rows", ARGUMENT, () -> x.meals(0, false));
        tape(x, "\u0000");
        refused("no such judge", INDEX, () -> x.meals(1, false));
        due("the tape is used up", x.end(1), false);
        asksWithTheTape("meals", "\u0007\u0004\u0001", y -> y.meals(2, false));
        asksWithTheTape("meals, the least", "", y -> y.meals(2, true));
    }

    static void p29_whateverHisHungerIs() throws Exception {
        says("unknown is his HUNGER in HOUR 0 (0 to 60; HOURS more in each HOUR, 99 at most)");
        HungryBench x = under("move 20 if late and hunger > 40;move 40 if precedent", "judge mercy 10 nerve 0 hunger 50;"
                + "case a grave 60;case a grave 99 on 0;hour 4");
        tape(x, "\u0006\u0000\u0001");
        due("30 is not beyond 40, 41 is: from 35 on", x.meals(0, true), 35);
        x.fast(0, 51);
        tape(x, "\u0006\u0000\u0001");
        due("of another hunger now", x.meals(0, true), 35);
        tape(x, "\u0003\u0000\u0001");
        due("50 in hour 3, which is behind us", x.meals(0, true), 47);
        tape(x, "\u0000\u0001\u0001");
        due("no precedent yet", x.meals(0, true), -1);
        x.list(0, 4, 0);
        x.hours(1);
        tape(x, "\u0000\u0001\u0001");
        due("by all as it is now: a precedent", x.meals(0, true), 49);
    }

    static void p30_tries() throws Exception {
        says("Uses the TAPE up: TRY (the TAPE likewise); NONE. IllegalArgumentException: the TAPE is not that.");
        says("TRY: the CASE that waits by what he would FIND in HOUR (by each HUNGER that fits and HOURS more) by "
                + "which those that fit are parted so that the greater part is the least (of several the least; none "
                + "with fewer than two, or without CASES that wait).");
        HungryBench x = town("judge mercy 10 nerve 0;case a grave 30;case a grave 50;case a grave 80;hour 2");
        tape(x, "");
        // of 61 in hour 2: case 0 is freed from 18 on (43, 18), case 1 from 38 on (23, 38), case 2 by none
        due("try", x.tries(0), 1);
        tape(x, "\u0000\u0001\u0000");
        due("of 0 to 39: case 0 parts 22 and 18", x.tries(0), 0);
        tape(x, "\u0000\u0002\u0001");
        due("try of none", x.tries(0), -1);
        tape(x, "\u0000\u0000\u0000\u0001\u0000\u0001");
        due("try of one (19)", x.tries(0), -1);
        tape(x, "\u0000\u0000\u0000\u0002\u0000\u0001");
        due("try of two (18, 19), alike", x.tries(0), 0);
        tape(x, "\u0001\u0000\u0000\u0003\u0000\u0001");
        due("try of two (17, 18), parted by case 0", x.tries(0), 0);
        HungryBench z = town("judge mercy 0 nerve 0;case a grave 99;case a grave 1;case a grave 60");
        tape(z, "\u0001\u0002\u0001\u0000\u0002\u0000");
        due("try of one (59)", z.tries(0), -1);
        tape(z, "\u0001\u0001\u0001\u0000\u0002\u0000");
        due("0 is parted from 1 to 59", z.tries(0), 1);
        HungryBench t = town("judge mercy 0 nerve 0;case a grave 99;case a grave 1;case a grave 2");
        tape(t, "\u0000\u0002\u0000");
        due("0 is parted from 1", t.tries(0), 1);
        tape(x, "\u0000\u0001\u0001");
        due("all alike: the least", x.tries(0), 0);
        x.list(0, 2, 0);
        x.hours(1);
        tape(x, "\u0000\u0001\u0001");
        due("those that wait alone", x.tries(0), 1);
        for (String bad : new String[] {"\u0000", "\u0000\u0000", "\u000c\u0000\u0000", "\u0000\u0003\u0000",
            "\u0000\u0000\u0002", "\u0000\u0000\u00ff", "\u00ff\u0000\u0000"}) {
            tape(x, bad);
            refused("tries", ARGUMENT, () -> x.tries(0));
            due("the tape is used up", x.end(1), false);
        }
        tape(x, "\u0000");
        refused("no such judge", INDEX, () -> x.tries(-1));
        due("the tape is used up", x.end(1), false);
        tape(x, "list 0 0");
        refused("a wrong text", ARGUMENT, x::assize);
        tape(x, "\u0000");
        refused("tries", ARGUMENT, () -> x.tries(0));
        due("fault is of texts", x.fault(), 8);
        // case 0 is freed by 0 and 12 to 60 (50 of 61), case 1 by 0 and 50 to 60 (12 of 61)
        HungryBench m = under("move 99 if hunger < 1", "judge mercy 0 nerve 0;case a grave 12;case a grave 50");
        due("49 is less than 50", m.tries(0), 1);
        HungryBench n = town("judge mercy 10 nerve 0");
        due("try without cases", n.tries(0), -1);
        asksWithTheTape("tries", "", y -> y.tries(2));
    }

    static void p31_moved() throws Exception {
        says("MOVED; NONE.");
        says("MOVED of a JUDGE and a CASE: the least HUNGER (0 to 99) with which he would free it in HOUR; none.");
        HungryBench x = town(BENCH);
        due("moved", x.moved(0, 0), 35);
        due("moved", x.moved(1, 1), 0);
        due("moved", x.moved(2, 3), 90);
        rule(x, "harden 30 if hunger > 34 and hunger < 50;move 9 if hour > 3");
        due("moved by law", x.moved(0, 0), 50);
        x.grave(3, 99);
        due("moved by 99 alone", x.moved(2, 3), 99);
        rule(x, "harden 30 if hunger > 98");
        due("moved none", x.moved(2, 3), -1);
        rule(x, "harden 99 if hunger > 0;harden 99");
        due("moved none", x.moved(0, 0), -1);
        rule(x, "move 50 if hunger < 3");
        due("moved, though not by more", x.moved(0, 0), 0);
        for (int bad : new int[] {-1, 4}) {
            refused("moved", INDEX, () -> x.moved(bad, 0));
            refused("moved", INDEX, () -> x.moved(0, bad));
        }
        asks("moved", y -> y.moved(2, 1));
    }

    static void p32_even() throws Exception {
        says("EVEN; NONE.");
        says("EVEN of a JUDGE and a CASE: the least number (0 to 99) with which in place of GRAVE it would be hanged "
                + "by him in HOUR; none.");
        HungryBench x = town(BENCH);
        due("even", x.even(0, 0), 41);
        due("even", x.even(1, 3), 46);
        rule(x, "move 38");
        due("even 99", x.even(2, 0), 99);
        rule(x, "move 39");
        due("even none", x.even(2, 0), -1);
        rule(x, "harden 50 if grave < 3;move 11 if grave > 2");
        due("even by law", x.even(0, 0), 0);
        rule(x, "move 60 if grave > 2");
        due("even none", x.even(0, 0), -1);
        for (int bad : new int[] {-1, 4}) {
            refused("even", INDEX, () -> x.even(bad, 0));
            refused("even", INDEX, () -> x.even(0, bad));
        }
        asks("even", y -> y.even(2, 1));
    }

    // ---- 33 rather to 38 odds

    /** Circuits pay 0, 17, 34, 11, 28. */
    static void p33_rather() throws Exception {
        says("RATHER, as bits.");
        says("RATHER of a JUDGE and a CIRCUIT: CIRCUITS that he would rather have, as bits.");
        HungryBench x = town(times("judge mercy 1 nerve 1", 5));
        due("rather than 0", x.rather(1, 0), 2 + 4 + 8 + 16);
        due("rather than 2", x.rather(1, 2), 0);
        due("rather than 3", x.rather(1, 3), 2 + 4 + 16);
        HungryBench y = town("judge mercy 1 nerve 1 pay 34;judge mercy 1 nerve 1 pay 18");
        due("rather than 2", y.rather(0, 2), 1);
        due("rather than 0", y.rather(0, 0), 0);
        String four = times("judge mercy 1 nerve 1", 4) + ";judge mercy 1 nerve 1 hunger 9 pay ";
        due("28 and 7: rather than 2", town(four + "7").rather(4, 2), 16);
        refused("no such judge", INDEX, () -> y.rather(2, 0));
        refused("no such circuit", INDEX, () -> y.rather(0, 5));
        refused("no such circuit", INDEX, () -> y.rather(0, -1));
        asks("rather", z -> z.rather(2, 1));
    }

    static void p34_worth() throws Exception {
        says("APPEAL; NONE.");
        says("APPEAL: the CASE hanged or undone, whose WORTH less GRAVE by 10 is the most, and that some JUDGE would "
                + "free in HOUR (of several the least; none).");
        HungryBench x = town("judge mercy 0 nerve 0;judge mercy 1 nerve 0;case a grave 50 worth 6;"
                + "case a grave 30 worth 6;case a grave 31 worth 6;case a grave 99 worth 50;"
                + "list 0 0 0;list 0 1 1;list 0 2 2;list 0 3 3");
        due("none", x.worth(), -1);
        x.hours(4);
        due("all hanged", x.state(2), 15);
        due("none would be freed", x.worth(), -1);
        x.fast(1, 49);
        due("6 less 3, of several the least", x.worth(), 1);
        x.grave(1, 60);
        due("6 less 3", x.worth(), 2);
        x.grave(0, 20);
        due("6 less 2", x.worth(), 0);
        x.appeal(0);
        due("not one that waits", x.worth(), 2);
        x.fast(0, 99);
        due("50 less 9", x.worth(), 3);
        x.grave(1, 50);
        x.grave(2, 49);
        x.appeal(3);
        due("6 less 4", x.worth(), 2);
        HungryBench y = town(TWO + ";inn 0 100");
        y.hours(1);
        due("one undone", y.worth(), 0);
        due("none without judges", town("case a grave 0").worth(), -1);
        HungryBench z = town("judge mercy 50 nerve 9;judge mercy 9 nerve 0;case a grave 40;case a grave 70 worth 99;list 1 0 0;"
                + "list 0 0 1");
        z.hours(1);
        due("hanged by one, freed by the other", z.worth(), 0);
        asks("worth", w -> w.worth());
    }

    static void p35_pairs() throws Exception {
        says("PAIRS: how many (judge NONE), or with whom one is; NONE.");
        says("PAIRS: JUDGES put two by two, each in one such pair at most, so that CASES that wait about which both "
                + "would differ in HOUR (one frees it) are together the most: how many; with whom one is in the first "
                + "such way (JUDGE by JUDGE, none being the least, then the others); none.");
        HungryBench x = town(BENCH);
        due("pairs", x.pairs(-1), 2);
        due("0 and 1", x.pairs(0), 1);
        due("1 and 0", x.pairs(1), 0);
        due("2 alone", x.pairs(2), -1);
        // judges free 0, 1, 2, 3 and 3 of three cases: 0 with 3 and 1 with 4 is the first of those that make 5
        HungryBench y = town("judge mercy 0 nerve 0;judge mercy 10 nerve 0;judge mercy 20 nerve 0;"
                + "judge mercy 30 nerve 0;judge mercy 30 nerve 0;case a grave 10;case a grave 20;case a grave 30");
        due("pairs", y.pairs(-1), 5);
        int[] with = {3, 4, -1, 0, 1};
        for (int j = 0; j < 5; j++) {
            due("with whom " + j, y.pairs(j), with[j]);
        }
        y.fast(0, 30);
        y.fast(1, 20);
        y.fast(2, 10);
        for (int j = 0; j < 5; j++) {
            due("all alike: none", y.pairs(j), -1);
        }
        due("all alike", y.pairs(-1), 0);
        y.feeds(3);
        y.grave(0, 31);
        y.grave(1, 31);
        y.grave(2, 31);
        y.fast(3, 1);
        due("3 alone frees all", y.pairs(-1), 3);
        int[] late = {-1, -1, -1, 4, 3};
        for (int j = 0; j < 5; j++) {
            due("3 alone frees all, the first way: with whom " + j, y.pairs(j), late[j]);
        }
        y.fast(4, 1);
        due("3 and 4 free all", y.pairs(-1), 6);
        int[] both = {-1, 3, 4, 1, 2};
        for (int j = 0; j < 5; j++) {
            due("3 and 4 free all, the first way: with whom " + j, y.pairs(j), both[j]);
        }
        refused("no such judge", INDEX, () -> y.pairs(5));
        refused("no such judge", INDEX, () -> y.pairs(-2));
        HungryBench p = town("judge mercy 50 nerve 0;judge mercy 0 nerve 0;case a grave 10;case a grave 20;list 0 0 0");
        due("two differ", p.pairs(-1), 2);
        p.hours(1);
        due("those that wait alone", p.pairs(-1), 1);
        asks("pairs", z -> z.pairs(-1));
        asks("pairs of one", z -> z.pairs(1));
    }

    static void p36_agree() throws Exception {
        says("AGREE, as bits (all that wait without JUDGES).");
        says("AGREE: CASES that wait that all JUDGES would free in HOUR, as bits.");
        due("agree", town(BENCH).agree(), 2);
        due("agree without judges", town("case a grave 9;case a grave 9").agree(), 3);
        HungryBench f = town(TWO);
        f.hours(1);
        due("those that wait alone", f.agree(), 0);
        f.fast(0, 10);
        due("those that wait alone", f.agree(), 2);
        HungryBench y = town("judge mercy 9 nerve 0;judge mercy 5 nerve 0;case a grave 6;case a grave 99;case a grave 5");
        due("not one that all would hang, nor one that is split", y.agree(), 4);
        asks("agree", z -> z.agree());
    }

    static void p37_rests() throws Exception {
        says("RESTS, as bits.");
        says("RESTS of a JUDGE and a cook: he sits (0) or dines (1), unseen, the cook bakes (0) or not (1): sitting "
                + "with baking he has HUNGER by 10, rounded down, less 3, the cook 0 less 1; sitting without he has "
                + "HUNGER by 10, the cook 0; dining with baking he has 4, the cook NERVE; dining without he has 0 less "
                + "2, the cook 0: choices (2 times his and the cook's) from which neither would have more by its other "
                + "one: as bits.");
        HungryBench x = town("judge mercy 0 nerve 2;judge mercy 0 nerve 0");
        due("rests", x.rests(0), 6);
        x.fast(0, 79);
        due("79 by 10 is 7, and 3 less as much as 4", x.rests(0), 6);
        x.fast(0, 80);
        due("he would rather sit", x.rests(0), 2);
        due("a cook without anything to gain bakes or not", x.rests(1), 6);
        refused("no such judge", INDEX, () -> x.rests(2));
        refused("no such judge", INDEX, () -> x.rests(-1));
        asks("rests", z -> z.rests(1));
    }

    static void p38_odds() throws Exception {
        says("ODDS. IllegalArgumentException: N is none.");
        says("ODDS of a JUDGE and N HOURS (0 to 4) from HOUR on: that no crumbs come to him in any of these, each by "
                + "INN of that HOUR (modulo 12) and 10 times NERVE less (0 at least), in 10000, rounded down each time.");
        HungryBench x = town("judge mercy 0 nerve 2;judge mercy 0 nerve 0;inn 11 50;inn 0 33;inn 1 34;inn 2 100;"
                + "hour 11");
        due("odds of no hours", x.odds(1, 0), 10000);
        due("odds", x.odds(1, 1), 5000);
        due("odds", x.odds(1, 2), 3350);
        due("odds", x.odds(1, 3), 2211);
        due("odds", x.odds(1, 4), 0);
        due("odds where nobody bakes", town("judge mercy 0 nerve 9;inn 0 89").odds(0, 4), 10000);
        due("odds of nerve", x.odds(0, 1), 7000);
        due("odds of nerve", x.odds(0, 2), 6090);
        due("odds of nerve, rounded down", x.odds(0, 3), 5237);
        due("odds of nerve, rounded down", x.odds(0, 4), 1047);
        tape(x, "crumb 50");
        x.law();
        due("by the inn alone", x.odds(1, 1), 5000);
        refused("no such judge", INDEX, () -> x.odds(2, 5));
        refused("5 hours", ARGUMENT, () -> x.odds(0, 5));
        refused("-1 hours", ARGUMENT, () -> x.odds(0, -1));
        asks("odds", z -> z.odds(2, 4));
    }

    // ---- 39 hungriest to 43 twins

    static void p39_hungriest() throws Exception {
        says("HUNGRIEST; NONE.");
        says("HUNGRIEST: the JUDGE of the most HUNGER (of several the least; none).");
        HungryBench x = town(BENCH);
        due("hungriest", x.hungriest(), 2);
        due("hungriest, the first", town("judge mercy 0 nerve 0 hunger 9;judge mercy 0 nerve 0 hunger 8;"
                + "judge mercy 0 nerve 0 hunger 9").hungriest(), 0);
        x.fast(1, 60);
        due("of several the least", x.hungriest(), 1);
        due("none", new HungryBench().hungriest(), -1);
        asks("hungriest", z -> z.hungriest());
    }

    static void p40_gravest() throws Exception {
        says("GRAVEST; NONE.");
        says("GRAVEST: the CASE that waits of the most GRAVE (of several the least; none).");
        HungryBench x = town(BENCH);
        due("gravest", x.gravest(), 3);
        x.grave(3, 45);
        due("of several the least", x.gravest(), 0);
        x.inn(3, 0);
        x.hours(1);
        due("gravest of those that wait", x.gravest(), 3);
        due("none", twoHeard().gravest(), -1);
        asks("gravest", z -> z.gravest());
    }

    static void p41_kind() throws Exception {
        says("OF A KIND, as bits.");
        HungryBench x = town(BENCH);
        due("kind a", x.kind(0), 5);
        due("kind b", x.kind(1), 2);
        due("kind c", x.kind(2), 0);
        due("kind f", x.kind(5), 8);
        refused("kind 6", INDEX, () -> x.kind(6));
        refused("kind -1", INDEX, () -> x.kind(-1));
        due("those found, too", twoHeard().kind(1), 2);
        asks("kind", z -> z.kind(0));
    }

    static void p42_state() throws Exception {
        says("IN A STATE, as bits. IllegalArgumentException: there is none (0 to 3).");
        says("IN A STATE: CASES in it, as bits.");
        HungryBench x = town(BENCH);
        x.inn(3, 0);
        x.hours(1);
        due("waiting", x.state(0), 10);
        due("freed", x.state(1), 4);
        due("hanged", x.state(2), 1);
        due("undone", x.state(3), 0);
        refused("state 4", ARGUMENT, () -> x.state(4));
        refused("state -1", ARGUMENT, () -> x.state(-1));
        asks("state", z -> z.state(3));
    }

    static void p43_twins() throws Exception {
        says("TWINS.");
        says("TWINS: pairs of CASES of like KIND and GRAVE: how many.");
        HungryBench x = town(BENCH);
        due("twins, of other worth and leaning", x.twins(), 1);
        x.inn(3, 0);
        x.hours(1);
        due("twins, waiting or not", x.twins(), 1);
        due("three alike are three pairs",
                town("case a grave 1;case a grave 1;case a grave 1;case b grave 1;case b grave 2").twins(), 3);
        due("four alike are six", town(times("case c grave 7", 4)).twins(), 6);
        asks("twins", z -> z.twins());
    }

    // ---- 44 ahead to 46 span

    static void p44_ahead() throws Exception {
        says("AHEAD of a CASE by N HOURS: the STATE. IllegalArgumentException: N is none.");
        says("AHEAD by N HOURS (0 to 48): as so many HOURS in which nobody has crumbs (no DRAWS).");
        HungryBench x = town(TWO + ";inn 0 38;inn 1 59;inn 2 0");
        due("ahead 0", x.ahead(0, 0), 0);
        due("ahead 1", x.ahead(0, 1), 1);
        due("ahead 2: nobody has crumbs", x.ahead(0, 2), 1);
        due("ahead 2", x.ahead(1, 2), 2);
        due("ahead 48", x.ahead(1, 48), 2);
        refused("no such case", INDEX, () -> x.ahead(2, 49));
        for (int bad : new int[] {-1, 49, Integer.MAX_VALUE}) {
            refused("ahead", ARGUMENT, () -> x.ahead(0, bad));
        }
        HungryBench z = twoHeard();
        due("ahead of what is now, asked first", z.ahead(0, 0), 1);
        due("ahead of what is now", x.ahead(0, 0), 0);
        HungryBench y = town(TWO + ";inn 0 100");
        y.hours(1);
        due("one undone is undone then", y.ahead(0, 0), 3);
        due("one undone is undone then", y.ahead(0, 48), 3);
        tell(y, "case c grave 60");
        y.list(0, 1, 2);
        tell(y, "hour 2");
        due("in hour 1 of the next day: not by 11 hours", y.ahead(2, 11), 0);
        due("but by 12: 11 of hunger and 50, of 60", y.ahead(2, 12), 1);
        asks("ahead", w -> w.ahead(4, 48));
    }

    static void p44_overTheDays() throws Exception {
        says("AHEAD by N HOURS (0 to 48): as so many HOURS in which nobody has crumbs (no DRAWS).");
        HungryBench x = under("harden 99 if hunger < 47", "judge mercy 50 nerve 0 hunger 1;case a grave 10;hour 11");
        x.list(0, 10, 0);
        due("in hour 10 of the next day: hanged by 12", x.ahead(0, 12), 2);
        x.fast(0, 34);
        due("hanged by 45", x.ahead(0, 12), 2);
        x.fast(0, 36);
        due("freed by 47", x.ahead(0, 12), 1);
        due("not yet", x.ahead(0, 11), 0);
    }

    static void p45_trial() throws Exception {
        says("TRIAL: CASES freed (undone false), or undone, as bits. IllegalArgumentException: N is none.");
        says("TRIAL of N HOURS (0 to 48) from now (draws, too; nothing stays): CASES freed then, as bits; undone "
                + "then, as bits.");
        HungryBench x = town(TWO + ";inn 0 38;inn 1 59;inn 2 0");
        due("trial 0", x.trial(0, false), 0);
        due("trial 1", x.trial(1, false), 1);
        due("trial 1", x.trial(1, true), 0);
        due("trial 2", x.trial(2, false), 0);
        due("trial 2", x.trial(2, true), 3);
        due("nothing stays", x.count(6), 3);
        due("no seed is drawn", x.seed(1), 1);
        due("no rows", x.count(9), 0);
        due("no acts", x.count(10), 0);
        for (int bad : new int[] {-1, 49, Integer.MAX_VALUE}) {
            refused("trial", ARGUMENT, () -> x.trial(bad, false));
        }
        x.hours(1);
        due("those that were freed are freed then", x.trial(0, false), 1);
        x.hours(1);
        due("those that were undone are undone then", x.trial(5, true), 3);
        x.seed(2);
        x.appeal(0);
        tell(x, "hour 0");
        due("from the seed that is now: 8 is below 38", x.trial(1, true), 3);
        x.seed(3);
        due("47 is not", x.trial(1, false), 1);
        asks("trial", z -> z.trial(48, false));
        asks("trial", z -> z.trial(48, true));
    }

    static void p46_span() throws Exception {
        says("SPAN: the least (most false), or the greatest. IllegalArgumentException: N is none (0 to 48).");
        says("SPAN: the least and the greatest WORTH of CASES freed together so from SEED 1, 2, .. 6.");
        HungryBench x = town(TWO + ";inn 0 38;inn 1 59;inn 2 0");
        // first draws of seeds 1 to 6 modulo 100: 38, 8, 47, 17, 55, 26: crumbs of 38 come from 2, 4 and 6
        due("span 0", x.span(0, true), 0);
        due("span 1, least", x.span(1, false), 0);
        due("span 1, greatest", x.span(1, true), 3);
        x.inn(0, 0);
        due("span 1, never undone", x.span(1, false), 3);
        x.inn(0, 9);
        due("undone from seed 2 alone", x.span(1, false), 0);
        x.inn(0, 8);
        due("and from none", x.span(1, false), 3);
        due("seed stays", x.seed(1), 1);
        for (int bad : new int[] {-1, 49, Integer.MAX_VALUE}) {
            refused("span", ARGUMENT, () -> x.span(bad, true));
        }
        // third draws of seeds 1 to 6: 13, 39, 65, 91, 16, 42; ninth: 12, 2, 92, 82, 72, 95; tenth: 86, .. 83 at most
        due("undone from seed 1 alone", town(TWO + ";inn 2 14").span(3, false), 0);
        due("freed from the others", town(TWO + ";inn 2 14").span(3, true), 3);
        due("undone from none", town(TWO + ";inn 2 13").span(3, false), 3);
        due("freed from seed 6 alone", town(TWO + ";inn 8 95").span(9, true), 3);
        due("freed from none", town(TWO + ";inn 8 96").span(9, true), 0);
        due("freed from seed 1 alone", town(TWO + ";inn 9 86").span(10, true), 3);
        due("freed from none", town(TWO + ";inn 9 87").span(10, true), 0);
        HungryBench d = twoDays();
        due("those freed now, too: 2, 4 and 8", d.span(0, false), 14);
        asks("span", z -> z.span(48, false));
        asks("span", z -> z.span(48, true));
    }

    // ---- 47 led to 49 seed

    static void p47_led() throws Exception {
        says("LED: how many rows (day false), or the DAY; NONE.");
        says("LED: how many rows of THE LOG are of a CASE; the DAY of the latest (none).");
        HungryBench x = town("judge mercy 0 nerve 0;case a grave 99;case a grave 99;list 0 0 0;list 0 1 1;day 7");
        due("led none", x.led(0, false), 0);
        due("led no day", x.led(0, true), -1);
        x.hours(2);
        due("led 1", x.led(1, false), 1);
        due("led 1, day", x.led(1, true), 7);
        HungryBench y = twoDays();
        due("found on day 0", y.led(1, true), 0);
        y.inn(1, 100);
        y.hours(1);
        due("found, and undone", y.led(1, false), 2);
        due("undone on day 1", y.led(1, true), 1);
        due("the case is of day 0 still", y.cause(1, 6), 0);
        y.appeal(1);
        due("an appeal is no row", y.led(1, false), 2);
        due("of one that waits", y.led(1, true), 1);
        refused("no such case", INDEX, () -> x.led(2, false));
        refused("no such case", INDEX, () -> x.led(-1, true));
        asks("led", z -> z.led(3, false));
        asks("led, day", z -> z.led(3, true));
    }

    static void p48_log() throws Exception {
        says("THE LOG so many ago (0 the latest) what 0 DAY, 1 HOUR, 2 the CASE, 3 0 to 2, 4 the JUDGE, 5 POINT; - "
                + "1000 without. NoSuchElementException: another what.");
        says("THE LOG: the latest 60 CASES freed (0), hanged (1), undone (2): DAY, HOUR (ahead of its being 1 more), "
                + "the CASE, 0 to 2, the JUDGE (of undone ones: whose crumbs), POINT (of undone ones 0).");
        HungryBench x = town("judge mercy 0 nerve 0;case a grave 99;case a grave 99;list 0 0 0;list 0 1 1;day 7");
        due("led none", x.led(0, false), 0);
        due("led no day", x.led(0, true), -1);
        due("log without", x.log(0, 5), -1000);
        refused("another what", ELEMENT, () -> x.log(0, 6));
        refused("another what", ELEMENT, () -> x.log(99, -1));
        for (int n = 0; n < 61; n++) {
            x.list(0, x.count(4), n == 0 ? 1 : 0);
            x.hours(1);
            x.appeal(n == 0 ? 1 : 0);
            if (n == 0) {
                due("led 1", x.led(1, false), 1);
                due("led 1, day", x.led(1, true), 7);
            }
        }
        due("60 rows", x.count(9), 60);
        due("the oldest is gone", x.led(1, false), 0);
        due("led", x.led(0, false), 60);
        due("led, day", x.led(0, true), 12);
        due("the latest's day", x.log(0, 0), 12);
        due("the latest's hour", x.log(0, 1), 0);
        due("the latest's point", x.log(0, 5), 60 - 99);
        due("the oldest's hour", x.log(59, 1), 1);
        due("the oldest's day", x.log(59, 0), 7);
        due("behind the oldest", x.log(60, 0), -1000);
        due("ahead of the latest", x.log(-1, 0), -1000);
        x.image();
        x.list(0, x.count(4), 1);
        x.hours(1);
        due("one more row", x.led(1, false), 1);
        due("the oldest is gone", x.log(59, 1), 2);
        due("trial, for nothing", x.trial(40, false), 0);
        x.undo();
        due("undone: the oldest is back", x.log(59, 1), 1);
        due("undone: the oldest's case", x.log(59, 2), 0);
        due("undone: the latest, too", x.log(0, 2), 0);
        x.hours(1);
        due("heard again", x.led(1, false), 1);
        due("the oldest is gone again", x.log(59, 1), 2);
        x.back();
        due("back: the oldest is back", x.log(59, 1), 1);
        due("back: the oldest's case", x.log(59, 2), 0);
        due("back: the latest, too", x.log(0, 5), 60 - 99);
        asks("log", z -> z.log(3, 5));
        asks("log without", z -> z.log(4, 5));
    }

    static void p49_seed() throws Exception {
        says("SEED: what it was.");
        HungryBench x = town(BENCH);
        due("seed", x.seed(-77), 1);
        due("seed", x.seed(Integer.MIN_VALUE), -77);
        due("a seed is no act", x.count(10), 0);
        due("undo nothing", x.undo(), false);
        changes("seed", y -> y.seed(9), "now, seed: 9");
        asks("seed as it was", y -> y.seed(-1778682749));
    }

    // ---- 50 undo to 53 count

    static void p50_undo() throws Exception {
        says("UNDONE: whether there was one.");
        says("UNDONE: the latest ACT not undone yet (12 are remembered; HOURS of one call are one): all is as ahead "
                + "of it (but for the TAPE, fault(), THE IMAGE). A text, going back: none are remembered.");
        HungryBench x = town(BENCH);
        x.seed(Integer.MIN_VALUE);
        x.feeds(0);
        x.fast(1, 50);
        x.inn(3, 0);
        x.grave(0, 0);
        x.list(2, 5, 3);
        x.strike(1, 3);
        x.seed(1);
        x.hours(13);
        x.appeal(3);
        due("acts", x.count(10), 8);
        due("undo appeal", x.undo(), true);
        due("hanged again", x.cause(3, 4), 2);
        due("by him", x.cause(3, 5), 2);
        due("on that day", x.cause(3, 6), 2);
        due("in the log", x.log(0, 4), 2);
        x.seed(9);
        due("undo hours", x.undo(), true);
        due("hours of one call are one", x.count(4), 3);
        due("day", x.count(5), 2);
        due("rows", x.count(9), 0);
        due("by none", x.cause(3, 5), -1);
        due("on no day", x.cause(3, 6), -1);
        due("hunger of all", x.count(8), 110);
        due("seed as ahead of it", x.seed(1), 1);
        due("list as ahead of it", x.listed(0, 3), 0);
        x.undo();
        due("strike undone", x.listed(1, 3), 2);
        x.undo();
        due("list undone", x.listed(2, 5), -1);
        due("seed as ahead of that", x.seed(1), Integer.MIN_VALUE);
        x.undo();
        due("grave undone", x.cause(0, 1), 45);
        x.undo();
        due("inn undone", x.smell(3), 60);
        x.undo();
        due("fast undone", x.judge(1, 0), 5);
        x.undo();
        due("feeds undone", x.judge(0, 0), 30);
        due("none left", x.undo(), false);
        for (int n = 0; n < 15; n++) {
            x.inn(0, n);
        }
        due("12 are remembered", x.count(10), 12);
        for (int n = 0; n < 12; n++) {
            due("undo", x.undo(), true);
        }
        due("as ahead of the 12th", x.smell(0), 2);
        due("no more", x.undo(), false);
        x.inn(0, 2);
        due("an act that changes nothing", x.count(10), 1);
        tape(x, "bad");
        refused("a wrong text", ARGUMENT, x::assize);
        due("is nothing", x.count(10), 1);
        due("fault stays", x.fault(), 0);
        tape(x, "day 1");
        due("undo leaves the tape", x.undo(), true);
        due("fault stays", x.fault(), 0);
        x.assize();
        due("the tape was there", x.count(5), 1);
        x.inn(0, 1);
        tape(x, "");
        x.assize();
        due("none are remembered behind a text", x.count(10), 0);
        x.inn(0, 1);
        tape(x, "");
        x.law();
        due("none are remembered behind a law", x.undo(), false);
        HungryBench none = town(BENCH);
        none.inn(3, 9);
        none.undo();
        due("none", none.undo(), false);
        alike("behind undo of none", look(none), look(town(BENCH)));
        changes("undo", y -> y.undo(), "now, count 7: 13", "now, count 10: 3", "judge 2 7: 4093", "listed 2 5: -1",
                "cause 4 7: -1", "cause 4 8: -1", "cause 4 11: -1");
    }

    static void p51_image() throws Exception {
        says("`void image()`: THE IMAGE is kept.");
        HungryBench x = town(TWO);
        x.hours(1);
        x.image();
        x.hours(1);
        due("back", x.back(), true);
        due("hour of the image", x.count(4), 1);
        changes("image", y -> y.image());
        HungryBench y = standing();
        y.image();
        tell(y, "judge mercy 1 nerve 1;day 3");
        y.back();
        HungryBench z = standing();
        tape(z, "");
        z.law();
        rule(z, "move 3 if late;harden 2 if kind > 3;crumb 1 if late and leaning");
        alike("kept", around(y), around(z));
    }

    static void p50_twelveThoughMuchElseIsCalled() throws Exception {
        says("the latest ACT not undone yet (12 are remembered; HOURS of one call are one)");
        HungryBench x = town(TWO);
        for (int n = 1; n <= 12; n++) {
            x.inn(0, n);
        }
        x.image();
        x.seed(5);
        x.trial(48, true);
        x.span(48, true);
        x.ahead(0, 48);
        x.saved(true);
        tape(x, "\u0000\u0000\u0001");
        x.tries(0);
        refused("a list of none", INDEX, () -> x.list(0, 0, 2));
        wrongAssize(x, "day", 3);
        due("twelve", x.count(10), 12);
        for (int n = 11; n >= 0; n--) {
            due("undo", x.undo(), true);
            due("inn", x.smell(0), n);
        }
    }

    static void p51_keptWhateverIsAsked() throws Exception {
        says("THE IMAGE (one) of all may be kept, and gone back to (but for the TAPE, fault() and THE IMAGE itself).");
        Use[] asked = {x -> x.judge(1, 8), x -> x.cause(1, 12), x -> x.listed(2, 5), x -> x.smell(7), x -> x.point(1, 2, 3),
            x -> x.state(1), x -> x.log(1, 2), x -> x.count(1), x -> x.seed(1), x -> x.fault()};
        for (int i = 0; i < asked.length; i++) {
            HungryBench x = standing();
            asked[i].on(x);
            due("case 1 leans on case 0, behind " + i, x.cause(1, 3), 0);
            due("back behind " + i, x.back(), true);
            due("hour of the image behind " + i, x.count(4), 0);
            due("law of the image behind " + i, x.count(3), 3);
        }
    }

    static void p52_back() throws Exception {
        says("One goes back to THE IMAGE: true; false, and nothing happens, if none was kept.");
        HungryBench x = under("move 5", TWO + ";inn 0 38;inn 1 59");
        x.feeds(0);
        due("no image", x.back(), false);
        due("nothing happens", x.count(10), 1);
        x.hours(1);
        x.image();
        due("an image is no act", x.count(10), 2);
        x.undo();
        due("undone ahead of the image", x.count(4), 0);
        due("back", x.back(), true);
        due("hour of the image", x.count(4), 1);
        due("none are remembered", x.count(10), 0);
        due("seed of the image", x.seed(4), 1103527590);
        due("rows of the image", x.count(9), 1);
        tape(x, "judge mercy 1 nerve 1;day 5;inn 5 5");
        x.assize();
        tape(x, "move 1;move 2;move 3");
        x.law();
        x.hours(20);
        tape(x, "bad");
        refused("a wrong text", ARGUMENT, x::law);
        tape(x, "day 3");
        due("back again", x.back(), true);
        due("judges", x.count(0), 1);
        due("texts", x.count(2), 1);
        due("law", x.count(3), 1);
        due("point by the law of the image", x.point(0, 1, 0), 1 + 50 + 5 - 60);
        due("day", x.count(5), 0);
        due("inn", x.smell(5), 0);
        due("freed", x.state(1), 1);
        due("seed", x.seed(1103527590), 1103527590);
        due("fault stays", x.fault(), 0);
        due("the tape stays", x.assize(), 2);
        due("day told", x.count(5), 3);
        x.image();
        x.hours(1);
        x.back();
        due("the newer image", x.count(5), 3);
        due("again and again", x.back(), true);
        HungryBench y = new HungryBench();
        y.image();
        tape(y, "move 1");
        y.law();
        y.back();
        due("no law in the image", y.count(3), -1);
    }

    static void p53_count() throws Exception {
        says("0 JUDGES, 1 CASES, 2 texts of THE ASSIZE, 3 LINES of THE LAW (NONE without one), 4 HOUR, 5 DAY, 6 CASES "
                + "that wait, as bits, 7 CASES in THE LIST, as bits, 8 HUNGER of all together, 9 rows of THE LOG, 10 "
                + "acts that can be UNDONE. NONE for another what.");
        HungryBench x = under("move 1", BENCH);
        int[] want = {3, 4, 1, 1, 3, 2, 15, 7, 95, 0, 0};
        for (int what = 0; what < want.length; what++) {
            due("count " + what, x.count(what), want[what]);
        }
        due("another what", x.count(11), -1);
        due("another what", x.count(-1), -1);
        x.inn(3, 0);
        x.hours(1);
        int[] then = {3, 4, 1, 1, 4, 2, 10, 7, 98, 2, 2};
        for (int what = 0; what < then.length; what++) {
            due("count " + what, x.count(what), then[what]);
        }
        for (int what = -1; what <= 11; what++) {
            int asked = what;
            asks("count " + what, y -> y.count(asked));
        }
    }
}
