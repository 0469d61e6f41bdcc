/** Each promise of DOC.md by runs made by hand; the answers that are due were worked out on paper. */
public final class PromiseTest extends Check {
    /** Points in hour 3, judge by judge: 40, 45 and 60 less how grave a case is. */
    private static final String BENCH = "judge mercy 10 nerve 2 hunger 30 pay 50;judge mercy 40 nerve 0 hunger 5;"
            + "judge mercy 0 nerve 5 hunger 60 pay 3;case a grave 45 worth 8;case b grave 30 worth 5 on 0;"
            + "case a grave 45 worth 9 on 1;case f grave 90 worth 20;list 0 3 0;list 0 4 1;list 1 3 2;inn 3 60;"
            + "hour 3;day 2";

    /** One judge who frees case 0 in hour 0 (point 40) and hangs case 1 in hour 1 (point -9). */
    private static final String TWO = "judge mercy 50 nerve 0;case a grave 10 worth 3;case b grave 60 worth 4 on 0;"
            + "list 0 0 0;list 0 1 1";

    private PromiseTest() {
    }

    private static void badAssize(String text, int fault) {
        HungryBench x = town("judge mercy 1 nerve 1;case a grave 1");
        tape(x, text);
        refused("assize of '" + text + "'", ARGUMENT, x::assize);
        due("fault of '" + text + "'", x.fault(), fault);
        due("judges behind '" + text + "'", x.count(0), 1);
        due("cases behind '" + text + "'", x.count(1), 1);
        due("texts behind '" + text + "'", x.count(2), 1);
    }

    private static void badLaw(String text, int fault) {
        HungryBench x = under("move 1;move 2");
        tape(x, text);
        refused("law of '" + text + "'", ARGUMENT, x::law);
        due("fault of '" + text + "'", x.fault(), fault);
        due("lines behind '" + text + "'", x.count(3), 2);
    }

    /** Whether a condition holds for judge 0, case and hour of a town: the point is 1 more. */
    private static void holds(HungryBench x, String condition, int cause, int hour, boolean want) {
        tape(x, "");
        x.law();
        int without = x.point(0, cause, hour);
        tape(x, "move 1 if " + condition);
        x.law();
        due(condition + " for case " + cause + " in hour " + hour, x.point(0, cause, hour) - without, want ? 1 : 0);
    }

    public static void main(String[] args) {
        newObject();
        tapes();
        assizeTexts();
        assizeFaults();
        lawTexts();
        lawFaults();
        judges();
        causes();
        places();
        points();
        hoursGoOn();
        crumbsCome();
        acts();
        actsRefused();
        earlyAndSplit();
        savedAndNeeded();
        crumblesAndWorst();
        leaning();
        mealsAndTries();
        movedAndEven();
        circuits();
        appealsWorth();
        pairsAndAgree();
        restsAndOdds();
        sets();
        aheadTrialSpan();
        logs();
        undone();
        images();
        counts();
        end("PromiseTest");
    }

    private static void newObject() {
        label = "1 new";
        HungryBench x = new HungryBench();
        due("NONE", HungryBench.NONE, -1);
        for (int what = 0; what <= 10; what++) {
            due("count " + what, x.count(what), what == 3 ? -1 : 0);
        }
        due("fault", x.fault(), -1);
        due("hungriest", x.hungriest(), -1);
        due("gravest", x.gravest(), -1);
        due("worst", x.worst(), -1);
        due("worth", x.worth(), -1);
        due("saved", x.saved(false), 0);
        due("saved worth", x.saved(true), 0);
        due("needed", x.needed(), 0);
        due("deep", x.deep(), 0);
        due("roots", x.roots(), 0);
        due("twins", x.twins(), 0);
        due("agree", x.agree(), 0);
        due("pairs", x.pairs(-1), 0);
        due("kind", x.kind(0), 0);
        due("state", x.state(0), 0);
        due("smell", x.smell(11), 0);
        due("trial", x.trial(48, false), 0);
        due("span", x.span(48, true), 0);
        due("log", x.log(0, 0), -1000);
        due("undo", x.undo(), false);
        due("back", x.back(), false);
        due("seed", x.seed(5), 1);
        refused("judge 0", INDEX, () -> x.judge(0, 0));
        refused("cause 0", INDEX, () -> x.cause(0, 0));
    }

    private static void tapes() {
        label = "2 feed, 3 end";
        HungryBench x = new HungryBench();
        for (int n = 20; n <= 400; n += 20) {
            due("feed", x.feed(0x64617920, 0x37202020, 0x20202020, 0x20202020, 0x20202020), n);
        }
        due("feed beyond", x.feed(0, 0, 0, 0, 0), -1);
        due("end beyond", x.end(401), false);
        due("end below", x.end(-1), false);
        due("end least", x.end(Integer.MIN_VALUE), false);
        due("end at its length", x.end(400), true);
        due("end 381", x.end(381), true);
        due("feed beyond by one", x.feed(0, 0, 0, 0, 0), -1);
        due("end 380", x.end(380), true);
        due("feed to the brim", x.feed(0, 0, 0, 0, 0), 400);
        due("end 5", x.end(5), true);
        due("end 6", x.end(6), false);
        due("assize of 'day 7'", x.assize(), 1);
        due("day", x.count(5), 7);
        due("the tape is used up", x.end(1), false);
        due("end 0", x.end(0), true);
        due("highest byte first", x.feed(0x64617920, 0x39ffffff, -1, -1, -1), 20);
        x.end(5);
        x.assize();
        due("day", x.count(5), 9);
        x.feed(0x64617920, 0x31313131, 0x31313131, 0, 0);
        x.end(5);
        x.assize();
        due("its first bytes alone", x.count(5), 1);
        x.feed(0x64617920, 0x39393939, 0x39393939, 0, 0);
        x.end(4);
        refused("no number among its first bytes", ARGUMENT, x::assize);
        due("fault", x.fault(), 4);
        tape(x, "day x");
        refused("a wrong text", ARGUMENT, x::assize);
        due("the tape is used up by a wrong text", x.end(1), false);
        for (int n = 0; n < 20; n++) {
            x.feed(0x28282828, 0x28282828, 0x28282828, 0x28282828, 0x28282828);
        }
        refused("400 things", ARGUMENT, x::law);
        due("fault", x.fault(), 0);
        for (int n = 0; n < 20; n++) {
            x.feed(0x20202020, 0x20202020, 0x20202020, 0x20202020, 0x20202020);
        }
        due("400 blanks", x.law(), 0);
        String brimful = "move 9 if 1" + "+1".repeat(193) + ">1";
        tape(x, brimful.substring(0, 397) + ">19");
        due("a law of 400 bytes", x.law(), 1);
        tape(x, "tax");
        refused("a wrong law", ARGUMENT, x::law);
        due("the tape is used up by a wrong law", x.end(1), false);
    }

    private static void assizeTexts() {
        label = "4 assize";
        HungryBench x = town("  judge mercy 007nerve 9hunger 99 pay 99 ;case f grave 0 on 0".substring(0, 41));
        due("mercy", x.judge(0, 1), 7);
        due("nerve", x.judge(0, 2), 9);
        due("hunger", x.judge(0, 0), 99);
        due("pay", x.judge(0, 3), 99);
        tape(x, "judge mercy 3 nerve 0;judge mercy 99 nerve 1 pay 4");
        due("texts", x.assize(), 2);
        due("fault", x.fault(), -1);
        due("hunger at first", x.judge(1, 0), 0);
        due("pay at first", x.judge(1, 3), 0);
        due("pay without hunger", x.judge(2, 3), 4);
        tape(x, "case c grave 99;case a grave 5 on 0;case b grave 6 worth 0;case b grave 6 worth 99 on 2");
        due("texts", x.assize(), 3);
        due("kind", x.cause(0, 0), 2);
        due("worth at first", x.cause(0, 2), 1);
        due("leans at first", x.cause(0, 3), -1);
        due("leans", x.cause(1, 3), 0);
        due("worth 0", x.cause(2, 2), 0);
        due("worth 99", x.cause(3, 2), 99);
        due("leans on 2", x.cause(3, 3), 2);
        tape(x, "list 0 0 0;list 2 11 1;list 0 0 2;list 1 0 0");
        x.assize();
        due("what stood there stands nowhere, and may stand again", x.listed(1, 0), 0);
        due("in the list", x.count(7), 7);
        due("in its place", x.listed(0, 0), 2);
        due("last place", x.listed(2, 11), 1);
        tape(x, "inn 11 100;inn 0 0;hour 11;day 999");
        x.assize();
        due("inn", x.smell(11), 100);
        due("hour", x.count(4), 11);
        due("day", x.count(5), 999);
        tape(x, "    ");
        due("blanks alone", x.assize(), 6);
        tape(x, "");
        due("empty", x.assize(), 7);
        tape(x, times("day 1", 14));
        due("14 lines", x.assize(), 8);
        due("day", x.count(5), 1);
        for (int n = 9; n <= 12; n++) {
            due("text " + n, x.assize(), n);
        }
        tape(x, "day 5");
        refused("a 13th", UNSUPPORTED, x::assize);
        due("fault of one that is refused", x.fault(), -1);
        due("day stays", x.count(5), 1);
        tape(x, "day q");
        refused("a wrong 13th", ARGUMENT, x::assize);
        due("fault of a wrong 13th", x.fault(), 4);
        due("texts", x.count(2), 12);
        due("the tape is used up", x.end(1), false);
        HungryBench y = town(TWO);
        y.hours(1);
        tape(y, "list 0 5 0");
        refused("a case that stands still", ARGUMENT, y::assize);
        y.strike(0, 0);
        tape(y, "list 0 5 0");
        due("a case that does not wait may be told", y.assize(), 2);
        due("it stands", y.listed(0, 5), 0);
    }

    private static void assizeFaults() {
        label = "4 assize, 6 fault";
        badAssize("bench", 0);
        badAssize("dayz 1", 0);
        badAssize("aday 1", 0);
        badAssize("list", 4);
        badAssize("list 0", 6);
        badAssize("inn", 3);
        badAssize("  bench", 2);
        badAssize("judges", 0);
        badAssize("Judge mercy 1 nerve 1", 0);
        badAssize("judge", 5);
        badAssize("judge  ", 7);
        badAssize("judge nerve 1", 6);
        badAssize("judge mercy", 11);
        badAssize("judge mercy x", 12);
        badAssize("judge mercy 100", 12);
        badAssize("judge mercy 0001", 12);
        badAssize("judge mercy 1", 13);
        badAssize("judge mercy 1 nerve 10", 20);
        badAssize("judge mercy 1 nerve 1 hunger 100", 29);
        badAssize("judge mercy 1 nerve 1 pay 100", 26);
        badAssize("judge mercy 1 nerve 1 pay 1 hunger 1", 28);
        badAssize("judge mercy 1 nerve 1 1", 22);
        badAssize("judge mercy 1 nerve 1x", 21);
        badAssize("judge mercy 1 nerve 1;", 22);
        badAssize("judge mercy 1 nerve 1; ", 23);
        badAssize("judge mercy 1 nerve 1;;", 22);
        badAssize(";", 0);
        badAssize("case", 4);
        badAssize("case g", 5);
        badAssize("case ab", 5);
        badAssize("case 1", 5);
        badAssize("case a", 6);
        badAssize("case a worth 1", 7);
        badAssize("case a grave 100", 13);
        badAssize("case a grave 1 worth 100", 21);
        badAssize("case a grave 1 on 1", 18);
        badAssize("case a grave 1 on 0 worth 1", 20);
        badAssize("case a grave 1 on", 17);
        badAssize("case a grave 1 on x", 18);
        badAssize("list 1 0 0", 5);
        badAssize("list 0 12 0", 7);
        badAssize("list 0 0 1", 9);
        badAssize("list 0 0", 8);
        badAssize("list 0 0 0;list 0 0 0", 20);
        badAssize("list 0 0 0;list 0 1 0", 20);
        badAssize("inn 12 1", 4);
        badAssize("inn 0 101", 6);
        badAssize("inn 0", 5);
        badAssize("hour 12", 5);
        badAssize("hour", 4);
        badAssize("day 1000", 4);
        badAssize("day 1 day 2", 6);
        badAssize("day\t1", 3);
        badAssize("day 1.", 5);
        badAssize("day \u00e9", 4);
        badAssize("\u0000", 0);
        badAssize(times("judge mercy 1 nerve 1", 5), 88);
        badAssize(times("case a grave 1", 8), 105);
        badAssize(times("day 1", 15), 84);
        badAssize(times("day 1", 14) + ";", 84);
        badAssize(times("day 1", 14) + "; ", 85);
        badAssize(times("day 1", 14) + ";  )", 86);
        HungryBench x = town("day 1");
        due("fault of a right one", x.fault(), -1);
        tape(x, "day 2;day");
        refused("cut", ARGUMENT, x::assize);
        due("of a wrong text nothing stays", x.count(5), 1);
        tape(x, "move 3");
        x.law();
        due("fault of the latest", x.fault(), -1);
    }

    private static void lawTexts() {
        label = "5 law";
        HungryBench x = town("judge mercy 10 nerve 3 hunger 20;judge mercy 0 nerve 0;case c grave 5 worth 7;"
                + "case a grave 50 on 0;case b grave 2 on 1");
        due("lines without a law", x.count(3), -1);
        due("point without a law", x.point(0, 0, 0), 25);
        tape(x, "");
        due("an empty law", x.law(), 0);
        due("lines", x.count(3), 0);
        tape(x, "  ");
        due("blanks alone", x.law(), 0);
        tape(x, times("move 99", 12));
        due("12 lines", x.law(), 12);
        due("point", x.point(0, 0, 0), 25 + 12 * 99);
        tape(x, "move 5;harden 7 if late ;move 1 if hour>6;harden 0");
        due("in place of the one before", x.law(), 4);
        due("point in hour 5", x.point(0, 0, 5), 30);
        due("point in hour 6", x.point(0, 0, 6), 23);
        due("point in hour 7", x.point(0, 0, 7), 24);
        holds(x, "late", 0, 5, false);
        holds(x, "late", 0, 6, true);
        holds(x, "leaning", 0, 0, false);
        holds(x, "leaning", 1, 0, true);
        holds(x, "precedent", 1, 0, false);
        holds(x, "not precedent", 1, 0, true);
        holds(x, "not not late", 0, 6, true);
        holds(x, "judge < 1", 0, 0, true);
        holds(x, "judge > 0", 0, 0, false);
        holds(x, "hunger > 19", 0, 0, true);
        holds(x, "hunger > 20", 0, 0, false);
        holds(x, "hunger < 20", 0, 0, false);
        holds(x, "nerve + 1 > 3", 0, 0, true);
        holds(x, "kind + kind < 5", 0, 0, true);
        holds(x, "kind > 2", 0, 0, false);
        holds(x, "grave+grave+1 > 10", 0, 0, true);
        holds(x, "worth < 8", 0, 0, true);
        holds(x, "worth > 7", 0, 0, false);
        holds(x, "worth < 2", 1, 0, true);
        holds(x, "hour > 3 + 4", 0, 8, true);
        holds(x, "hour > 3 + 4", 0, 7, false);
        holds(x, "999 > 998", 0, 0, true);
        holds(x, "late or leaning and precedent", 0, 6, true);
        holds(x, "leaning and precedent or late", 1, 6, true);
        holds(x, "(late or leaning) and precedent", 0, 6, false);
        holds(x, "not late and leaning", 1, 0, true);
        holds(x, "not (late and leaning)", 1, 0, true);
        holds(x, "not late or leaning", 1, 6, true);
        holds(x, "not (late or leaning)", 1, 6, false);
        holds(x, "((((((late))))))", 0, 6, true);
        holds(x, "not(not(not(late)))", 0, 0, true);
        holds(x, "not not not not not not late and not late", 0, 0, false);
        x.list(1, 0, 0);
        x.inn(0, 0);
        x.fast(1, 99);
        x.hours(1);
        due("case 0 is freed", x.cause(0, 4), 1);
        holds(x, "precedent", 1, 0, true);
        holds(x, "not precedent", 1, 0, false);
        holds(x, "precedent", 2, 0, false);
        holds(x, "leaning or (late)", 1, 0, true);
        holds(x, "late and (leaning)", 1, 0, false);
        holds(x, "late and (leaning or leaning)", 1, 0, false);
        holds(x, "late or late and leaning or leaning and leaning", 1, 0, true);
        holds(x, "late or late and leaning or late and leaning", 1, 0, false);
        holds(x, "1 + 2 + 3 > 2 + 3 and 1 < 1 + 1 + 1", 0, 0, true);
        holds(x, "1 + 2 + 3 > 2 + 3 + 1", 0, 0, false);
    }

    private static void lawFaults() {
        label = "5 law, 6 fault";
        badLaw("tax", 0);
        badLaw("moves 1", 0);
        badLaw("5", 0);
        badLaw("move", 4);
        badLaw("move if late", 5);
        badLaw("move 100", 5);
        badLaw("move 0001", 5);
        badLaw("move 5;", 7);
        badLaw("move 5 late", 7);
        badLaw("harden 5 if", 11);
        badLaw("harden 5 if hour", 16);
        badLaw("harden 5 if hour = 5", 17);
        badLaw("harden 5 if hour < ", 19);
        badLaw("harden 5 if hour < late", 19);
        badLaw("harden 5 if hour < 1 < 2", 21);
        badLaw("harden 5 if hour + < 1", 19);
        badLaw("harden 5 if 1000 < 1", 12);
        badLaw("harden 5 if late late", 17);
        badLaw("harden 5 if late and", 20);
        badLaw("harden 5 if late or or", 20);
        badLaw("harden 5 if mercy < 5", 12);
        badLaw("harden 5 if pay < 5", 12);
        badLaw("crumb 5 if (late", 16);
        badLaw("crumb 5 if late)", 15);
        badLaw("crumb 5 if ()", 12);
        badLaw("crumb 5 if (hour + 1) < 5", 20);
        badLaw("crumb 5 if not", 14);
        badLaw("move 5 if not not not not not not not late", 34);
        badLaw("move 5 if (((((((late)))))))", 16);
        badLaw("move 5 if not(not(not(not late)))", 22);
        badLaw("move 5 if late and ((((((late)))))) and (((not(not(( late", 50);
        badLaw(times("move 1", 13), 84);
        badLaw(times("move 1", 12) + ";", 84);
        badLaw("move 5 if late\u00a0", 14);
    }

    private static void judges() {
        label = "7 judge";
        HungryBench x = town(BENCH);
        int[][] want = {
            {30, 10, 2, 50, 40, 3, 0, 4095 - 8 - 16, 0},
            {5, 40, 0, 0, 60, 1, 0, 4095 - 8, 4},
            {60, 0, 5, 3, 10, 1, 0, 4095, 2},
        };
        for (int j = 0; j < 3; j++) {
            for (int what = 0; what < 9; what++) {
                due("judge " + j + " " + what, x.judge(j, what), want[j][what]);
            }
        }
        refused("no such judge", INDEX, () -> x.judge(3, 0));
        refused("no such judge", INDEX, () -> x.judge(-1, 9));
        refused("another what", ELEMENT, () -> x.judge(0, 9));
        refused("another what", ELEMENT, () -> x.judge(0, -1));
        tape(x, "crumb 7 if kind > 5;crumb 3 if leaning;crumb 2 if grave > 44 and hunger < 31;crumb 1 if worth < 1");
        x.law();
        due("crumbs with case 0", x.judge(0, 4), 42);
        due("crumbs with case 2", x.judge(1, 4), 65);
        due("crumbs without a case", x.judge(2, 4), 60 + 7 + 1 - 50);
        x.inn(3, 10);
        due("crumbs are 0 at least", x.judge(2, 4), 0);
        tape(x, "crumb 50 if grave > 0 or worth > 0 or leaning or precedent or kind < 6;crumb 3 if kind < 7");
        x.law();
        x.inn(3, 60);
        x.point(2, 2, 3);
        due("without a case: nothing of another one", x.judge(2, 4), 13);
        HungryBench y = town("judge mercy 99 nerve 0;judge mercy 99 nerve 0;case a grave 1;case a grave 1;"
                + "case a grave 1;case b grave 99;list 0 0 0;list 1 0 1;list 1 1 2");
        due("share of none", y.judge(0, 6), 0);
        y.hours(1);
        due("share", y.judge(0, 6), 50);
        y.hours(1);
        due("share, rounded down", y.judge(0, 6), 33);
        due("share, rounded down", y.judge(1, 6), 66);
        tape(y, "crumb 4 if kind < 1");
        y.law();
        tape(y, "hour 1");
        y.assize();
        due("a case that does not wait is none", y.judge(1, 4), 0);
        due("harsh", y.judge(0, 5), 0);
        y.feeds(0);
        tape(y, "harden 1 if kind > 0");
        y.law();
        due("harsh of those that wait", y.judge(0, 5), 1);
    }

    private static void causes() {
        label = "8 cause";
        HungryBench x = town(BENCH);
        int[][] want = {
            {0, 45, 8, -1, 0, -1, -1, 0, 3, 7, 1, 5, 0},
            {1, 30, 5, 0, 0, -1, -1, 0, 4, 6, 0, 0, 1},
            {0, 45, 9, 1, 0, -1, -1, 1, 3, 4, 1, 0, 2},
            {5, 90, 20, -1, 0, -1, -1, -1, -1, 8, -1, -1, 1},
        };
        for (int c = 0; c < 4; c++) {
            for (int what = 0; what < 13; what++) {
                due("cause " + c + " " + what, x.cause(c, what), want[c][what]);
            }
        }
        refused("no such case", INDEX, () -> x.cause(4, 0));
        refused("no such case", INDEX, () -> x.cause(-1, 13));
        refused("another what", ELEMENT, () -> x.cause(0, 13));
        refused("another what", ELEMENT, () -> x.cause(0, -1));
        x.seed(1);
        x.inn(3, 0);
        x.hours(1);
        due("hanged", x.cause(0, 4), 2);
        due("by", x.cause(0, 5), 0);
        due("day", x.cause(0, 6), 2);
        due("it stands still", x.cause(0, 8), 3);
        due("no delay of one that does not wait", x.cause(0, 11), -1);
        due("no share of one that does not wait", x.cause(0, 12), -1);
        due("shares of those that wait alone", x.cause(1, 12), 0);
        due("shares of those that wait alone", x.cause(3, 12), 1);
        due("bench, now by those a bit hungrier", x.cause(0, 10), 1);
        x.list(0, 2, 1);
        due("no delay of one in an hour that is behind", x.cause(1, 11), -1);
        x.list(0, 4, 1);
        x.grave(1, 50);
        due("not behind 11", x.cause(1, 11), -1);
        x.grave(1, 48);
        due("as late as 11", x.cause(1, 11), 7);
        HungryBench f = town("judge mercy 1 nerve 0;judge mercy 2 nerve 0;case a grave 2;case b grave 3;list 0 0 0;"
                + "hour 0;day 0");
        due("first place, judge", f.cause(0, 7), 0);
        due("first place, hour", f.cause(0, 8), 0);
        due("put off by one", f.cause(0, 11), 1);
        due("hour 0 is not free", f.judge(0, 7), 4094);
        due("bench in hour 0", f.cause(0, 10), 1);
        due("in the list", f.count(7), 1);
        f.list(0, 0, 1);
        due("put off by two", f.cause(1, 11), 2);
        due("in the list", f.count(7), 2);
        f.fast(0, 2);
        due("not put off", f.cause(1, 11), 0);
        due("bench of several the least", f.cause(0, 10), 0);
        f.list(1, 5, 1);
        due("taken from the first place", f.listed(0, 0), -1);
        HungryBench y = town("case a grave 0");
        due("no bench without judges", y.cause(0, 10), -1);
        due("no shares without judges", y.cause(0, 12), -1);
    }

    private static void places() {
        label = "9 listed, 10 smell";
        HungryBench x = town(BENCH);
        due("listed", x.listed(0, 3), 0);
        due("listed", x.listed(0, 4), 1);
        due("listed", x.listed(1, 3), 2);
        due("listed none", x.listed(2, 11), -1);
        refused("no such judge", INDEX, () -> x.listed(3, 0));
        refused("no such hour", INDEX, () -> x.listed(0, 12));
        refused("no such hour", INDEX, () -> x.listed(0, -1));
        due("smell", x.smell(3), 60);
        due("smell", x.smell(4), 0);
        refused("no such hour", INDEX, () -> x.smell(12));
        refused("no such hour", INDEX, () -> x.smell(-1));
    }

    private static void points() {
        label = "11 point, 12 would";
        HungryBench x = under("move 7 if late;harden 20 if hunger > 33;move 2 if judge > 0", BENCH);
        due("point", x.point(0, 0, 3), -5);
        due("point late", x.point(0, 0, 8), 2);
        due("point of another judge", x.point(1, 1, 0), 17);
        due("would now", x.would(0, 0, 3), -5);
        due("would in an hour behind this", x.would(0, 0, 6), -5 + 3 + 7);
        due("would, hungrier", x.would(0, 0, 7), -5 + 4 + 7 - 20);
        due("would ahead of this hour", x.would(0, 0, 2), -5);
        x.fast(0, 95);
        due("hunger 99 at most", x.would(0, 0, 11), 99 + 10 + 7 - 45 - 20);
        for (int bad : new int[] {-1, 12, Integer.MAX_VALUE}) {
            refused("point " + bad, INDEX, () -> x.point(bad, 0, 0));
            refused("point " + bad, INDEX, () -> x.point(0, bad, 0));
            refused("point " + bad, INDEX, () -> x.point(0, 0, bad));
            refused("would " + bad, INDEX, () -> x.would(bad, 0, 0));
            refused("would " + bad, INDEX, () -> x.would(0, bad, 0));
            refused("would " + bad, INDEX, () -> x.would(0, 0, bad));
        }
    }

    private static void hoursGoOn() {
        label = "13 hours";
        HungryBench x = town(TWO);
        due("heard", x.hours(1), 1);
        due("freed", x.cause(0, 4), 1);
        due("by", x.cause(0, 5), 0);
        due("on", x.cause(0, 6), 0);
        due("the other waits", x.cause(1, 4), 0);
        due("hunger", x.judge(0, 0), 1);
        due("hour", x.count(4), 1);
        due("one draw a judge", x.seed(1103527590), 1103527590);
        due("heard", x.hours(1), 1);
        due("hanged", x.cause(1, 4), 2);
        due("point in the log", x.log(0, 5), -9);
        due("heard none", x.hours(9), 0);
        due("they stand until the day is over", x.count(7), 3);
        due("hour 11", x.count(4), 11);
        x.appeal(1);
        due("heard none", x.hours(1), 0);
        due("hour 0", x.count(4), 0);
        due("day 1", x.count(5), 1);
        due("those that do not wait are struck", x.count(7), 2);
        due("one that waits again is heard", x.hours(2), 1);
        due("it is freed by one of 13 more", x.log(0, 5), 13 + 50 - 60);
        due("day told", x.cause(1, 6), 1);
        due("48 hours", x.hours(48), 0);
        due("day", x.count(5), 5);
        due("hunger", x.judge(0, 0), 62);
        x.hours(48);
        due("hunger 99 at most", x.judge(0, 0), 99);
        refused("0 hours", ARGUMENT, () -> x.hours(0));
        refused("49 hours", ARGUMENT, () -> x.hours(49));
        refused("below", ARGUMENT, () -> x.hours(-1));
        // judge 0 frees case 0, which is a precedent for judge 1 in the same hour
        HungryBench y = under("move 50 if precedent", "judge mercy 10 nerve 9;judge mercy 0 nerve 9;case a grave 5;"
                + "case a grave 50 on 0;list 0 0 0;list 1 0 1");
        due("heard", y.hours(1), 2);
        due("by all as it is then", y.cause(1, 4), 1);
        HungryBench z = under("move 50 if precedent", "judge mercy 10 nerve 9;judge mercy 0 nerve 9;case a grave 5;"
                + "case a grave 50 on 0;list 1 0 0;list 0 0 1");
        due("heard", z.hours(1), 2);
        due("not yet a precedent", z.cause(1, 4), 2);
    }

    /** The draws of seed 1 modulo 100 are 38, 58, 13, 15, 51, 27, 10, 19, 12, 86. */
    private static void crumbsCome() {
        label = "13 hours, (c)";
        HungryBench x = town(TWO + ";inn 0 38;inn 1 59");
        due("no crumbs at 38", x.hours(1), 1);
        due("hunger", x.judge(0, 0), 1);
        due("crumbs at 59", x.hours(1), 1);
        due("hunger", x.judge(0, 0), 0);
        due("undone", x.state(3), 3);
        due("by stays", x.cause(1, 5), 0);
        due("day stays", x.cause(1, 6), 0);
        due("rows", x.count(9), 4);
        int[][] rows = {{0, 1, 1, 2, 0, 0}, {0, 1, 0, 2, 0, 0}, {0, 1, 1, 1, 0, -9}, {0, 0, 0, 0, 0, 40}};
        for (int ago = 0; ago < 4; ago++) {
            for (int what = 0; what < 6; what++) {
                due("log " + ago + " " + what, x.log(ago, what), rows[ago][what]);
            }
        }
        HungryBench y = town(TWO + ";inn 0 39");
        y.hours(1);
        due("crumbs at 39", y.state(3), 1);
        HungryBench z = town("judge mercy 50 nerve 1;case a grave 10;list 0 0 0;inn 0 48");
        z.hours(1);
        due("a nerve is 10 less", z.state(3), 0);
        HungryBench n = under("crumb 39 if kind < 6", TWO);
        n.hours(1);
        due("crumbs by the case that he had", n.state(3), 1);
        HungryBench m = under("crumb 39 if kind > 5", TWO);
        m.hours(1);
        due("no crumbs but without a case", m.state(3), 0);
        HungryBench h = under("crumb 39 if hunger > 0", TWO);
        h.hours(1);
        due("the hunger behind (b)", h.state(3), 1);
        HungryBench k = under("crumb 39 if kind < 1;crumb 59 if kind > 0 and kind < 6 or kind > 6", TWO);
        k.seed(0);
        due("the draw of seed 0 is 0", k.hours(1), 1);
        k.appeal(0);
        k.seed(1103527590);
        k.hours(1);
        due("by the case of this hour, not of the one ahead", k.state(3), 2);
        HungryBench e = under("crumb 99 if kind < 6;crumb 99 if kind < 6", TWO);
        e.hours(1);
        e.appeal(0);
        e.strike(0, 1);
        e.hours(1);
        due("without a case behind one with", e.judge(0, 0), 1);
        // case 0 is undone, then case 1 that leans on it is freed by another, then crumbs come to the first again
        HungryBench o = town("judge mercy 50 nerve 0;judge mercy 50 nerve 9;case a grave 1;case a grave 1 on 0;"
                + "list 0 0 0;list 1 1 1;inn 0 39;inn 1 100");
        o.hours(2);
        due("nothing is undone by what is undone already", o.state(1), 2);
        due("rows", o.count(9), 3);
        due("a judge in the log", o.log(0, 4), 1);
        due("crumbles none", o.crumbles(0), 0);
        // both judges' findings of another day, and cases that lean on those of this day
        HungryBench l = town("judge mercy 50 nerve 9;judge mercy 50 nerve 9;case a grave 9;case a grave 9 on 0;"
                + "case a grave 9 on 1;case a grave 9 on 0;case a grave 9;list 0 0 4");
        l.hours(12);
        tape(l, "list 1 0 2;list 1 1 3;list 0 2 0");
        l.assize();
        l.hours(2);
        tape(l, "crumb 99 if hour > 1 and judge < 1;crumb 99 if hour > 1 and judge < 1");
        l.law();
        l.hours(1);
        due("those of this day, and all found that lean on them, though one between waits", l.state(3), 1 + 4 + 8);
        due("one of another day stays", l.cause(4, 4), 1);
        due("by stays", l.cause(2, 5), 1);
        due("the greatest the latest", l.log(0, 2), 3);
        due("whose crumbs", l.log(0, 4), 0);
        due("the other's hunger", l.judge(1, 0), 15);
        due("his hunger", l.judge(0, 0), 0);
    }

    private static void acts() {
        label = "14 list to 20 grave";
        HungryBench x = town(BENCH);
        due("list on an empty place", x.list(2, 0, 3), -1);
        due("list in place of another", x.list(2, 0, 0), 3);
        due("taken from where it stood", x.listed(0, 3), -1);
        due("what stood there stands nowhere", x.cause(3, 7), -1);
        due("list where it stands", x.list(2, 0, 0), 0);
        due("it stands there", x.listed(2, 0), 0);
        due("strike", x.strike(2, 0), 0);
        due("struck", x.listed(2, 0), -1);
        due("feeds", x.feeds(0), 30);
        due("fed", x.judge(0, 0), 0);
        due("fast", x.fast(0, 40), 0);
        due("fast, no more", x.fast(0, 40), 40);
        due("fast of none", town(TWO).fast(0, 0), 0);
        due("fast to the most", x.fast(0, 99), 40);
        due("fasted", x.judge(0, 0), 99);
        due("inn", x.inn(3, 100), 60);
        due("inn", x.inn(3, 0), 100);
        due("told", x.smell(3), 0);
        due("grave", x.grave(3, 0), 90);
        due("grave", x.grave(3, 99), 0);
        due("told", x.cause(3, 1), 99);
        x.hours(1);
        due("case 2 is freed", x.cause(2, 4), 1);
        due("feeds undoes nothing", x.feeds(1), 6);
        due("case 2 is freed still", x.cause(2, 4), 1);
        x.list(1, 4, 3);
        x.hours(1);
        due("hanged", x.cause(3, 4), 2);
        due("appeal", x.appeal(3), 2);
        due("waits", x.cause(3, 4), 0);
        due("by none", x.cause(3, 5), -1);
        due("day none", x.cause(3, 6), -1);
        due("it stands where it stood", x.cause(3, 8), 4);
        HungryBench y = town(TWO + ";inn 0 100");
        y.hours(1);
        due("appeal of one undone", y.appeal(0), 3);
        due("waits", y.cause(0, 4), 0);
    }

    private static void actsRefused() {
        label = "14 list to 20 grave, refused";
        HungryBench x = town(BENCH + ";inn 4 0");
        x.inn(3, 0);
        x.hours(1);
        int acts = x.count(10);
        for (int bad : new int[] {-1, 12, Integer.MIN_VALUE}) {
            refused("list " + bad, INDEX, () -> x.list(bad, 0, 0));
            refused("list " + bad, INDEX, () -> x.list(0, bad, 0));
            refused("list " + bad, INDEX, () -> x.list(0, 0, bad));
            refused("strike " + bad, INDEX, () -> x.strike(bad, 0));
            refused("strike " + bad, INDEX, () -> x.strike(0, bad));
            refused("feeds " + bad, INDEX, () -> x.feeds(bad));
            refused("fast " + bad, INDEX, () -> x.fast(bad, -1));
            refused("inn " + bad, INDEX, () -> x.inn(bad, -1));
            refused("appeal " + bad, INDEX, () -> x.appeal(bad));
            refused("grave " + bad, INDEX, () -> x.grave(bad, -1));
        }
        refused("list one that does not wait", STATE, () -> x.list(0, 0, 0));
        refused("strike nothing", STATE, () -> x.strike(2, 0));
        refused("fast -1", ARGUMENT, () -> x.fast(0, -1));
        refused("fast 100", ARGUMENT, () -> x.fast(0, 100));
        refused("fast to less", STATE, () -> x.fast(0, 30));
        refused("inn -1", ARGUMENT, () -> x.inn(0, -1));
        refused("inn 101", ARGUMENT, () -> x.inn(0, 101));
        refused("appeal of one that waits", STATE, () -> x.appeal(1));
        refused("appeal of one freed", STATE, () -> x.appeal(2));
        refused("grave -1", ARGUMENT, () -> x.grave(0, -1));
        refused("grave 100", ARGUMENT, () -> x.grave(0, 100));
        due("no act", x.count(10), acts);
        due("hunger stays", x.judge(0, 0), 31);
        due("the list stays", x.count(7), 7);
    }

    private static void earlyAndSplit() {
        label = "21 early, 22 split";
        HungryBench x = town(BENCH);
        due("early", x.early(0, 0), 8);
        due("early at once", x.early(1, 0), 3);
        due("early none", x.early(0, 3), -1);
        due("split", x.split(0), true);
        due("all free it", x.split(1), false);
        due("none frees it", x.split(3), false);
        x.inn(3, 0);
        x.hours(1);
        due("early of one that does not wait", x.early(0, 0), 8);
        refused("no such judge", INDEX, () -> x.early(3, 0));
        refused("no such case", INDEX, () -> x.early(0, 4));
        refused("no such case", INDEX, () -> x.split(4));
        due("split without judges", town("case a grave 0").split(0), false);
    }

    private static void savedAndNeeded() {
        label = "23 saved, 24 needed";
        HungryBench x = town(BENCH);
        due("saved", x.saved(false), 7);
        due("saved worth", x.saved(true), 22);
        due("needed", x.needed(), 1);
        // one hour left: one place a judge; case 2 goes first by its worth, then 0 ahead of 1 of like worth
        HungryBench y = town("judge mercy 50 nerve 0;judge mercy 20 nerve 0;case a grave 50 worth 5;"
                + "case a grave 50 worth 5;case a grave 20 worth 6;case a grave 90 worth 99;hour 11");
        due("saved by worth", y.saved(false), 5);
        due("saved worth", y.saved(true), 11);
        due("needed", y.needed(), 1);
        due("needed, asked first", town(BENCH).needed(), 1);
        tape(y, "hour 10");
        y.assize();
        // case 2 gives way to judge 1, so that both others find judge 0 in two hours
        due("saved in two hours", y.saved(false), 7);
        due("needed", y.needed(), 2);
        tape(y, "hour 8");
        y.assize();
        y.grave(1, 53);
        due("one must wait until 11", y.needed(), 4);
        y.grave(1, 54);
        due("none for it", y.saved(false), 5);
        y.list(0, 8, 0);
        due("what is listed now does not matter", y.saved(false), 5);
        due("none needed", town("case a grave 0").needed(), 0);
        due("saved without judges", town("case a grave 0").saved(false), 0);
        HungryBench w = town("judge mercy 50 nerve 0;case a grave 0 worth 0;case a grave 0 worth 1;hour 11");
        due("the most worth first", w.saved(false), 2);
        w.hours(1);
        due("one of no worth, too", w.saved(false), 3);
        w.list(0, 0, 0);
        w.hours(1);
        due("those that wait alone", w.saved(false), 2);
    }

    private static void crumblesAndWorst() {
        label = "25 crumbles, 26 worst";
        HungryBench x = town(BENCH);
        x.inn(3, 0);
        due("crumbles none", x.crumbles(0), 0);
        due("worst of none", x.worst(), 0);
        x.hours(1);
        due("case 0, and case 2 that leans on it by one that waits", x.crumbles(0), 5);
        due("case 2", x.crumbles(1), 4);
        due("none", x.crumbles(2), 0);
        due("worst", x.worst(), 0);
        x.appeal(0);
        due("none by one that waits again", x.crumbles(0), 0);
        due("worst", x.worst(), 1);
        x.hours(9);
        due("not on another day", x.crumbles(1), 0);
        refused("no such judge", INDEX, () -> x.crumbles(3));
        refused("no such judge", INDEX, () -> x.crumbles(-1));
    }

    private static void leaning() {
        label = "27 deep, 28 roots";
        due("roots", town(BENCH).roots(), 1);
        due("deep", town(BENCH).deep(), 3);
        HungryBench x = town("case a grave 1");
        due("deep of one", x.deep(), 1);
        due("no roots", x.roots(), 0);
        tape(x, "case a grave 1;case a grave 1 on 1;case a grave 1 on 1;case a grave 1 on 3;case a grave 1;"
                + "case a grave 1 on 5;case a grave 1 on 4");
        x.assize();
        due("deep", x.deep(), 4);
        due("roots", x.roots(), 2 + 32);
        due("leaning on 1", x.cause(1, 9), 2 + 4 + 8 + 16 + 128);
        due("leaning on 3", x.cause(3, 9), 8 + 16 + 128);
        due("leaning on 7", x.cause(7, 9), 128);
    }

    private static void mealsAndTries() {
        label = "29 meals, 30 tries";
        // freed with a hunger of 20 (case 0), 40 (case 1) and 70 (case 2) at least
        HungryBench x = town("judge mercy 10 nerve 0;case a grave 30;case a grave 50;case a grave 80;hour 2");
        tape(x, "");
        due("none told", x.meals(0, false), 61);
        due("none told", x.meals(0, true), 0);
        tape(x, "\u0003\u0000\u0001");
        due("freed in hour 3: 17 to 60", x.meals(0, false), 44);
        tape(x, "\u0003\u0000\u0001\u0005\u0001\u0000");
        due("17 to 34", x.meals(0, false), 18);
        tape(x, "\u0003\u0000\u0001\u0005\u0001\u0000");
        due("least", x.meals(0, true), 17);
        tape(x, "\u000b\u0002\u0001");
        due("freed in hour 11: 59, 60", x.meals(0, false), 2);
        tape(x, "\u0000\u0002\u0001");
        due("none fits", x.meals(0, false), 0);
        tape(x, "\u0000\u0002\u0001");
        due("no least", x.meals(0, true), -1);
        tape(x, "");
        // of 61 in hour 2: case 0 is freed from 18 on (43, 18), case 1 from 38 on (23, 38), case 2 by none
        due("try", x.tries(0), 1);
        tape(x, "\u0000\u0001\u0000");
        due("of 0 to 39: case 0 parts 22 and 18", x.tries(0), 0);
        tape(x, "\u0000\u0002\u0001");
        due("try of none", x.tries(0), -1);
        tape(x, "\u0000\u0000\u0000\u0001\u0000\u0001");
        due("try of one (19)", x.tries(0), -1);
        tape(x, "\u0000\u0000\u0000\u0002\u0000\u0001");
        due("try of two (18, 19), alike", x.tries(0), 0);
        tape(x, "\u0001\u0000\u0000\u0003\u0000\u0001");
        due("try of two (17, 18), parted by case 0", x.tries(0), 0);
        HungryBench z = town("judge mercy 0 nerve 0;case a grave 99;case a grave 1;case a grave 60");
        tape(z, "\u0001\u0002\u0001\u0000\u0002\u0000");
        due("try of one (59)", z.tries(0), -1);
        tape(z, "\u0001\u0001\u0001\u0000\u0002\u0000");
        due("0 is parted from 1 to 59", z.tries(0), 1);
        HungryBench t = town("judge mercy 0 nerve 0;case a grave 99;case a grave 1;case a grave 2");
        tape(t, "\u0000\u0002\u0000");
        due("0 is parted from 1", t.tries(0), 1);
        tape(z, "\u0002\u0002\u0001\u0000\u0002\u0001");
        due("60 alone", z.meals(0, false), 1);
        tape(z, "\u0000\u0001\u0000");
        due("0 alone", z.meals(0, true), 0);
        tape(x, "\u0000\u0001\u0001");
        due("all alike: the least", x.tries(0), 0);
        x.list(0, 2, 0);
        x.hours(1);
        tape(x, "\u0000\u0001\u0001");
        due("those that wait alone", x.tries(0), 1);
        for (String bad : new String[] {"\u0000", "\u0000\u0000", "\u000c\u0000\u0000", "\u0000\u0003\u0000",
            "\u0000\u0000\u0002", "\u0000\u0000\u00ff", "\u00ff\u0000\u0000"}) {
            tape(x, bad);
            refused("meals", ARGUMENT, () -> x.meals(0, false));
            due("the tape is used up", x.end(1), false);
            tape(x, bad);
            refused("tries", ARGUMENT, () -> x.tries(0));
            due("the tape is used up", x.end(1), false);
        }
        String rows = "\u0003\u0001\u0000".repeat(15);
        tape(x, rows);
        due("15 rows: 0 to 36", x.meals(0, false), 37);
        tape(x, rows + rows.substring(0, 3));
        refused("16 rows", ARGUMENT, () -> x.meals(0, false));
        tape(x, "\u0000");
        refused("no such judge", INDEX, () -> x.meals(1, false));
        due("the tape is used up", x.end(1), false);
        tape(x, "\u0000");
        refused("no such judge", INDEX, () -> x.tries(-1));
        due("the tape is used up", x.end(1), false);
        tape(x, "list 0 0");
        refused("a wrong text", ARGUMENT, x::assize);
        tape(x, "\u0000");
        refused("meals", ARGUMENT, () -> x.meals(0, true));
        due("fault is of texts", x.fault(), 8);
        // case 0 is freed by 0 and 12 to 60 (50 of 61), case 1 by 0 and 50 to 60 (12 of 61)
        HungryBench m = under("move 99 if hunger < 1", "judge mercy 0 nerve 0;case a grave 12;case a grave 50");
        due("49 is less than 50", m.tries(0), 1);
        HungryBench n = town("judge mercy 10 nerve 0");
        due("try without cases", n.tries(0), -1);
    }

    private static void movedAndEven() {
        label = "31 moved, 32 even";
        HungryBench x = town(BENCH);
        due("moved", x.moved(0, 0), 35);
        due("moved", x.moved(1, 1), 0);
        due("moved", x.moved(2, 3), 90);
        due("even", x.even(0, 0), 41);
        due("even", x.even(1, 3), 46);
        tape(x, "harden 30 if hunger > 34 and hunger < 50;move 9 if hour > 3");
        x.law();
        due("moved by law", x.moved(0, 0), 50);
        x.grave(3, 99);
        due("moved by 99 alone", x.moved(2, 3), 99);
        tape(x, "harden 30 if hunger > 98");
        x.law();
        due("moved none", x.moved(2, 3), -1);
        tape(x, "move 38");
        x.law();
        due("even 99", x.even(2, 0), 99);
        tape(x, "move 39");
        x.law();
        due("even none", x.even(2, 0), -1);
        tape(x, "harden 99 if hunger > 0;harden 99");
        x.law();
        due("moved none", x.moved(0, 0), -1);
        tape(x, "harden 50 if grave < 3;move 11 if grave > 2");
        x.law();
        due("even by law", x.even(0, 0), 0);
        tape(x, "move 60 if grave > 2");
        x.law();
        due("even none", x.even(0, 0), -1);
        for (int bad : new int[] {-1, 4}) {
            refused("moved", INDEX, () -> x.moved(bad, 0));
            refused("moved", INDEX, () -> x.moved(0, bad));
            refused("even", INDEX, () -> x.even(bad, 0));
            refused("even", INDEX, () -> x.even(0, bad));
        }
    }

    /** Circuits pay 0, 17, 34, 11, 28. */
    private static void circuits() {
        label = "7 judge (8), 33 rather";
        HungryBench x = town(times("judge mercy 1 nerve 1", 5));
        int[] of = {2, 4, 1, 3, 0};
        for (int j = 0; j < 5; j++) {
            due("all alike: circuit of " + j, x.judge(j, 8), of[j]);
        }
        x.fast(4, 9);
        x.fast(2, 8);
        int[] then = {1, 3, 4, 0, 2};
        for (int j = 0; j < 5; j++) {
            due("by hunger: circuit of " + j, x.judge(j, 8), then[j]);
        }
        due("rather than 0", x.rather(1, 0), 2 + 4 + 8 + 16);
        due("rather than 2", x.rather(1, 2), 0);
        due("rather than 3", x.rather(1, 3), 2 + 4 + 16);
        HungryBench y = town("judge mercy 1 nerve 1 pay 34;judge mercy 1 nerve 1 pay 18");
        due("like pay: the least", y.judge(0, 8), 0);
        due("rather than 2", y.rather(0, 2), 1);
        due("rather than 0", y.rather(0, 0), 0);
        due("35 for 1", y.judge(1, 8), 1);
        String three = times("judge mercy 1 nerve 1", 3) + ";judge mercy 1 nerve 1 hunger 9 pay ";
        due("11 and 23, and 34", town(three + "23").judge(3, 8), 2);
        due("11 and 24, and 34", town(three + "24").judge(3, 8), 3);
        String four = times("judge mercy 1 nerve 1", 4) + ";judge mercy 1 nerve 1 hunger 9 pay ";
        due("28 and 6, and 34", town(four + "6").judge(4, 8), 2);
        due("28 and 7, and 34", town(four + "7").judge(4, 8), 4);
        due("28 and 7: rather than 2", town(four + "7").rather(4, 2), 16);
        refused("no such judge", INDEX, () -> y.rather(2, 0));
        refused("no such circuit", INDEX, () -> y.rather(0, 5));
        refused("no such circuit", INDEX, () -> y.rather(0, -1));
    }

    private static void appealsWorth() {
        label = "34 worth";
        HungryBench x = town("judge mercy 0 nerve 0;judge mercy 1 nerve 0;case a grave 50 worth 6;"
                + "case a grave 30 worth 6;case a grave 31 worth 6;case a grave 99 worth 50;"
                + "list 0 0 0;list 0 1 1;list 0 2 2;list 0 3 3");
        due("none", x.worth(), -1);
        x.hours(4);
        due("all hanged", x.state(2), 15);
        due("none would be freed", x.worth(), -1);
        x.fast(1, 49);
        due("6 less 3, of several the least", x.worth(), 1);
        x.grave(1, 60);
        due("6 less 3", x.worth(), 2);
        x.grave(0, 20);
        due("6 less 2", x.worth(), 0);
        x.appeal(0);
        due("not one that waits", x.worth(), 2);
        x.fast(0, 99);
        due("50 less 9", x.worth(), 3);
        x.grave(1, 50);
        x.grave(2, 49);
        x.appeal(3);
        due("6 less 4", x.worth(), 2);
        HungryBench y = town(TWO + ";inn 0 100");
        y.hours(1);
        due("one undone", y.worth(), 0);
        due("none without judges", town("case a grave 0").worth(), -1);
    }

    private static void pairsAndAgree() {
        label = "35 pairs, 36 agree";
        HungryBench x = town(BENCH);
        due("pairs", x.pairs(-1), 2);
        due("0 and 1", x.pairs(0), 1);
        due("1 and 0", x.pairs(1), 0);
        due("2 alone", x.pairs(2), -1);
        due("agree", x.agree(), 2);
        // judges free 0, 1, 2, 3 and 3 of three cases: 0 with 3 and 1 with 4 is the first of those that make 5
        HungryBench y = town("judge mercy 0 nerve 0;judge mercy 10 nerve 0;judge mercy 20 nerve 0;"
                + "judge mercy 30 nerve 0;judge mercy 30 nerve 0;case a grave 10;case a grave 20;case a grave 30");
        due("pairs", y.pairs(-1), 5);
        int[] with = {3, 4, -1, 0, 1};
        for (int j = 0; j < 5; j++) {
            due("with whom " + j, y.pairs(j), with[j]);
        }
        y.fast(0, 30);
        y.fast(1, 20);
        y.fast(2, 10);
        for (int j = 0; j < 5; j++) {
            due("all alike: none", y.pairs(j), -1);
        }
        due("all alike", y.pairs(-1), 0);
        due("agree", y.agree(), 7);
        y.feeds(3);
        y.grave(0, 31);
        y.grave(1, 31);
        y.grave(2, 31);
        y.fast(3, 1);
        due("3 alone frees all", y.pairs(-1), 3);
        int[] late = {-1, -1, -1, 4, 3};
        for (int j = 0; j < 5; j++) {
            due("3 alone frees all, the first way: with whom " + j, y.pairs(j), late[j]);
        }
        y.fast(4, 1);
        due("3 and 4 free all", y.pairs(-1), 6);
        int[] both = {-1, 3, 4, 1, 2};
        for (int j = 0; j < 5; j++) {
            due("3 and 4 free all, the first way: with whom " + j, y.pairs(j), both[j]);
        }
        due("agree without judges", town("case a grave 9;case a grave 9").agree(), 3);
        refused("no such judge", INDEX, () -> y.pairs(5));
        refused("no such judge", INDEX, () -> y.pairs(-2));
        HungryBench p = town("judge mercy 50 nerve 0;judge mercy 0 nerve 0;case a grave 10;case a grave 20;list 0 0 0");
        due("two differ", p.pairs(-1), 2);
        p.hours(1);
        due("those that wait alone", p.pairs(-1), 1);
        HungryBench f = town(TWO);
        f.hours(1);
        due("those that wait alone", f.agree(), 0);
        f.fast(0, 10);
        due("those that wait alone", f.agree(), 2);
    }

    private static void restsAndOdds() {
        label = "37 rests, 38 odds";
        HungryBench x = town("judge mercy 0 nerve 2;judge mercy 0 nerve 0;inn 11 50;inn 0 33;inn 1 34;inn 2 100;"
                + "hour 11");
        due("rests", x.rests(0), 6);
        x.fast(0, 79);
        due("79 by 10 is 7, and 3 less as much as 4", x.rests(0), 6);
        x.fast(0, 80);
        due("he would rather sit", x.rests(0), 2);
        due("a cook without anything to gain bakes or not", x.rests(1), 6);
        refused("no such judge", INDEX, () -> x.rests(2));
        refused("no such judge", INDEX, () -> x.rests(-1));
        due("odds of no hours", x.odds(1, 0), 10000);
        due("odds", x.odds(1, 1), 5000);
        due("odds", x.odds(1, 2), 3350);
        due("odds", x.odds(1, 3), 2211);
        due("odds", x.odds(1, 4), 0);
        due("odds where nobody bakes", town("judge mercy 0 nerve 9;inn 0 89").odds(0, 4), 10000);
        due("odds of nerve", x.odds(0, 1), 7000);
        due("odds of nerve", x.odds(0, 2), 6090);
        due("odds of nerve, rounded down", x.odds(0, 3), 5237);
        due("odds of nerve, rounded down", x.odds(0, 4), 1047);
        tape(x, "crumb 50");
        x.law();
        due("by the inn alone", x.odds(1, 1), 5000);
        refused("no such judge", INDEX, () -> x.odds(2, 5));
        refused("5 hours", ARGUMENT, () -> x.odds(0, 5));
        refused("-1 hours", ARGUMENT, () -> x.odds(0, -1));
    }

    private static void sets() {
        label = "39 hungriest to 43 twins";
        HungryBench x = town(BENCH);
        due("hungriest", x.hungriest(), 2);
        due("hungriest, the first", town("judge mercy 0 nerve 0 hunger 9;judge mercy 0 nerve 0 hunger 8;"
                + "judge mercy 0 nerve 0 hunger 9").hungriest(), 0);
        x.fast(1, 60);
        due("of several the least", x.hungriest(), 1);
        due("gravest", x.gravest(), 3);
        x.grave(3, 45);
        due("of several the least", x.gravest(), 0);
        due("kind a", x.kind(0), 5);
        due("kind b", x.kind(1), 2);
        due("kind c", x.kind(2), 0);
        due("kind f", x.kind(5), 8);
        refused("kind 6", INDEX, () -> x.kind(6));
        refused("kind -1", INDEX, () -> x.kind(-1));
        due("twins", x.twins(), 1);
        x.inn(3, 0);
        x.hours(1);
        due("waiting", x.state(0), 10);
        due("freed", x.state(1), 4);
        due("hanged", x.state(2), 1);
        due("undone", x.state(3), 0);
        refused("state 4", ARGUMENT, () -> x.state(4));
        refused("state -1", ARGUMENT, () -> x.state(-1));
        due("gravest of those that wait", x.gravest(), 3);
        due("twins, waiting or not", x.twins(), 1);
        due("three alike are three pairs",
                town("case a grave 1;case a grave 1;case a grave 1;case b grave 1;case b grave 2").twins(), 3);
    }

    private static void aheadTrialSpan() {
        label = "44 ahead, 45 trial, 46 span";
        HungryBench x = town(TWO + ";inn 0 38;inn 1 59;inn 2 0");
        due("ahead 0", x.ahead(0, 0), 0);
        due("ahead 1", x.ahead(0, 1), 1);
        due("ahead 2: nobody has crumbs", x.ahead(0, 2), 1);
        due("ahead 2", x.ahead(1, 2), 2);
        due("ahead 48", x.ahead(1, 48), 2);
        due("trial 0", x.trial(0, false), 0);
        due("trial 1", x.trial(1, false), 1);
        due("trial 1", x.trial(1, true), 0);
        due("trial 2", x.trial(2, false), 0);
        due("trial 2", x.trial(2, true), 3);
        due("nothing stays", x.count(6), 3);
        due("no seed is drawn", x.seed(1), 1);
        due("no rows", x.count(9), 0);
        due("no acts", x.count(10), 0);
        // first draws of seeds 1 to 6 modulo 100: 38, 8, 47, 17, 55, 26: crumbs of 38 come from 2, 4 and 6
        due("span 0", x.span(0, true), 0);
        due("span 1, least", x.span(1, false), 0);
        due("span 1, greatest", x.span(1, true), 3);
        x.inn(0, 0);
        due("span 1, never undone", x.span(1, false), 3);
        x.inn(0, 9);
        due("undone from seed 2 alone", x.span(1, false), 0);
        x.inn(0, 8);
        due("and from none", x.span(1, false), 3);
        due("seed stays", x.seed(1), 1);
        refused("no such case", INDEX, () -> x.ahead(2, 49));
        for (int bad : new int[] {-1, 49, Integer.MAX_VALUE}) {
            refused("ahead", ARGUMENT, () -> x.ahead(0, bad));
            refused("trial", ARGUMENT, () -> x.trial(bad, false));
            refused("span", ARGUMENT, () -> x.span(bad, true));
        }
        x.hours(1);
        due("those that were freed are freed then", x.trial(0, false), 1);
        HungryBench z = town(TWO);
        z.hours(1);
        due("ahead of what is now, asked first", z.ahead(0, 0), 1);
        due("ahead of what is now", x.ahead(0, 0), 1);
        due("ahead of what is now", x.ahead(1, 1), 2);
        // third draws of seeds 1 to 6: 13, 39, 65, 91, 16, 42; ninth: 12, 2, 92, 82, 72, 95; tenth: 86, .. 83 at most
        due("undone from seed 1 alone", town(TWO + ";inn 2 14").span(3, false), 0);
        due("freed from the others", town(TWO + ";inn 2 14").span(3, true), 3);
        due("undone from none", town(TWO + ";inn 2 13").span(3, false), 3);
        due("freed from seed 6 alone", town(TWO + ";inn 8 95").span(9, true), 3);
        due("freed from none", town(TWO + ";inn 8 96").span(9, true), 0);
        due("freed from seed 1 alone", town(TWO + ";inn 9 86").span(10, true), 3);
        due("freed from none", town(TWO + ";inn 9 87").span(10, true), 0);
    }

    private static void logs() {
        label = "47 led, 48 log";
        HungryBench x = town("judge mercy 0 nerve 0;case a grave 99;case a grave 99;list 0 0 0;list 0 1 1;day 7");
        due("led none", x.led(0, false), 0);
        due("led no day", x.led(0, true), -1);
        due("log without", x.log(0, 5), -1000);
        refused("another what", ELEMENT, () -> x.log(0, 6));
        refused("another what", ELEMENT, () -> x.log(99, -1));
        for (int n = 0; n < 61; n++) {
            x.list(0, x.count(4), n == 0 ? 1 : 0);
            x.hours(1);
            x.appeal(n == 0 ? 1 : 0);
            if (n == 0) {
                due("led 1", x.led(1, false), 1);
                due("led 1, day", x.led(1, true), 7);
            }
        }
        due("60 rows", x.count(9), 60);
        due("the oldest is gone", x.led(1, false), 0);
        due("led", x.led(0, false), 60);
        due("led, day", x.led(0, true), 12);
        due("the latest's day", x.log(0, 0), 12);
        due("the latest's hour", x.log(0, 1), 0);
        due("the latest's point", x.log(0, 5), 60 - 99);
        due("the oldest's hour", x.log(59, 1), 1);
        due("the oldest's day", x.log(59, 0), 7);
        due("behind the oldest", x.log(60, 0), -1000);
        due("ahead of the latest", x.log(-1, 0), -1000);
        x.image();
        x.list(0, x.count(4), 1);
        x.hours(1);
        due("one more row", x.led(1, false), 1);
        due("the oldest is gone", x.log(59, 1), 2);
        due("trial, for nothing", x.trial(40, false), 0);
        x.undo();
        due("undone: the oldest is back", x.log(59, 1), 1);
        due("undone: the oldest's case", x.log(59, 2), 0);
        due("undone: the latest, too", x.log(0, 2), 0);
        x.hours(1);
        due("heard again", x.led(1, false), 1);
        due("the oldest is gone again", x.log(59, 1), 2);
        x.back();
        due("back: the oldest is back", x.log(59, 1), 1);
        due("back: the oldest's case", x.log(59, 2), 0);
        due("back: the latest, too", x.log(0, 5), 60 - 99);
        refused("no such case", INDEX, () -> x.led(2, false));
        refused("no such case", INDEX, () -> x.led(-1, true));
    }

    private static void undone() {
        label = "49 seed, 50 undo";
        HungryBench x = town(BENCH);
        due("seed", x.seed(-77), 1);
        due("seed", x.seed(Integer.MIN_VALUE), -77);
        due("a seed is no act", x.count(10), 0);
        due("undo nothing", x.undo(), false);
        x.feeds(0);
        x.fast(1, 50);
        x.inn(3, 0);
        x.grave(0, 0);
        x.list(2, 5, 3);
        x.strike(1, 3);
        x.seed(1);
        x.hours(13);
        x.appeal(3);
        due("acts", x.count(10), 8);
        due("undo appeal", x.undo(), true);
        due("hanged again", x.cause(3, 4), 2);
        due("by him", x.cause(3, 5), 2);
        due("on that day", x.cause(3, 6), 2);
        due("in the log", x.log(0, 4), 2);
        x.seed(9);
        due("undo hours", x.undo(), true);
        due("hours of one call are one", x.count(4), 3);
        due("day", x.count(5), 2);
        due("rows", x.count(9), 0);
        due("by none", x.cause(3, 5), -1);
        due("on no day", x.cause(3, 6), -1);
        due("hunger of all", x.count(8), 110);
        due("seed as ahead of it", x.seed(1), 1);
        due("list as ahead of it", x.listed(0, 3), 0);
        x.undo();
        due("strike undone", x.listed(1, 3), 2);
        x.undo();
        due("list undone", x.listed(2, 5), -1);
        due("seed as ahead of that", x.seed(1), Integer.MIN_VALUE);
        x.undo();
        due("grave undone", x.cause(0, 1), 45);
        x.undo();
        due("inn undone", x.smell(3), 60);
        x.undo();
        due("fast undone", x.judge(1, 0), 5);
        x.undo();
        due("feeds undone", x.judge(0, 0), 30);
        due("none left", x.undo(), false);
        for (int n = 0; n < 15; n++) {
            x.inn(0, n);
        }
        due("12 are remembered", x.count(10), 12);
        for (int n = 0; n < 12; n++) {
            due("undo", x.undo(), true);
        }
        due("as ahead of the 12th", x.smell(0), 2);
        due("no more", x.undo(), false);
        x.inn(0, 2);
        due("an act that changes nothing", x.count(10), 1);
        tape(x, "bad");
        refused("a wrong text", ARGUMENT, x::assize);
        due("is nothing", x.count(10), 1);
        due("fault stays", x.fault(), 0);
        tape(x, "day 1");
        due("undo leaves the tape", x.undo(), true);
        due("fault stays", x.fault(), 0);
        x.assize();
        due("the tape was there", x.count(5), 1);
        x.inn(0, 1);
        tape(x, "");
        x.assize();
        due("none are remembered behind a text", x.count(10), 0);
        x.inn(0, 1);
        tape(x, "");
        x.law();
        due("none are remembered behind a law", x.undo(), false);
    }

    private static void images() {
        label = "51 image, 52 back";
        HungryBench x = under("move 5", TWO + ";inn 0 38;inn 1 59");
        x.feeds(0);
        due("no image", x.back(), false);
        due("nothing happens", x.count(10), 1);
        x.hours(1);
        x.image();
        due("an image is no act", x.count(10), 2);
        x.undo();
        due("undone ahead of the image", x.count(4), 0);
        due("back", x.back(), true);
        due("hour of the image", x.count(4), 1);
        due("none are remembered", x.count(10), 0);
        due("seed of the image", x.seed(4), 1103527590);
        due("rows of the image", x.count(9), 1);
        tape(x, "judge mercy 1 nerve 1;day 5;inn 5 5");
        x.assize();
        tape(x, "move 1;move 2;move 3");
        x.law();
        x.hours(20);
        tape(x, "bad");
        refused("a wrong text", ARGUMENT, x::law);
        tape(x, "day 3");
        due("back again", x.back(), true);
        due("judges", x.count(0), 1);
        due("texts", x.count(2), 1);
        due("law", x.count(3), 1);
        due("point by the law of the image", x.point(0, 1, 0), 1 + 50 + 5 - 60);
        due("day", x.count(5), 0);
        due("inn", x.smell(5), 0);
        due("freed", x.state(1), 1);
        due("seed", x.seed(1103527590), 1103527590);
        due("fault stays", x.fault(), 0);
        due("the tape stays", x.assize(), 2);
        due("day told", x.count(5), 3);
        x.image();
        x.hours(1);
        x.back();
        due("the newer image", x.count(5), 3);
        due("again and again", x.back(), true);
        HungryBench y = new HungryBench();
        y.image();
        tape(y, "move 1");
        y.law();
        y.back();
        due("no law in the image", y.count(3), -1);
    }

    private static void counts() {
        label = "53 count";
        HungryBench x = under("move 1", BENCH);
        int[] want = {3, 4, 1, 1, 3, 2, 15, 7, 95, 0, 0};
        for (int what = 0; what < want.length; what++) {
            due("count " + what, x.count(what), want[what]);
        }
        due("another what", x.count(11), -1);
        due("another what", x.count(-1), -1);
        x.inn(3, 0);
        x.hours(1);
        int[] then = {3, 4, 1, 1, 4, 2, 10, 7, 98, 2, 2};
        for (int what = 0; what < then.length; what++) {
            due("count " + what, x.count(what), then[what]);
        }
    }
}
