/** The bounds of promises 1 to 6: a new object, the tape, texts of THE ASSIZE and THE LAW, fault(). */
public final class TextBoundsTest extends Check {
    private static final String ONE = "judge mercy 1 nerve 1;case a grave 1";
    private static final String JUDGE = "judge mercy 1 nerve 1";
    private static final String CASE = "case a grave 1";

    private TextBoundsTest() {
    }

    public static void main(String[] args) throws Exception {
        runTests(TextBoundsTest.class, 1, 6);
    }

    /** That a text is right of a town with one judge and one case. */
    private static HungryBench right(String text) {
        HungryBench x = town(ONE);
        tape(x, text);
        taken("assize of '" + text + "'", x::assize);
        due("texts behind '" + text + "'", x.count(2), 2);
        due("fault of '" + text + "'", x.fault(), -1);
        return x;
    }

    private static void wrongAt(String text, int fault) {
        HungryBench x = town(ONE);
        wrongAssize(x, text, fault);
        due("texts behind '" + text + "'", x.count(2), 1);
        due("judges behind '" + text + "'", x.count(0), 1);
        due("cases behind '" + text + "'", x.count(1), 1);
    }

    private static HungryBench rightLaw(String text, int lines) {
        HungryBench x = under("move 1;move 2", ONE);
        tape(x, text);
        due("law of '" + text + "'", x.law(), lines);
        due("lines behind '" + text + "'", x.count(3), lines);
        due("fault of '" + text + "'", x.fault(), -1);
        return x;
    }

    private static void wrongLawAt(String text, int fault) {
        HungryBench x = under("move 1;move 2", ONE);
        wrongLaw(x, text, fault);
        due("lines behind '" + text + "'", x.count(3), 2);
        due("point behind '" + text + "'", x.point(0, 0, 0), 3);
    }

    // ---- 1 a new object

    static void p1_aTownWithoutJudges() throws Exception {
        says("A town without JUDGES.");
        HungryBench x = new HungryBench();
        due("judges", x.count(0), 0);
        due("cases", x.count(1), 0);
        due("texts", x.count(2), 0);
        due("lines of no law", x.count(3), -1);
        for (int none : new int[] {0, -1}) {
            refused("judge", INDEX, () -> x.judge(none, 0));
            refused("listed", INDEX, () -> x.listed(none, 0));
            refused("list", INDEX, () -> x.list(none, 0, 0));
            refused("strike", INDEX, () -> x.strike(none, 0));
            refused("feeds", INDEX, () -> x.feeds(none));
            refused("fast", INDEX, () -> x.fast(none, 0));
            refused("crumbles", INDEX, () -> x.crumbles(none));
            refused("meals", INDEX, () -> x.meals(none, false));
            refused("tries", INDEX, () -> x.tries(none));
            refused("rather", INDEX, () -> x.rather(none, 0));
            refused("rests", INDEX, () -> x.rests(none));
            refused("odds", INDEX, () -> x.odds(none, 0));
            refused("cause", INDEX, () -> x.cause(none, 0));
            refused("appeal", INDEX, () -> x.appeal(none));
            refused("grave", INDEX, () -> x.grave(none, 0));
            refused("split", INDEX, () -> x.split(none));
            refused("ahead", INDEX, () -> x.ahead(none, 0));
            refused("led", INDEX, () -> x.led(none, false));
        }
        refused("pairs", INDEX, () -> x.pairs(0));
    }

    static void p1_noCallOfJudgesAndCasesWithoutBoth() throws Exception {
        says("IndexOutOfBoundsException: there is no such JUDGE, CASE, HOUR, KIND, CIRCUIT.");
        for (String text : new String[] {"", JUDGE, CASE}) {
            HungryBench x = town(text);
            refused("point", INDEX, () -> x.point(0, 0, 0));
            refused("would", INDEX, () -> x.would(0, 0, 0));
            refused("early", INDEX, () -> x.early(0, 0));
            refused("moved", INDEX, () -> x.moved(0, 0));
            refused("even", INDEX, () -> x.even(0, 0));
            refused("list", INDEX, () -> x.list(0, 0, 0));
        }
    }

    static void p1_hourAndDayAtFirst() throws Exception {
        says("HOURS 0 to 11 of a day, HOUR 0 at first, DAY 0 to 9999 (0 at first).");
        HungryBench x = new HungryBench();
        due("hour", x.count(4), 0);
        due("day", x.count(5), 0);
        due("11 hours without judges", x.hours(11), 0);
        due("hour 11", x.count(4), 11);
        due("day 0", x.count(5), 0);
        x.hours(1);
        due("hour 0 again", x.count(4), 0);
        due("day 1", x.count(5), 1);
    }

    static void p1_seedAtFirst() throws Exception {
        says("bits 16 to 30 (SEED 1 at first).");
        due("seed", new HungryBench().seed(0), 1);
        HungryBench x = new HungryBench();
        x.hours(48);
        due("no draws without judges", x.seed(0), 1);
    }

    static void p1_innAtFirst() throws Exception {
        says("INN of each HOUR 0 to 100 (0 at first): how likely crumbs are.");
        HungryBench x = new HungryBench();
        for (int h = 0; h < 12; h++) {
            due("inn " + h, x.smell(h), 0);
        }
        due("an inn is told without judges", x.inn(11, 100), 0);
        due("inn 11", x.smell(11), 100);
    }

    static void p1_ofNoneSetsAreNothing() throws Exception {
        says("Sets are bits; of none they count for nothing.");
        HungryBench x = new HungryBench();
        due("waiting", x.count(6), 0);
        due("in the list", x.count(7), 0);
        due("hunger of all", x.count(8), 0);
        due("rows", x.count(9), 0);
        due("acts", x.count(10), 0);
        due("saved", x.saved(false), 0);
        due("worth of those", x.saved(true), 0);
        due("needed", x.needed(), 0);
        due("deep", x.deep(), 0);
        due("roots", x.roots(), 0);
        due("agree", x.agree(), 0);
        due("twins", x.twins(), 0);
        due("pairs", x.pairs(-1), 0);
        for (int i = 0; i < 6; i++) {
            due("kind", x.kind(i), 0);
        }
        for (int i = 0; i < 4; i++) {
            due("state", x.state(i), 0);
        }
        for (int n : new int[] {0, 1, 48}) {
            due("trial", x.trial(n, false), 0);
            due("trial, undone", x.trial(n, true), 0);
            due("span", x.span(n, false), 0);
            due("span, most", x.span(n, true), 0);
        }
    }

    static void p1_noneOfNone() throws Exception {
        says("the JUDGE by whom the most are (of several the least; none without JUDGES)");
        HungryBench x = new HungryBench();
        due("NONE", HungryBench.NONE, -1);
        due("fault", x.fault(), -1);
        due("worst", x.worst(), -1);
        due("hungriest", x.hungriest(), -1);
        due("gravest", x.gravest(), -1);
        due("worth", x.worth(), -1);
        due("log", x.log(0, 0), -1000);
        due("undo", x.undo(), false);
        due("back", x.back(), false);
    }

    static void p1_eachObjectOnItsOwn() throws Exception {
        says("A town without JUDGES.");
        HungryBench x = standing();
        HungryBench y = new HungryBench();
        due("judges of another one", y.count(0), 0);
        due("tape of another one", y.end(1), false);
        due("fault of another one", y.fault(), -1);
        due("back of another one", y.back(), false);
        due("judges", x.count(0), 3);
    }

    // ---- 2 feed, 3 end

    static void p2_upTo400() throws Exception {
        says("how many it has; NONE, and none come, if it would have more than 400.");
        HungryBench x = new HungryBench();
        for (int n = 20; n <= 400; n += 20) {
            due("feed", x.feed(n, n, n, n, n), n);
        }
        due("a 401st to a 420th", x.feed(0, 0, 0, 0, 0), -1);
        due("none came", x.end(401), false);
        due("400 stay", x.end(400), true);
    }

    static void p2_beside400() throws Exception {
        says("NONE, and none come, if it would have more than 400.");
        int[][] rows = {{379, 399}, {380, 400}, {381, -1}, {399, -1}, {400, -1}};
        for (int[] row : rows) {
            HungryBench x = new HungryBench();
            tape(x, " ".repeat(row[0]));
            due("feed behind " + row[0], x.feed(0, 0, 0, 0, 0), row[1]);
            int has = row[1] < 0 ? row[0] : row[1];
            due("end beyond " + has, x.end(has + 1), false);
            due("end at " + has, x.end(has), true);
        }
    }

    static void p2_noneComeIntoAFullTape() throws Exception {
        says("NONE, and none come, if it would have more than 400.");
        HungryBench x = new HungryBench();
        tape(x, " ".repeat(375) + "move 1");
        due("feed", x.feed(0x37373737, 0x37373737, 0x37373737, 0x37373737, 0x37373737), -1);
        due("its bytes are the same", x.law(), 1);
        due("used up", x.end(1), false);
        due("room again", x.feed(0, 0, 0, 0, 0), 20);
    }

    static void p2_highestFirst() throws Exception {
        says("Twenty bytes come behind the TAPE, of each number the highest first");
        HungryBench x = new HungryBench();
        x.feed(0x20206461, 0x79202020, 0x20202020, 0x20202020, 0x31323320);
        x.assize();
        due("day", x.count(5), 123);
        x.feed(0x20202020, 0x64617920, 0x31202020, 0x20202020, 0x20202031);
        refused("a byte at the end", ARGUMENT, x::assize);
        due("it is the 20th", x.fault(), 19);
    }

    static void p2_behindTheTape() throws Exception {
        says("Twenty bytes come behind the TAPE");
        HungryBench x = new HungryBench();
        tape(x, "day 1");
        due("feed behind five", x.feed(0x32202020, 0x20202020, 0x20202020, 0x20202020, 0x20202020), 25);
        x.assize();
        due("day", x.count(5), 12);
        due("feed behind none", x.feed(0, 0, 0, 0, 0), 20);
    }

    static void p2_bytesAreOf0To255() throws Exception {
        says("Twenty bytes come behind the TAPE, of each number the highest first");
        for (int b : new int[] {0, 1, 31, 33, 127, 128, 129, 223, 254, 255}) {
            HungryBench x = new HungryBench();
            x.feed(0x64617920, 0x37000000 | b << 16, 0, 0, 0);
            x.end(6);
            refused("byte " + b, ARGUMENT, x::assize);
            due("fault of byte " + b, x.fault(), 5);
        }
        HungryBench x = new HungryBench();
        x.feed(0x64617920, 0x37200000, 0, 0, 0);
        x.end(6);
        due("byte 32", x.assize(), 1);
    }

    static void p3_firstNAlone() throws Exception {
        says("The TAPE has its first n bytes alone: true; false, and nothing happens, if it has fewer, or n is below 0.");
        HungryBench x = new HungryBench();
        due("end 0 of none", x.end(0), true);
        due("end 1 of none", x.end(1), false);
        due("end -1 of none", x.end(-1), false);
        x.feed(0x64617920, 0x37383920, 0x20202020, 0x20202020, 0x20202020);
        for (int n : new int[] {21, 22, 400, 401, MOST, -1, -2, LEAST}) {
            due("end " + n, x.end(n), false);
        }
        due("end 20 of 20", x.end(20), true);
        due("end 7 of 20", x.end(7), true);
        due("end 8 of 7", x.end(8), false);
        due("end 7 of 7", x.end(7), true);
        due("end 6 of 7", x.end(6), true);
        due("end 7 of 6", x.end(7), false);
        due("end -1 of 6", x.end(-1), false);
        due("text", x.assize(), 1);
        due("day", x.count(5), 78);
    }

    static void p3_nothingHappens() throws Exception {
        says("false, and nothing happens, if it has fewer, or n is below 0.");
        for (int n : new int[] {6, -1, LEAST, MOST, 400}) {
            HungryBench x = standing();
            due("end " + n, x.end(n), false);
            alike("behind end " + n, look(x), look(standing()));
        }
        HungryBench x = standing();
        due("end 5", x.end(5), true);
        alike("behind end 5", look(x), look(standing()));
    }

    static void p3_ofAFullTape() throws Exception {
        says("The TAPE has its first n bytes alone");
        HungryBench x = new HungryBench();
        tape(x, "move 1" + " ".repeat(394));
        due("end 401", x.end(401), false);
        due("end 400", x.end(400), true);
        due("end 399", x.end(399), true);
        due("end 400 of 399", x.end(400), false);
        due("law", x.law(), 1);
    }

    // ---- 4 assize

    static void p4_atMost12Texts() throws Exception {
        says("IllegalArgumentException: it is wrong; UnsupportedOperationException: there are 12.");
        HungryBench x = new HungryBench();
        for (int n = 1; n <= 12; n++) {
            tape(x, "day " + n);
            due("text " + n, x.assize(), n);
        }
        due("texts", x.count(2), 12);
        due("day of the 12th", x.count(5), 12);
        for (String text : new String[] {"day 13", "", "  ", JUDGE}) {
            tape(x, text);
            refused("a 13th", UNSUPPORTED, x::assize);
            due("texts", x.count(2), 12);
            due("day stays", x.count(5), 12);
            due("judges stay", x.count(0), 0);
            due("the tape is used up", x.end(1), false);
        }
    }

    static void p4_aWrongTextDoesNotCount() throws Exception {
        says("a text of THE ASSIZE: how many texts there are.");
        HungryBench x = town("day 1");
        for (int n = 0; n < 13; n++) {
            wrongAssize(x, "day", 3);
        }
        due("texts", x.count(2), 1);
        due("a second", tell(x, "day 2"), 2);
        due("a law is none of them", rule(x, ""), 0);
        due("texts", x.count(2), 2);
    }

    static void p4_refused13thChangesNothing() throws Exception {
        says("a call that throws changes nothing but the TAPE, where it is used up, and fault(), where a text is read "
                + "(also by one that is refused).");
        Recipe twelve = () -> {
            HungryBench x = standing();
            for (int n = 2; n <= 12; n++) {
                tell(x, "day " + n);
            }
            x.feeds(1);
            x.hours(1);
            refused("a wrong text", ARGUMENT, () -> tell(x, "case"));
            return x;
        };
        staysButText("a 13th", UNSUPPORTED, twelve, "judge mercy 1 nerve 1;inn 0 5;hour 7", -1, HungryBench::assize);
        staysButText("an empty 13th", UNSUPPORTED, twelve, "", -1, HungryBench::assize);
        staysButText("a wrong 13th", ARGUMENT, twelve, "hour 7;hour 12", 12, HungryBench::assize);
    }

    static void p4_toldFirst() throws Exception {
        says("Of several exceptions the one told first is thrown");
        HungryBench x = new HungryBench();
        for (int n = 1; n <= 12; n++) {
            tell(x, "");
        }
        wrongAssize(x, "hour 12", 5);
        wrongAssize(x, "judge", 5);
        tape(x, "hour 11");
        refused("a right 13th", UNSUPPORTED, x::assize);
        due("fault of a right 13th", x.fault(), -1);
    }

    static void p4_atMost14Lines() throws Exception {
        says("LINE { ; LINE }, at most 14: judge mercy N nerve N");
        right(times("day 1", 1));
        right(times("day 1", 13));
        due("day", right(times("day 1", 13) + ";day 5").count(5), 5);
        wrongAt(times("day 1", 15), 84);
        wrongAt(times("day 1", 14) + ";  hour 1", 86);
        wrongAt(times("day 1", 16), 84);
        wrongAt(times("day 1", 14) + ";", 84);
    }

    static void p4_linesWithASemicolonBetween() throws Exception {
        says("LINE { ; LINE }, at most 14: judge mercy N nerve N");
        wrongAt("day 1 day 2", 6);
        wrongAt("day 1 hour 2;day 2", 6);
        wrongAt("judge mercy 1 nerve 1 judge mercy 1 nerve 1", 22);
        wrongAt("case a grave 1 case a grave 1", 15);
        wrongAt("day 1;;day 2", 6);
        wrongAt(";day 1", 0);
        wrongAt("day 1,day 2", 5);
        due("two", right("day 1;day 2").count(5), 2);
    }

    static void p4_atMost5Judges() throws Exception {
        says("JUDGES (at most 5, numbered from 0 on)");
        HungryBench x = town(times(JUDGE, 4));
        due("four", x.count(0), 4);
        refused("number 4", INDEX, () -> x.judge(4, 0));
        tell(x, "judge mercy 7 nerve 1");
        due("five", x.count(0), 5);
        due("number 4", x.judge(4, 1), 7);
        wrongAssize(x, JUDGE, 0);
        wrongAssize(x, "day 3; " + JUDGE, 7);
        due("five stay", x.count(0), 5);
        due("day stays", x.count(5), 0);
        HungryBench y = new HungryBench();
        wrongAssize(y, times(JUDGE, 6), 5 * 22);
        due("none of six", y.count(0), 0);
        tell(y, times(JUDGE, 5));
        due("five at once", y.count(0), 5);
    }

    static void p4_atMost8Cases() throws Exception {
        says("CASES (at most 8, numbered from 0 on)");
        HungryBench x = town(times(CASE, 7));
        due("seven", x.count(1), 7);
        refused("number 7", INDEX, () -> x.cause(7, 0));
        tell(x, "case f grave 3");
        due("eight", x.count(1), 8);
        due("number 7", x.cause(7, 0), 5);
        wrongAssize(x, CASE, 0);
        wrongAssize(x, "day 3;" + CASE, 6);
        due("eight stay", x.count(1), 8);
        HungryBench y = new HungryBench();
        wrongAssize(y, times(CASE, 9), 8 * 15);
        due("none of nine", y.count(1), 0);
        tell(y, times(CASE, 8));
        due("eight at once", y.count(1), 8);
    }

    static void p4_mercy0To99() throws Exception {
        says("HUNGER 0 to 99 (0 at first), MERCY 0 to 99, NERVE 0 to 9, PAY 0 to 99 (0 at first).");
        for (int n : new int[] {0, 1, 98, 99}) {
            due("mercy " + n, right("judge mercy " + n + " nerve 0").judge(1, 1), n);
        }
        wrongAt("judge mercy 100 nerve 0", 12);
        wrongAt("judge mercy 999 nerve 0", 12);
        wrongAt("judge mercy -1 nerve 0", 12);
    }

    static void p4_nerve0To9() throws Exception {
        says("NERVE 0 to 9, PAY 0 to 99 (0 at first).");
        for (int n : new int[] {0, 1, 8, 9}) {
            due("nerve " + n, right("judge mercy 0 nerve " + n).judge(1, 2), n);
        }
        wrongAt("judge mercy 0 nerve 10", 20);
        wrongAt("judge mercy 0 nerve 010", 20);
        due("nerve 009", right("judge mercy 0 nerve 009").judge(1, 2), 9);
    }

    static void p4_hunger0To99() throws Exception {
        says("HUNGER 0 to 99 (0 at first), MERCY 0 to 99");
        for (int n : new int[] {0, 1, 98, 99}) {
            due("hunger " + n, right("judge mercy 0 nerve 0 hunger " + n).judge(1, 0), n);
        }
        wrongAt("judge mercy 0 nerve 0 hunger 100", 29);
        due("hunger at first", right("judge mercy 9 nerve 9 pay 9").judge(1, 0), 0);
    }

    static void p4_pay0To99() throws Exception {
        says("PAY 0 to 99 (0 at first).");
        for (int n : new int[] {0, 1, 98, 99}) {
            due("pay " + n, right("judge mercy 0 nerve 0 pay " + n).judge(1, 3), n);
        }
        wrongAt("judge mercy 0 nerve 0 pay 100", 26);
        wrongAt("judge mercy 0 nerve 0 hunger 5 pay 100", 35);
        due("pay at first", right("judge mercy 9 nerve 9 hunger 9").judge(1, 3), 0);
    }

    static void p4_whatMayStandAndWhatMust() throws Exception {
        says("judge mercy N nerve N [ hunger N ] [ pay N ] | case K grave N [ worth N ] [ on C ] | list J H C | inn H N "
                + "| hour H | day N.");
        HungryBench x = right("judge mercy 2 nerve 3 hunger 4 pay 5");
        due("hunger", x.judge(1, 0), 4);
        due("pay", x.judge(1, 3), 5);
        wrongAt("judge mercy 2 nerve 3 pay 5 hunger 4", 28);
        wrongAt("judge mercy 2 nerve 3 hunger 4 hunger 4", 31);
        wrongAt("judge mercy 2 nerve 3 pay 4 pay 4", 28);
        wrongAt("judge nerve 3 mercy 2", 6);
        wrongAt("judge mercy 2", 13);
        HungryBench y = right("case b grave 2 worth 3 on 0");
        due("worth", y.cause(1, 2), 3);
        due("leans", y.cause(1, 3), 0);
        wrongAt("case b grave 2 on 0 worth 3", 20);
        wrongAt("case b grave 2 worth 3 worth 3", 23);
        wrongAt("case b worth 2", 7);
        wrongAt("case b grave 2 on 0 on 0", 20);
        wrongAt("list 0 0", 8);
        wrongAt("list 0 0 0 0", 11);
        wrongAt("inn 0", 5);
        wrongAt("inn 0 0 0", 8);
        wrongAt("hour", 4);
        wrongAt("hour 0 0", 7);
        wrongAt("day", 3);
        wrongAt("day 0 0", 6);
    }

    static void p4_kindAToF() throws Exception {
        says("a KIND a to f (0 to 5)");
        String kinds = "abcdef";
        for (int k = 0; k < 6; k++) {
            due("kind " + k, right("case " + kinds.charAt(k) + " grave 0").cause(1, 0), k);
        }
        for (String bad : new String[] {"g", "z", "A", "`", "aa", "fa", "0", "{"}) {
            wrongAt("case " + bad + " grave 0", 5);
        }
    }

    static void p4_grave0To99() throws Exception {
        says("GRAVE 0 to 99, WORTH 0 to 99 (1 at first), LEANS on a CASE of a lesser number or on none (at first)");
        for (int n : new int[] {0, 1, 98, 99}) {
            due("grave " + n, right("case a grave " + n).cause(1, 1), n);
        }
        wrongAt("case a grave 100", 13);
    }

    static void p4_worth0To99() throws Exception {
        says("WORTH 0 to 99 (1 at first)");
        for (int n : new int[] {0, 1, 98, 99}) {
            due("worth " + n, right("case a grave 5 worth " + n).cause(1, 2), n);
        }
        wrongAt("case a grave 5 worth 100", 21);
        due("worth at first", right("case a grave 5").cause(1, 2), 1);
        due("worth at first", right("case a grave 5 on 0").cause(1, 2), 1);
    }

    static void p4_leansOnALesserNumber() throws Exception {
        says("LEANS on a CASE of a lesser number or on none (at first)");
        HungryBench none = new HungryBench();
        wrongAssize(none, "case a grave 1 on 0", 18);
        due("no case of it stays", none.count(1), 0);
        due("leans on none", right(CASE).cause(1, 3), -1);
        due("1 leans on 0", right(CASE + " on 0").cause(1, 3), 0);
        wrongAt(CASE + " on 1", 18);
        wrongAt(CASE + " on 2", 18);
        wrongAt(CASE + " on 8", 18);
        HungryBench x = town(times(CASE, 7));
        HungryBench y = town(times(CASE, 7));
        wrongAssize(x, CASE + " on 7", 18);
        due("7 leans on 6", tell(x, CASE + " on 6"), 2);
        due("7 leans on 6", x.cause(7, 3), 6);
        due("7 leans on 0", tell(y, CASE + " on 0"), 2);
        due("7 leans on 0", y.cause(7, 3), 0);
        due("one of the same text", right(CASE + ";" + CASE + " on 1").cause(2, 3), 1);
    }

    static void p4_caseAtFirst() throws Exception {
        says("a STATE: 0 waiting (at first), 1 freed, 2 hanged, 3 undone; BY: the JUDGE who heard it (none at first), and "
                + "the DAY.");
        HungryBench x = town("day 5;" + ONE);
        due("state", x.cause(0, 4), 0);
        due("by", x.cause(0, 5), -1);
        due("day", x.cause(0, 6), -1);
        due("judge in the list", x.cause(0, 7), -1);
        due("hour in the list", x.cause(0, 8), -1);
    }

    static void p4_listAJudgeThereIsByThen() throws Exception {
        says("J, C: a JUDGE, a CASE that there is by then; H: an HOUR");
        HungryBench none = new HungryBench();
        wrongAssize(none, "list 0 0 0", 5);
        wrongAssize(none, CASE + ";list 0 0 0", 20);
        wrongAssize(none, CASE + ";list 0 0 0;" + JUDGE, 20);
        due("told ahead of it", tell(none, JUDGE + ";" + CASE + ";list 0 0 0"), 1);
        due("listed", none.listed(0, 0), 0);
        right("list 0 0 0");
        wrongAt("list 1 0 0", 5);
        right(JUDGE + ";list 1 0 0");
        HungryBench five = town(times(JUDGE, 5) + ";" + CASE);
        wrongAssize(five, "list 5 0 0", 5);
        due("the last judge", tell(five, "list 4 0 0"), 2);
        due("listed", five.listed(4, 0), 0);
    }

    static void p4_listAnHour() throws Exception {
        says("J, C: a JUDGE, a CASE that there is by then; H: an HOUR");
        due("hour 0", right("list 0 0 0").listed(0, 0), 0);
        due("hour 10", right("list 0 10 0").listed(0, 10), 0);
        due("hour 11", right("list 0 11 0").listed(0, 11), 0);
        wrongAt("list 0 12 0", 7);
        wrongAt("list 0 999 0", 7);
    }

    static void p4_listACaseThereIsByThen() throws Exception {
        says("J, C: a JUDGE, a CASE that there is by then; H: an HOUR");
        HungryBench none = town(JUDGE);
        wrongAssize(none, "list 0 0 0", 9);
        wrongAssize(none, "list 0 0 0;" + CASE, 9);
        due("told ahead of it", tell(none, CASE + ";list 0 0 0"), 2);
        wrongAt("list 0 0 1", 9);
        right(CASE + ";list 0 0 1");
        HungryBench eight = town(JUDGE + ";" + times(CASE, 8));
        wrongAssize(eight, "list 0 0 8", 9);
        due("the last case", tell(eight, "list 0 0 7"), 2);
        due("listed", eight.listed(0, 0), 7);
    }

    static void p4_listACaseThatStandsNowhere() throws Exception {
        says("list: a CASE, waiting or not, that stands nowhere in THE LIST by then, else it is wrong at it; what stood "
                + "there stands nowhere");
        wrongAt("list 0 0 0;list 0 1 0", 20);
        wrongAt("list 0 0 0;list 0 0 0", 20);
        wrongAt("list 0 11 0;list 0 0 0", 21);
        HungryBench x = right(CASE + ";list 0 3 0;list 0 3 1;list 0 4 0");
        due("what stood there stands nowhere, and may stand again", x.listed(0, 4), 0);
        due("listed", x.listed(0, 3), 1);
        HungryBench y = right(CASE + ";list 0 3 0;list 0 3 1");
        due("it stands nowhere", y.cause(0, 7), -1);
        due("in the list", y.count(7), 2);
        wrongAssize(y, "list 0 0 1", 9);
        y.strike(0, 3);
        due("struck, it may be told", tell(y, "list 0 0 1"), 3);
    }

    static void p4_listACaseWaitingOrNot() throws Exception {
        says("list: a CASE, waiting or not, that stands nowhere in THE LIST by then");
        HungryBench x = town("judge mercy 50 nerve 9;case a grave 1;list 0 0 0");
        x.hours(1);
        due("freed", x.cause(0, 4), 1);
        wrongAssize(x, "list 0 5 0", 9);
        due("it stands where it was heard", x.listed(0, 0), 0);
        x.strike(0, 0);
        due("text", tell(x, "list 0 5 0"), 2);
        due("listed", x.listed(0, 5), 0);
        due("freed still", x.cause(0, 4), 1);
        due("heard no more", x.hours(11), 0);
    }

    static void p4_innHourAndNumber() throws Exception {
        says("INN of each HOUR 0 to 100 (0 at first)");
        for (int h : new int[] {0, 1, 10, 11}) {
            for (int n : new int[] {0, 1, 99, 100}) {
                due("inn " + h + " " + n, right("inn " + h + " " + n).smell(h), n);
            }
        }
        wrongAt("inn 12 1", 4);
        wrongAt("inn 0 101", 6);
        wrongAt("inn 11 101", 7);
    }

    static void p4_hour0To11() throws Exception {
        says("HOURS 0 to 11 of a day");
        for (int h : new int[] {0, 1, 10, 11}) {
            due("hour " + h, right("hour " + h).count(4), h);
        }
        wrongAt("hour 12", 5);
        wrongAt("hour 99", 5);
        due("the latest counts", right("hour 3;hour 4").count(4), 4);
    }

    static void p4_day0To999() throws Exception {
        says("what stood there stands nowhere; day: 0 to 999.)");
        for (int d : new int[] {0, 1, 998, 999}) {
            due("day " + d, right("day " + d).count(5), d);
        }
        wrongAt("day 1000", 4);
        wrongAt("day 9999", 4);
        HungryBench x = town("day 999;hour 11");
        x.hours(1);
        due("a day more", x.count(5), 1000);
    }

    static void p4_numbersOf1To3Digits() throws Exception {
        says("Numbers are of 1 to 3 digits.");
        due("one", right("day 7").count(5), 7);
        due("two", right("day 07").count(5), 7);
        due("three", right("day 007").count(5), 7);
        wrongAt("day 0007", 4);
        wrongAt("day 00000007", 4);
        wrongAt("day ", 4);
        wrongAt("day ;", 4);
        wrongAt("judge mercy 0001 nerve 0", 12);
        wrongAt("case a grave 0000", 13);
        wrongAt("inn 0 0100", 6);
        wrongAt("list 0000 0 0", 5);
        due("000", right("list 000 000 000").listed(0, 0), 0);
    }

    static void p4_digits0To9() throws Exception {
        says("Numbers are of 1 to 3 digits.");
        due("0", right("day 10").count(5), 10);
        due("9", right("day 19").count(5), 19);
        wrongAt("day 1/", 5);
        wrongAt("day 1:", 5);
        wrongAt("day /", 4);
        wrongAt("day :", 4);
        wrongAt("day +1", 4);
    }

    static void p4_wordsAsLongAsLettersGoOn() throws Exception {
        says("Words are as long as a to z go on; between all there may be blanks (32), also ahead and behind.");
        wrongAt("dayday 1", 0);
        wrongAt("judgemercy 1 nerve 1", 0);
        wrongAt("da y 1", 0);
        wrongAt("days 1", 0);
        wrongAt("daya 1", 0);
        wrongAt("dayz 1", 0);
        wrongAt("aday 1", 0);
        wrongAt("zday 1", 0);
        wrongAt("z 1", 0);
        wrongAt("`day 1", 0);
        wrongAt("{day 1", 0);
        wrongAt("day` 1", 3);
        wrongAt("day{ 1", 3);
        wrongAt("dayA 1", 3);
        due("day1", right("day1").count(5), 1);
        due("without blanks", right("judge mercy2nerve3hunger4pay5").judge(1, 3), 5);
        due("without blanks", right("case a grave5worth6on0").cause(1, 3), 0);
    }

    static void p4_blanksBetweenAll() throws Exception {
        says("between all there may be blanks (32), also ahead and behind.");
        due("ahead and behind", right("   day   3   ;   hour   4   ").count(4), 4);
        due("of two numbers one", right("day 1;day 23").count(5), 23);
        wrongAt("day 1 23", 6);
        for (char c : new char[] {0, 9, 10, 13, 31, 33, 127, 160, 255}) {
            wrongAt("day" + c + "3", 3);
            wrongAt(c + "day 3", 0);
            wrongAt("day 3" + c, 5);
        }
    }

    static void p4_emptyTextsHaveNoLine() throws Exception {
        says("A text that is empty, or blanks alone, has no LINE.");
        for (String text : new String[] {"", " ", " ".repeat(399), " ".repeat(400)}) {
            HungryBench x = right(text);
            due("judges", x.count(0), 1);
            due("cases", x.count(1), 1);
        }
        wrongAt(" ;", 1);
        wrongAt("day 1;", 6);
    }

    static void p4_longestText() throws Exception {
        says("Uses the TAPE up: a text of THE ASSIZE: how many texts there are.");
        String text = "day 3" + " ".repeat(388) + ";hour 9";
        due("400 bytes", right(text).count(4), 9);
        due("the 400th, too", right("day 3" + " ".repeat(389) + ";hour4").count(4), 4);
        wrongAt("day 3" + " ".repeat(388) + ";hour x", 399);
        wrongAt("day 3" + " ".repeat(391) + ";day", 400);
        wrongAt(";".repeat(400), 0);
        wrongAt("day" + " ".repeat(397), 400);
    }

    static void p4_usesTheTapeUp() throws Exception {
        says("Uses the TAPE up: a text of THE ASSIZE");
        HungryBench x = right("day 3");
        due("behind a right one", x.end(1), false);
        due("feed", x.feed(0, 0, 0, 0, 0), 20);
        wrongAssize(x, "day x", 4);
        due("behind a wrong one", x.end(1), false);
        due("nothing is an empty text", x.assize(), 3);
    }

    static void p4_ofAWrongTextNothingStays() throws Exception {
        says("Of a wrong text nothing stays.");
        String all = "judge mercy 1 nerve 1;case a grave 1;list 2 11 4;inn 3 50;hour 9;day 77;";
        HungryBench x = standing();
        x.strike(2, 5);
        due("right but for its end", tell(x, all + "day 5"), 2);
        due("day", x.count(5), 5);
        Recipe struck = () -> {
            HungryBench y = standing();
            y.strike(2, 5);
            return y;
        };
        staysButText("a text with a wrong line", ARGUMENT, struck, all + "bench", all.length(), HungryBench::assize);
        staysButText("a text with more to come", ARGUMENT, struck, all, all.length(), HungryBench::assize);
        staysButText("a text cut in its last number", ARGUMENT, struck, all + "inn 1", all.length() + 5,
                HungryBench::assize);
        staysButText("a case with a wrong end", ARGUMENT, struck, "case a grave 1 on 5", 18, HungryBench::assize);
        staysButText("a judge with a wrong end", ARGUMENT, struck, "judge mercy 1 nerve 1 pay 100", 26,
                HungryBench::assize);
        staysButText("a case listed in place of one", ARGUMENT, Check::standing, "list 0 0 1;list 0 1 0;list 1 1 1", 31,
                HungryBench::assize);
    }

    static void p4_aTextForgetsActs() throws Exception {
        says("A text, going back: none are remembered.");
        HungryBench x = standing();
        due("acts", x.count(10), 4);
        x.assize();
        due("acts behind a text", x.count(10), 0);
        due("undo behind a text", x.undo(), false);
        HungryBench y = standing();
        tell(y, "");
        due("undo behind an empty text", y.undo(), false);
        due("the image is there still", y.back(), true);
        due("texts of the image", y.count(2), 1);
    }

    // ---- 5 law

    static void p5_atMost12Lines() throws Exception {
        says("LINE { ; LINE }, at most 12: move N [ if C ] | harden N [ if C ] | crumb N [ if C ].");
        rightLaw("move 1", 1);
        due("11", rightLaw(times("move 9", 11), 11).point(0, 0, 0), 99);
        due("12", rightLaw(times("move 9", 12), 12).point(0, 0, 0), 108);
        wrongLawAt(times("move 9", 13), 84);
        wrongLawAt(times("move 9", 12) + ";", 84);
        wrongLawAt(times("move 9", 12) + "; tax", 85);
        due("no lines", rightLaw("", 0).point(0, 0, 0), 0);
    }

    static void p5_linesWithASemicolonBetween() throws Exception {
        says("LINE { ; LINE }, at most 12: move N");
        wrongLawAt("move 1 move 2", 7);
        wrongLawAt("move 1 if late move 2", 15);
        wrongLawAt("move 1;;move 2", 7);
        wrongLawAt(";move 1", 0);
        wrongLawAt("move 1 if late if late", 15);
    }

    static void p5_n0To99() throws Exception {
        says("All numbers are of 1 to 3 digits (N 0 to 99).");
        for (int n : new int[] {0, 1, 98, 99}) {
            due("move " + n, rightLaw("move " + n, 1).point(0, 0, 0), n);
            due("harden " + n, rightLaw("harden " + n, 1).point(0, 0, 0), -n);
            due("crumb " + n, rightLaw("crumb " + n, 1).judge(0, 4), Math.max(0, n - 10));
        }
        wrongLawAt("move 100", 5);
        wrongLawAt("harden 100", 7);
        wrongLawAt("crumb 100", 6);
        wrongLawAt("move 0099", 5);
        due("move 099", rightLaw("move 099", 1).point(0, 0, 0), 99);
    }

    static void p5_partsOf1To3Digits() throws Exception {
        says("All numbers are of 1 to 3 digits (N 0 to 99).");
        due("999", rightLaw("move 5 if 998 < 999", 1).point(0, 0, 0), 5);
        due("999", rightLaw("move 5 if 999 < 999", 1).point(0, 0, 0), 0);
        due("000", rightLaw("move 5 if 000 < 001", 1).point(0, 0, 0), 5);
        wrongLawAt("move 5 if 1000 > 1", 10);
        wrongLawAt("move 5 if 1 < 1000", 14);
        wrongLawAt("move 5 if 0000 < 1", 10);
    }

    static void p5_lessAndMoreAreStrict() throws Exception {
        says("SUM < SUM | SUM > SUM. SUM: PART { + PART }");
        int[][] rows = {{4, 5, 1, 0}, {5, 5, 0, 0}, {6, 5, 0, 1}};
        for (int[] row : rows) {
            due("<", rightLaw("move 1 if " + row[0] + " < " + row[1], 1).point(0, 0, 0), row[2]);
            due(">", rightLaw("move 1 if " + row[0] + " > " + row[1], 1).point(0, 0, 0), row[3]);
        }
        due("sums", rightLaw("move 1 if 1 + 2 + 3 < 3 + 4", 1).point(0, 0, 0), 1);
        due("sums", rightLaw("move 1 if 1 + 2 + 4 < 3 + 4", 1).point(0, 0, 0), 0);
        wrongLawAt("move 1 if 1 = 1", 12);
        wrongLawAt("move 1 if 1 1 < 2", 12);
        wrongLawAt("move 1 if hour hour < 2", 15);
        wrongLawAt("move 1 if 1 late", 12);
        wrongLawAt("move 1 if 1 < 2 3", 16);
        wrongLawAt("move 1 if 1 < 1 < 1", 16);
        wrongLawAt("move 1 if 1", 11);
        wrongLawAt("move 1 if 1 +", 13);
        wrongLawAt("move 1 if + 1 < 1", 10);
    }

    static void p5_factsOfAJudgeACaseAnHour() throws Exception {
        says("PART: NUMBER | judge | hunger | nerve | kind | grave | worth | hour.");
        HungryBench x = town("judge mercy 1 nerve 1;judge mercy 0 nerve 7 hunger 50;"
                + "case a grave 1;case e grave 60 worth 20");
        String[] facts = {"judge", "hunger", "nerve", "kind", "grave", "worth", "hour"};
        int[] are = {1, 50, 7, 4, 60, 20, 9};
        for (int i = 0; i < facts.length; i++) {
            for (int beside = -1; beside <= 1; beside++) {
                int n = are[i] + beside;
                rule(x, "move 99 if " + facts[i] + " < " + n);
                due(facts[i] + " < " + n, x.point(1, 1, 9), beside > 0 ? 89 : -10);
                rule(x, "move 99 if " + n + " < " + facts[i]);
                due(n + " < " + facts[i], x.point(1, 1, 9), beside < 0 ? 89 : -10);
            }
        }
        wrongLaw(x, "move 1 if mercy < 1", 10);
        wrongLaw(x, "move 1 if pay < 1", 10);
        wrongLaw(x, "move 1 if day < 1", 10);
        wrongLaw(x, "move 1 if inn < 1", 10);
        wrongLaw(x, "move 1 if case < 1", 10);
    }

    static void p5_lateFrom6On() throws Exception {
        says("late: the HOUR is 6 at least; kind 0 to 5.");
        HungryBench x = rightLaw("move 9 if late", 1);
        for (int h = 0; h < 12; h++) {
            due("hour " + h, x.point(0, 0, h), h >= 6 ? 9 : 0);
        }
    }

    static void p5_kind0To5() throws Exception {
        says("late: the HOUR is 6 at least; kind 0 to 5.");
        HungryBench x = town("judge mercy 0 nerve 0;case a grave 0;case f grave 0");
        rule(x, "move 1 if kind < 1;move 2 if kind > 4;move 4 if kind > 5");
        due("a", x.point(0, 0, 0), 1);
        due("f", x.point(0, 1, 0), 2);
    }

    static void p5_leaningAndPrecedent() throws Exception {
        says("leaning: the CASE LEANS on one; precedent: that one is freed");
        HungryBench x = under("move 1 if leaning;move 2 if precedent", "judge mercy 50 nerve 9;judge mercy 0 nerve 9;"
                + "case a grave 50;case a grave 0 on 0;case a grave 0 on 1;list 0 0 0;list 0 1 1");
        due("leans on none", x.point(0, 0, 0), 0);
        due("that one waits", x.point(0, 1, 0), 51);
        x.hours(1);
        due("that one is freed", x.point(1, 1, 0), 1 + 3);
        due("that of that one is", x.point(1, 2, 0), 1 + 1);
        HungryBench y = under("move 1 if leaning;move 2 if precedent", "judge mercy 50 nerve 9;case a grave 51;"
                + "case a grave 0 on 0;list 0 0 0");
        y.hours(1);
        due("that one is hanged", y.point(0, 1, 0), 52);
        HungryBench z = under("move 1 if leaning;move 2 if precedent", "judge mercy 50 nerve 0;case a grave 50;"
                + "case a grave 0 on 0;list 0 0 0;inn 0 100");
        z.hours(1);
        due("that one is undone", z.point(0, 1, 0), 51);
    }

    static void p5_eachAtomIsSoOrNot() throws Exception {
        says("ATOM: not ATOM | ( C )");
        String[] atoms = {"leaning", "precedent", "late", "hour > 5", "5 < hour"};
        for (String atom : atoms) {
            // case 1 in hour 6: all hold; case 0 in hour 5: none holds
            atom(atom, true);
            atom("not not " + atom, true);
            atom("(" + atom + ")", true);
            atom("not " + atom, false);
            atom("not (" + atom + ")", false);
            for (String other : atoms) {
                atom(atom + " and " + other, true);
                atom(atom + " or " + other, true);
                atom("not " + atom + " or not " + other, false);
                atom("not " + atom + " and not " + other, false);
                due("not so and so", point("not " + atom + " and " + other, 1, 6), 0);
                due("not so or so", point("not " + atom + " or " + other, 1, 6), 1);
            }
        }
    }

    private static void atom(String condition, boolean ofAll) {
        due(condition + ", where all hold", point(condition, 1, 6), ofAll ? 1 : 0);
        due(condition + ", where none holds", point(condition, 0, 5), ofAll ? 0 : 1);
    }

    /** By how much a condition moves the judge. */
    private static int point(String condition, int cause, int hour) {
        HungryBench x = under("move 1 if " + condition,
                "judge mercy 50 nerve 9;case a grave 0;case a grave 0 on 0;list 0 0 0");
        x.hours(1);
        return x.point(0, cause, hour) - x.judge(0, 0) - x.judge(0, 1) + x.cause(cause, 1);
    }

    static void p5_atMost6Deep() throws Exception {
        says("( and not within one another at most 6 deep.");
        String[] open = {"(", "not ", "not(", "(not "};
        for (int deep = 5; deep <= 7; deep++) {
            for (int first = 0; first < 2; first++) {
                for (int second = 0; second < 2; second++) {
                    StringBuilder s = new StringBuilder("move 9 if ");
                    StringBuilder close = new StringBuilder();
                    int seventh = 0;
                    for (int n = 1; n <= deep; n++) {
                        String thing = open[n % 2 == 0 ? first : second];
                        seventh = n == 7 ? s.length() : seventh;
                        s.append(thing);
                        close.append(thing.equals("(") ? ")" : "");
                    }
                    s.append("late").append(close);
                    if (deep == 7) {
                        wrongLawAt(s.toString(), seventh);
                    } else {
                        rightLaw(s.toString(), 1);
                    }
                }
            }
        }
        rightLaw("move 9 if not(not(not(late)))", 1);
        wrongLawAt("move 9 if not(not(not(not late)))", 22);
        wrongLawAt("move 9 if not(not(not((late))))", 22);
    }

    static void p5_deepBesideOneAnother() throws Exception {
        says("( and not within one another at most 6 deep.");
        String six = "((((((late))))))";
        rightLaw("move 9 if " + six + " and " + six + " or " + six, 1);
        rightLaw("move 9 if " + six + ";move 9 if not not not not not not late", 2);
        wrongLawAt("move 9 if " + six + " and (" + six + ")", 37);
        due("seven notes, not within one another",
                rightLaw("move 1 if not late and not late and not late and not late and not late and not late and "
                        + "not late", 1).point(0, 0, 0), 1);
        due("six not", rightLaw("move 1 if not not not not not not late", 1).point(0, 0, 6), 1);
        due("five not", rightLaw("move 1 if not not not not not late", 1).point(0, 0, 6), 0);
        due("six (", rightLaw("move 1 if " + six, 1).point(0, 0, 6), 1);
    }

    static void p5_andOrNot() throws Exception {
        says("C: ALL { or ALL }; ALL: ATOM { and ATOM }; ATOM: not ATOM | ( C )");
        String no = "1<0";
        String yes = "0<1";
        for (int i = 0; i < 8; i++) {
            boolean a = (i & 4) != 0;
            boolean b = (i & 2) != 0;
            boolean c = (i & 1) != 0;
            String x = a ? yes : no;
            String y = b ? yes : no;
            String z = c ? yes : no;
            condition(x + " and " + y + " or " + z, a && b || c);
            condition(x + " or " + y + " and " + z, a || b && c);
            condition("(" + x + " or " + y + ") and " + z, (a || b) && c);
            condition(x + " and (" + y + " or " + z + ")", a && (b || c));
            condition("not " + x + " and " + y, !a && b);
            condition("not " + x + " or " + y, !a || b);
            condition("not (" + x + " and " + y + ") or " + z, !(a && b) || c);
            condition(x + " or " + y + " or " + z, a || b || c);
            condition(x + " and " + y + " and " + z, a && b && c);
        }
    }

    private static void condition(String text, boolean holds) {
        due(text, rightLaw("move 1 if " + text, 1).point(0, 0, 0), holds ? 1 : 0);
    }

    static void p5_longestLaw() throws Exception {
        says("Uses the TAPE up: THE LAW: how many LINES. IllegalArgumentException: the text is wrong.");
        String sum = "move 9 if 0" + "+1".repeat(192) + "<192";
        due("399 bytes", sum.length(), 399);
        due("192 < 192", rightLaw(sum, 1).point(0, 0, 0), 0);
        due("192 < 193", rightLaw(sum.replace("<192", "<193"), 1).point(0, 0, 0), 9);
        String brim = sum + " ";
        due("400 bytes", rightLaw(brim.replace("<192", "<193"), 1).point(0, 0, 0), 9);
        wrongLawAt(sum.replace("<192", "+1+1"), 399);
        wrongLawAt(sum.replace("<192", "+1+1") + " ", 400);
        wrongLawAt(sum.replace("<192", "+1+1") + "+", 400);
        wrongLawAt("(".repeat(400), 0);
        wrongLawAt("move 1 if " + "(".repeat(390), 16);
        wrongLawAt("move 1 if " + "not".repeat(130), 10);
        wrongLawAt(" ".repeat(399) + "x", 399);
    }

    static void p5_emptyLawHasNoLine() throws Exception {
        says("A text that is empty, or blanks alone, has no LINE.");
        for (String text : new String[] {"", " ", " ".repeat(400)}) {
            due("point", rightLaw(text, 0).point(0, 0, 0), 0);
        }
        wrongLawAt(";", 0);
        wrongLawAt("move 1;", 7);
        wrongLawAt("move 1 ; ", 9);
    }

    static void p5_inPlaceOfTheOneBefore() throws Exception {
        says("THE LAW (a text, in place of the one before)");
        HungryBench x = rightLaw("harden 5;harden 6;harden 7", 3);
        due("point", x.point(0, 0, 0), -18);
        for (int n = 0; n < 40; n++) {
            rule(x, "move 9");
        }
        due("of 40 the latest alone", x.point(0, 0, 0), 9);
        due("lines", x.count(3), 1);
        due("texts of the assize", x.count(2), 1);
    }

    static void p5_blanksAndWords() throws Exception {
        says("Words are as long as a to z go on; between all there may be blanks (32), also ahead and behind.");
        due("without blanks", rightLaw("move9if(0<1)and(hour+1>0)or(not(late))", 1).point(0, 0, 0), 9);
        due("with blanks", rightLaw("  move  9  if  (  0  <  1  )  ", 1).point(0, 0, 0), 9);
        wrongLawAt("move 9 if notlate", 10);
        wrongLawAt("move 9 iflate", 7);
        wrongLawAt("move 9 if late andlate", 15);
        wrongLawAt("moves 9", 0);
        wrongLawAt("move\t9", 4);
        wrongLawAt("move 9" + (char) 160, 6);
    }

    static void p5_ofAWrongLawNothingStays() throws Exception {
        says("Of a wrong text nothing stays.");
        staysButText("a law with a wrong line", ARGUMENT, Check::standing, "move 50;harden 9 if late;crumb 80;tax", 34,
                HungryBench::law);
        staysButText("a law with more to come", ARGUMENT, Check::standing, "move 50;", 8, HungryBench::law);
        staysButText("a law with an open (", ARGUMENT, Check::standing, "move 50 if (late", 16, HungryBench::law);
        staysButText("a text of the assize", ARGUMENT, Check::standing, "day 7", 0, HungryBench::law);
        HungryBench x = new HungryBench();
        wrongLaw(x, "move", 4);
        due("still none", x.count(3), -1);
    }

    static void p5_aLawForgetsActs() throws Exception {
        says("A text, going back: none are remembered.");
        HungryBench x = standing();
        rule(x, "");
        due("acts behind a law", x.count(10), 0);
        due("undo behind a law", x.undo(), false);
        due("the image is there still", x.back(), true);
        due("lines of the image", x.count(3), 3);
    }

    static void p5_usesTheTapeUp() throws Exception {
        says("Uses the TAPE up: THE LAW: how many LINES.");
        HungryBench x = rightLaw("move 3", 1);
        due("behind a right one", x.end(1), false);
        wrongLaw(x, "move", 4);
        due("behind a wrong one", x.end(1), false);
        due("nothing is an empty law", x.law(), 0);
    }

    static void p5_noBoundOfLaws() throws Exception {
        says("THE ASSIZE is told in texts (at most 12, one behind another)");
        HungryBench x = town("", "", "", "", "", "", "", "", "", "", "", "");
        due("twelve texts", x.count(2), 12);
        for (int n = 0; n < 14; n++) {
            due("a law more", rule(x, "move 1"), 1);
        }
    }

    // ---- 6 fault

    static void p6_aheadOfAnyAndWithoutOne() throws Exception {
        says("The first wrong byte of the latest text that was read; NONE without one, and ahead of any.");
        HungryBench x = new HungryBench();
        due("ahead of any", x.fault(), -1);
        wrongAssize(x, "day x", 4);
        due("asked again", x.fault(), 4);
        tell(x, "day 1");
        due("a right text", x.fault(), -1);
        wrongLaw(x, "move 1 if", 9);
        rule(x, "");
        due("a right law", x.fault(), -1);
        wrongLaw(x, "tax", 0);
        wrongAssize(x, "   tax", 3);
        due("of the latest", x.fault(), 3);
        tell(x, "");
        due("an empty text", x.fault(), -1);
    }

    static void p6_ofARefusedText() throws Exception {
        says("fault(), where a text is read (also by one that is refused).");
        HungryBench x = new HungryBench();
        for (int n = 0; n < 12; n++) {
            tell(x, "");
        }
        wrongLaw(x, "tax 5", 0);
        tape(x, "day 5");
        refused("a 13th", UNSUPPORTED, x::assize);
        due("of a right 13th", x.fault(), -1);
        wrongAssize(x, "day 5 5", 6);
        tape(x, "day 5");
        refused("a 14th", UNSUPPORTED, x::assize);
        due("of another right one", x.fault(), -1);
    }

    static void p6_ofTextsAlone() throws Exception {
        says("The first wrong byte of the latest text that was read");
        HungryBench x = standing();
        due("fault", x.fault(), 4);
        tape(x, "");
        x.meals(0, false);
        refused("judge", INDEX, () -> x.judge(9, 9));
        tape(x, "xy");
        refused("meals", ARGUMENT, () -> x.meals(0, false));
        x.undo();
        x.image();
        x.back();
        due("fault stays", x.fault(), 4);
    }

    static void p6_numberOfMoreDigits() throws Exception {
        says("the begin of the first thing that cannot stand there (a number of more digits, or out of its bounds, or "
                + "that tells none that can be");
        wrongAt("  day  0001", 7);
        wrongAt("day 00000000000000000001", 4);
        wrongAt("day 99999999999999999999", 4);
        wrongAt("judge mercy 5 nerve 0001", 20);
        wrongLawAt("move 0001", 5);
        wrongLawAt("move 1 if 1 + 0001 < 1", 14);
    }

    static void p6_numberOutOfItsBounds() throws Exception {
        says("or out of its bounds, or that tells none that can be");
        wrongAt("day 1;judge mercy 100 nerve 5", 18);
        wrongAt("day 1;judge mercy 99 nerve 10", 27);
        wrongAt("hour 12", 5);
        wrongAt("inn 11 101", 7);
        wrongAt("day 1;list 1 0 0", 11);
        wrongAt("day 1;list 0 0 1", 15);
        wrongAt("case a grave 0 on 1", 18);
        wrongLawAt("move 5; move 100", 13);
    }

    static void p6_lettersAndWords() throws Exception {
        says("letters that are none such; a word that is none");
        wrongAt("case g grave 1", 5);
        wrongAt("case abc grave 1", 5);
        wrongAt("case judge grave 1", 5);
        wrongAt("bench", 0);
        wrongAt("a", 0);
        wrongAt("judge merciful 1", 6);
        wrongAt("judge nerve 1", 6);
        wrongAt("move 1", 0);
        wrongLawAt("judge mercy 1", 0);
        wrongLawAt("move 1 when late", 7);
        wrongLawAt("move 1 if a < 1", 10);
        wrongLawAt("move 1 if late and harden 5", 19);
    }

    static void p6_seventhDeep() throws Exception {
        says("the ( or not that is a 7th one deep");
        wrongLawAt("move 5 if not not not not not not not late", 34);
        wrongLawAt("move 5 if (((((( (late", 17);
        wrongLawAt("move 5 if ((((((not late", 16);
        wrongLawAt("move 5 if ((((((late)))))) or (((((((", 36);
        wrongLawAt("move 5 if ((((((late))))) and", 29);
    }

    static void p6_tooMany() throws Exception {
        says("of a LINE, a JUDGE, a CASE too many, the first word)");
        wrongAt("day 1;" + times(JUDGE, 5), 6 + 4 * 22);
        wrongAt("day 1;" + times(JUDGE, 4) + "; judge bench", 6 + 4 * 22 + 1);
        wrongAt("day 1;" + times(CASE, 8), 6 + 7 * 15);
        wrongAt(times("day 1", 14) + "; day 1", 85);
        wrongAt(times("day 1", 14) + ";bench", 84);
        wrongLawAt(times("move 1", 12) + ";move 100", 84);
    }

    static void p6_lengthIfMoreMustCome() throws Exception {
        says("or the text's length, if more must come.");
        String[] cut = {"judge", "judge mercy", "judge mercy 1", "judge mercy 1 nerve", "judge mercy 1 nerve 1 hunger",
            "judge mercy 1 nerve 1 pay", "judge mercy 1 nerve 1 hunger 5 pay", "case", "case a", "case a grave",
            "case a grave 1 worth", "case a grave 1 on", "list", "list 0", "list 0 0", "inn", "inn 0", "hour", "day",
            "day 1;"};
        for (String text : cut) {
            wrongAt(text, text.length());
            wrongAt(text + "  ", text.length() + 2);
            wrongAt(" " + text, text.length() + 1);
        }
        String[] law = {"move", "move 1;", "move 1 if", "move 1 if not", "move 1 if (", "move 1 if (late", "move 1 if 1",
            "move 1 if 1 +", "move 1 if 1 <", "move 1 if 1 < 1 +", "move 1 if late and", "move 1 if late or",
            "move 1 if hour"};
        for (String text : law) {
            wrongLawAt(text, text.length());
            wrongLawAt(text + "   ", text.length() + 3);
        }
        wrongAt("day 1;day" + " ".repeat(391), 400);
    }

    static void p6_nothingChangesIt() throws Exception {
        says("The first wrong byte of the latest text that was read; NONE without one");
        HungryBench x = new HungryBench();
        tape(x, " ".repeat(399) + "x");
        refused("the last of 400", ARGUMENT, x::assize);
        due("the last byte", x.fault(), 399);
        tape(x, "day" + " ".repeat(397));
        refused("400 and more must come", ARGUMENT, x::assize);
        due("behind the last byte", x.fault(), 400);
        x.feed(0, 0, 0, 0, 0);
        x.end(0);
        due("the tape is nothing to it", x.fault(), 400);
    }
}
