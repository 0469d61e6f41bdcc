/** The bounds of promises 7 to 12: what is told of a JUDGE, a CASE, THE LIST, an INN, POINT and WOULD. */
public final class LookBoundsTest extends Check {
    private LookBoundsTest() {
    }

    public static void main(String[] args) throws Exception {
        runTests(LookBoundsTest.class, 7, 12);
    }

    // ---- 7 judge

    static void p7_noSuchJudge() throws Exception {
        says("JUDGES (at most 5, numbered from 0 on)");
        thereAre(3, "judge", (x, j) -> x.judge(j, 0));
        HungryBench five = town(times("judge mercy 1 nerve 1", 5));
        due("the last of five", five.judge(4, 1), 1);
        refused("a sixth", INDEX, () -> five.judge(5, 0));
    }

    static void p7_anotherWhat() throws Exception {
        says("7 HOURS FREE, as bits, 8 the CIRCUIT. NoSuchElementException: another what.");
        for (int what = 0; what <= 8; what++) {
            int n = what;
            taken("what " + n, () -> standing().judge(2, n));
        }
        for (int what : new int[] {-1, 9, 10, 12, LEAST, MOST}) {
            stays("what " + what, ELEMENT, x -> x.judge(0, what));
        }
    }

    static void p7_toldFirst() throws Exception {
        says("Of several exceptions the one told first is thrown");
        toldFirst("neither judge nor what", INDEX, x -> x.judge(3, 9));
        toldFirst("neither judge nor what", INDEX, x -> x.judge(-1, -1));
    }

    static void p7_hungerFrom0To99() throws Exception {
        says("HUNGER 0 to 99 (0 at first)");
        HungryBench x = town("judge mercy 0 nerve 0 hunger 97");
        int[] due = {97, 98, 99, 99, 99};
        for (int n : due) {
            due("hunger", x.judge(0, 0), n);
            x.hours(1);
        }
        x.feeds(0);
        due("fed", x.judge(0, 0), 0);
    }

    static void p7_crumbs0AtLeast() throws Exception {
        says("less 10 times NERVE: 0 at least.");
        int[][] rows = {{0, 0, 0}, {0, 1, 1}, {0, 100, 100}, {1, 9, 0}, {1, 10, 0}, {1, 11, 1}, {9, 89, 0}, {9, 90, 0},
            {9, 91, 1}, {9, 100, 10}};
        for (int[] row : rows) {
            HungryBench x = town("judge mercy 0 nerve " + row[0] + ";hour 5;inn 5 " + row[1]);
            due("nerve " + row[0] + ", inn " + row[1], x.judge(0, 4), row[2]);
        }
        HungryBench x = under(times("crumb 99", 12), "judge mercy 0 nerve 0;inn 0 100");
        due("more than 100", x.judge(0, 4), 1288);
        HungryBench y = under("crumb 9", "judge mercy 0 nerve 1");
        due("9 less 10", y.judge(0, 4), 0);
        rule(y, "crumb 11");
        due("11 less 10", y.judge(0, 4), 1);
    }

    static void p7_crumbsInHour() throws Exception {
        says("CRUMBS of a JUDGE in an HOUR: INN of it, and the sum of N of all crumb LINES that hold");
        HungryBench x = under("crumb 3 if late;crumb 20 if hour > 6", "judge mercy 0 nerve 0;inn 4 40;inn 5 50;inn 6 60;"
                + "inn 7 70;hour 4");
        int[] due = {40, 50, 63, 93};
        for (int n : due) {
            due("crumbs in hour " + x.count(4), x.judge(0, 4), n);
            tell(x, "hour " + (x.count(4) + 1));
        }
    }

    static void p7_crumbsWithoutACase() throws Exception {
        says("(without a CASE: kind 6, grave 0, worth 0, neither leaning nor precedent)");
        String[] facts = {"kind > 5 and kind < 7", "grave < 1 and grave + 1 > 0", "worth < 1 and worth + 1 > 0", "not leaning",
            "not precedent"};
        for (String fact : facts) {
            HungryBench x = under("crumb 7 if " + fact, "judge mercy 50 nerve 0");
            due(fact, x.judge(0, 4), 7);
            rule(x, "crumb 7 if not (" + fact + ")");
            due("not " + fact, x.judge(0, 4), 0);
        }
    }

    static void p7_crumbsWithTheCaseIfItWaits() throws Exception {
        says("4 CRUMBS in HOUR (with the CASE in THE LIST, if it waits)");
        HungryBench x = under("crumb 1 if kind > 5;crumb 2 if kind < 6;crumb 4 if leaning;crumb 8 if grave > 4",
                "judge mercy 50 nerve 0;judge mercy 50 nerve 0;case f grave 4;case a grave 5 on 0;list 0 1 0;list 0 2 1");
        due("in hour 0, with none", x.judge(0, 4), 1);
        tell(x, "hour 1");
        due("in hour 1, with case 0", x.judge(0, 4), 2);
        due("another judge", x.judge(1, 4), 1);
        tell(x, "hour 2");
        due("in hour 2, with case 1", x.judge(0, 4), 14);
        rule(x, "crumb 1 if kind > 5;crumb 2 if kind < 6");
        x.hours(1);
        tell(x, "hour 2");
        due("with one that does not wait", x.judge(0, 4), 1);
    }

    static void p7_harshOfThoseThatWait() throws Exception {
        says("HARSH of a JUDGE: of all CASES that wait how many would be hanged by him in HOUR.");
        HungryBench x = town("judge mercy 10 nerve 0;case a grave 9;case a grave 10;case a grave 11;case a grave 12");
        due("point 0 is freed, -1 hanged", x.judge(0, 5), 2);
        x.fast(0, 1);
        due("hungrier by one", x.judge(0, 5), 1);
        x.list(0, 0, 3);
        x.hours(1);
        due("hanged", x.cause(3, 4), 2);
        due("one that does not wait", x.judge(0, 5), 0);
        x.feeds(0);
        due("fed", x.judge(0, 5), 1);
        HungryBench all = town("judge mercy 0 nerve 0;" + times("case a grave 1", 8));
        due("all eight", all.judge(0, 5), 8);
        due("without cases", town("judge mercy 0 nerve 0").judge(0, 5), 0);
        HungryBench h = under("harden 50 if hour > 5", "judge mercy 50 nerve 0;case a grave 1;hour 5");
        due("in hour 5", h.judge(0, 5), 0);
        tell(h, "hour 6");
        due("in hour 6", h.judge(0, 5), 1);
    }

    static void p7_shareInHundredthsRoundedDown() throws Exception {
        says("SHARE of a JUDGE (those BY him) of all CASES that are freed now, in hundredths, rounded down (0 without).");
        HungryBench x = town("judge mercy 90 nerve 0;judge mercy 90 nerve 0;" + times("case a grave 1", 8),
                "list 1 0 7;list 0 0 0;list 0 1 1;list 0 2 2;list 0 3 3;list 0 4 4;list 0 5 5;list 0 6 6");
        due("0 without", x.judge(0, 6), 0);
        int[][] due = {{50, 50}, {66, 33}, {75, 25}, {80, 20}, {83, 16}, {85, 14}, {87, 12}};
        for (int[] share : due) {
            x.hours(1);
            due("share in hour " + x.count(4), x.judge(0, 6), share[0]);
            due("share of the other", x.judge(1, 6), share[1]);
        }
        HungryBench y = town("judge mercy 90 nerve 0;judge mercy 0 nerve 0;case a grave 1;case a grave 1;list 0 0 0;"
                + "list 1 0 1");
        y.hours(1);
        due("all that are freed", y.judge(0, 6), 100);
        due("a hanged one is none", y.judge(1, 6), 0);
    }

    static void p7_shareOfThoseFreedNow() throws Exception {
        says("SHARE of a JUDGE (those BY him) of all CASES that are freed now");
        HungryBench x = town("judge mercy 90 nerve 9;judge mercy 90 nerve 0;case a grave 1;case a grave 1;list 0 0 0;"
                + "list 1 1 1;inn 1 90");
        x.hours(1);
        due("one", x.judge(0, 6), 100);
        x.seed(0);
        x.hours(1);
        due("undone", x.cause(1, 4), 3);
        due("one undone is none", x.judge(0, 6), 100);
        due("of the one whose are undone", x.judge(1, 6), 0);
    }

    static void p7_hoursFreeAsBits() throws Exception {
        says("HOURS FREE of a JUDGE: HOURS without a CASE in THE LIST, as bits.");
        HungryBench x = town("judge mercy 90 nerve 9;judge mercy 0 nerve 0;" + times("case a grave 1", 8));
        due("all", x.judge(0, 7), 4095);
        x.list(0, 0, 0);
        due("but hour 0", x.judge(0, 7), 4094);
        x.list(0, 11, 1);
        due("but hours 0 and 11", x.judge(0, 7), 2046);
        due("of the other", x.judge(1, 7), 4095);
        x.strike(0, 11);
        due("struck", x.judge(0, 7), 4094);
        for (int c = 0; c < 8; c++) {
            x.list(0, c, c);
        }
        due("eight", x.judge(0, 7), 4095 - 255);
        x.hours(8);
        due("those found stand until the day is over", x.judge(0, 7), 4095 - 255);
        x.hours(4);
        due("the day is over", x.judge(0, 7), 4095);
    }

    static void p7_circuits0To4() throws Exception {
        says("what a CIRCUIT pays is its number times 17, modulo 40, and PAY of the JUDGE more, if they are of one number");
        int[][] rows = {{0, 33, 2}, {0, 34, 0}, {0, 35, 0}, {1, 16, 2}, {1, 17, 1}, {1, 18, 1}, {2, 0, 2}, {2, 99, 2},
            {3, 22, 2}, {3, 23, 2}, {3, 24, 3}, {4, 5, 2}, {4, 6, 2}, {4, 7, 4}};
        for (int[] row : rows) {
            StringBuilder s = new StringBuilder();
            for (int j = 0; j < row[0]; j++) {
                s.append("judge mercy 0 nerve 0;");
            }
            HungryBench x = town(s + "judge mercy 0 nerve 0 hunger 1 pay " + row[1]);
            due("judge " + row[0] + ", pay " + row[1], x.judge(row[0], 8), row[2]);
        }
    }

    static void p7_circuitsKeepTheHungriest() throws Exception {
        says("each CIRCUIT keeps of those who ask it the one of the most HUNGER (of several the least number), and the "
                + "others ask on");
        HungryBench x = town(times("judge mercy 0 nerve 0 hunger 5", 2));
        due("of several the least number", x.judge(0, 8), 2);
        due("the other asks on", x.judge(1, 8), 4);
        x.fast(1, 6);
        due("hungrier by one", x.judge(1, 8), 2);
        due("the other asks on", x.judge(0, 8), 4);
        x.fast(0, 6);
        due("as hungry", x.judge(0, 8), 2);
        HungryBench five = town(times("judge mercy 0 nerve 0", 5));
        int[] due = {2, 4, 1, 3, 0};
        for (int j = 0; j < 5; j++) {
            due("of five as hungry, " + j, five.judge(j, 8), due[j]);
        }
    }

    // ---- 8 cause

    static void p8_noSuchCase() throws Exception {
        says("CASES (at most 8, numbered from 0 on)");
        thereAre(5, "cause", (x, c) -> x.cause(c, 0));
        HungryBench eight = town(times("case c grave 1", 8));
        due("the last of eight", eight.cause(7, 0), 2);
        refused("a ninth", INDEX, () -> eight.cause(8, 0));
    }

    static void p8_anotherWhat() throws Exception {
        says("10 BENCH (NONE), 11 DELAY (NONE), 12 SHARES (NONE). NoSuchElementException: another what.");
        for (int what = 0; what <= 12; what++) {
            int n = what;
            taken("what " + n, () -> standing().cause(4, n));
        }
        for (int what : new int[] {-1, 13, 14, LEAST, MOST}) {
            stays("what " + what, ELEMENT, x -> x.cause(0, what));
        }
    }

    static void p8_toldFirst() throws Exception {
        says("Of several exceptions the one told first is thrown");
        toldFirst("neither case nor what", INDEX, x -> x.cause(5, 13));
        toldFirst("neither case nor what", INDEX, x -> x.cause(-1, -1));
    }

    static void p8_byWhomAndTheDay() throws Exception {
        says("4 the STATE, 5 BY whom (NONE), 6 the DAY (NONE)");
        HungryBench x = town("judge mercy 0 nerve 9;judge mercy 50 nerve 9;case a grave 51;case a grave 51;list 0 11 0;"
                + "list 1 11 1;hour 10");
        x.hours(1);
        due("waiting", x.cause(0, 4), 0);
        due("by none", x.cause(0, 5), -1);
        due("day none", x.cause(0, 6), -1);
        x.hours(1);
        due("hanged", x.cause(0, 4), 2);
        due("by 0", x.cause(0, 5), 0);
        due("the day ahead of its being one more", x.cause(0, 6), 0);
        due("freed", x.cause(1, 4), 1);
        due("by 1", x.cause(1, 5), 1);
        due("day", x.count(5), 1);
    }

    static void p8_placesFirstAndLast() throws Exception {
        says("7, 8 the JUDGE and the HOUR where it stands in THE LIST (NONE)");
        HungryBench x = town(times("judge mercy 0 nerve 0", 5) + ";case a grave 1");
        due("nowhere", x.cause(0, 7), -1);
        due("nowhere", x.cause(0, 8), -1);
        int[][] places = {{0, 0}, {0, 11}, {1, 0}, {4, 0}, {4, 10}, {4, 11}};
        for (int[] place : places) {
            x.list(place[0], place[1], 0);
            due("judge", x.cause(0, 7), place[0]);
            due("hour", x.cause(0, 8), place[1]);
        }
        x.strike(4, 11);
        due("struck", x.cause(0, 7), -1);
        due("struck", x.cause(0, 8), -1);
    }

    static void p8_leaningOnAndOnItselfToo() throws Exception {
        says("LEANING on a CASE: those that LEAN on it, on and on, itself too, as bits.");
        HungryBench x = town("case a grave 1;case a grave 1 on 0;case a grave 1 on 1;case a grave 1 on 2;"
                + "case a grave 1 on 3;case a grave 1 on 4;case a grave 1 on 5;case a grave 1 on 6");
        for (int c = 0; c < 8; c++) {
            due("a chain of eight, from " + c + " on", x.cause(c, 9), 255 >> c << c);
        }
        HungryBench y = town("case a grave 1;case a grave 1;case a grave 1 on 0;case a grave 1 on 1;case a grave 1 on 2");
        due("0, 2, 4", y.cause(0, 9), 21);
        due("1, 3", y.cause(1, 9), 10);
        due("itself alone", y.cause(4, 9), 16);
    }

    static void p8_benchOfSeveralTheLeast() throws Exception {
        says("BENCH of a CASE: the JUDGE whose EARLY is the first (of several the least; none).");
        HungryBench x = town("judge mercy 10 nerve 0;judge mercy 12 nerve 0;judge mercy 12 nerve 0;case a grave 15");
        due("in hour 3 the least of two", x.cause(0, 10), 1);
        x.fast(0, 1);
        due("in hour 4", x.cause(0, 10), 1);
        x.fast(0, 2);
        due("in hour 3, too", x.cause(0, 10), 0);
        x.fast(2, 1);
        due("in hour 2", x.cause(0, 10), 2);
        HungryBench y = town("judge mercy 4 nerve 0;case a grave 15");
        due("in hour 11", y.cause(0, 10), 0);
        y.grave(0, 16);
        due("none", y.cause(0, 10), -1);
        due("none without judges", town("case a grave 0").cause(0, 10), -1);
        HungryBench first = town("judge mercy 14 nerve 0;judge mercy 15 nerve 0;judge mercy 16 nerve 0;case a grave 15");
        due("in hour 0", first.cause(0, 10), 1);
        HungryBench late = town("judge mercy 15 nerve 0;judge mercy 15 nerve 0;case a grave 15;hour 11");
        due("in hour 11 at once", late.cause(0, 10), 0);
        late.grave(0, 16);
        due("no hour behind 11", late.cause(0, 10), -1);
    }

    static void p8_benchOfOneThatDoesNotWait() throws Exception {
        says("BENCH of a CASE: the JUDGE whose EARLY is the first");
        HungryBench x = town("judge mercy 5 nerve 9;case a grave 9;list 0 0 0");
        x.hours(1);
        due("hanged", x.cause(0, 4), 2);
        due("bench", x.cause(0, 10), 0);
    }

    static void p8_delayFrom0To11() throws Exception {
        says("by how many HOURS at least it must be put off (0, too; not behind 11) so that WOULD of its JUDGE is 0 at "
                + "least then, whatever stands there; none.");
        HungryBench x = town("judge mercy 0 nerve 0;judge mercy 99 nerve 0;case a grave 0;case a grave 99;list 0 0 0;"
                + "list 0 1 1");
        for (int grave = 0; grave <= 13; grave++) {
            x.grave(0, grave);
            due("grave " + grave, x.cause(0, 11), grave <= 11 ? grave : -1);
        }
    }

    static void p8_delayInAnHourFromHourOn() throws Exception {
        says("DELAY of a CASE that waits and stands in THE LIST in an HOUR from HOUR on");
        HungryBench x = town("judge mercy 8 nerve 0;case a grave 8;hour 3");
        due("it stands nowhere", x.cause(0, 11), -1);
        for (int h = 0; h < 12; h++) {
            x.list(0, h, 0);
            due("in hour " + h, x.cause(0, 11), h < 3 ? -1 : 0);
        }
        x.grave(0, 16);
        due("8 hungrier in hour 11", x.cause(0, 11), 0);
        x.list(0, 3, 0);
        due("put off by 8 from hour 3", x.cause(0, 11), 8);
        x.list(0, 10, 0);
        due("put off by 1 from hour 10", x.cause(0, 11), 1);
        x.grave(0, 17);
        due("not behind 11", x.cause(0, 11), -1);
    }

    static void p8_delayOfOneThatWaits() throws Exception {
        says("DELAY of a CASE that waits and stands in THE LIST");
        HungryBench x = town("judge mercy 8 nerve 0;case a grave 8;case a grave 9;list 0 0 0;list 0 2 1");
        due("waiting", x.cause(0, 11), 0);
        due("behind one that waits", x.cause(1, 11), 0);
        x.hours(1);
        tell(x, "hour 0");
        due("freed", x.cause(0, 11), -1);
        due("whatever stood there", x.cause(1, 11), 0);
    }

    static void p8_sharesToTheLeastGathered() throws Exception {
        says("CASES that wait put to JUDGES by numbers, each to the one who has the least GRAVE of these so far together "
                + "(of several the least)");
        HungryBench x = town("judge mercy 0 nerve 0;judge mercy 0 nerve 0;judge mercy 0 nerve 0;case a grave 0;"
                + "case a grave 10;case a grave 9;case a grave 9;case a grave 0;case a grave 1;case a grave 1");
        int[] due = {0, 0, 1, 2, 1, 1, 2};
        for (int c = 0; c < 7; c++) {
            due("case " + c, x.cause(c, 12), due[c]);
        }
        x.grave(1, 8);
        due("8 is less than 9", x.cause(4, 12), 0);
        x.grave(1, 9);
        due("9, 9, 9: the least", x.cause(4, 12), 0);
    }

    static void p8_sharesNone() throws Exception {
        says("the JUDGE of a CASE; none (it does not wait, or without JUDGES).");
        due("without judges", town("case a grave 5").cause(0, 12), -1);
        HungryBench x = town("judge mercy 9 nerve 9;judge mercy 9 nerve 9;case a grave 9;case a grave 9;case a grave 9;"
                + "list 0 0 0");
        due("waiting", x.cause(0, 12), 0);
        due("the third", x.cause(2, 12), 0);
        x.hours(1);
        due("it does not wait", x.cause(0, 12), -1);
        HungryBench y = town("judge mercy 9 nerve 9;case a grave 9;case a grave 9;list 0 0 1");
        y.hours(1);
        due("the first waits", y.cause(0, 12), 0);
        due("the second does not", y.cause(1, 12), -1);
        due("the first that waits", x.cause(1, 12), 0);
        due("the second that waits", x.cause(2, 12), 1);
    }

    // ---- 9 listed, 10 smell

    static void p9_noSuchJudgeOrHour() throws Exception {
        says("What stands in THE LIST; NONE.");
        thereAre(3, "listed of judge", (x, j) -> x.listed(j, 0));
        thereAre(12, "listed in hour", (x, h) -> x.listed(0, h));
        toldFirst("neither judge nor hour", INDEX, x -> x.listed(-1, 12));
    }

    static void p9_firstAndLastPlace() throws Exception {
        says("THE LIST: of each JUDGE and each HOUR a CASE, or none (at first); no CASE twice.");
        HungryBench x = town(times("judge mercy 0 nerve 0", 5) + ";case a grave 1;case a grave 1");
        for (int j = 0; j < 5; j++) {
            for (int h = 0; h < 12; h++) {
                due("none at first", x.listed(j, h), -1);
            }
        }
        x.list(0, 0, 1);
        x.list(4, 11, 0);
        due("first", x.listed(0, 0), 1);
        due("beside it", x.listed(0, 1), -1);
        due("last", x.listed(4, 11), 0);
        due("beside it", x.listed(4, 10), -1);
        due("and of another judge", x.listed(3, 11), -1);
        x.list(1, 0, 1);
        due("no case twice", x.listed(0, 0), -1);
        due("there alone", x.listed(1, 0), 1);
    }

    static void p9_oneThatDoesNotWaitStandsStill() throws Exception {
        says("What stands in THE LIST; NONE.");
        HungryBench x = town("judge mercy 9 nerve 9;case a grave 9;list 0 10 0;hour 10");
        x.hours(1);
        due("freed", x.state(1), 1);
        due("it stands", x.listed(0, 10), 0);
        x.hours(1);
        due("the day is over", x.listed(0, 10), -1);
    }

    static void p10_noSuchHour() throws Exception {
        says("INN of an HOUR.");
        thereAre(12, "smell", (x, h) -> x.smell(h));
        HungryBench x = town("inn 0 7;inn 11 8");
        due("first", x.smell(0), 7);
        due("beside it", x.smell(1), 0);
        due("last", x.smell(11), 8);
        due("beside it", x.smell(10), 0);
    }

    static void p10_0To100() throws Exception {
        says("INN of each HOUR 0 to 100 (0 at first)");
        HungryBench x = town("inn 4 100");
        due("100", x.smell(4), 100);
        x.inn(4, 0);
        due("0", x.smell(4), 0);
    }

    // ---- 11 point, 12 would

    static void p11_noSuchJudgeCaseOrHour() throws Exception {
        says("POINT of a JUDGE, a CASE and an HOUR, with HUNGER as it is.");
        thereAre(3, "point of judge", (x, j) -> x.point(j, 0, 0));
        thereAre(5, "point of case", (x, c) -> x.point(0, c, 0));
        thereAre(12, "point in hour", (x, h) -> x.point(0, 0, h));
    }

    static void p11_leastAndMost() throws Exception {
        says("POINT: HUNGER and MERCY, and the sum of N of all move LINES that hold, less GRAVE and that of all harden "
                + "LINES.");
        HungryBench x = under(times("move 99", 12), "judge mercy 99 nerve 0 hunger 99;case a grave 0;case a grave 99");
        due("most", x.point(0, 0, 0), 99 + 99 + 12 * 99);
        due("99 less", x.point(0, 1, 0), 99 + 12 * 99);
        HungryBench y = under(times("harden 99", 12), "judge mercy 0 nerve 0;case a grave 99");
        due("least", y.point(0, 0, 11), -99 - 12 * 99);
        HungryBench z = under("move 0;harden 0;crumb 99", "judge mercy 0 nerve 0;case a grave 0");
        due("nothing", z.point(0, 0, 0), 0);
    }

    static void p11_hungerAsItIs() throws Exception {
        says("POINT of a JUDGE, a CASE and an HOUR, with HUNGER as it is.");
        HungryBench x = under("move 50 if hunger > 5", "judge mercy 0 nerve 0 hunger 5;case a grave 0;hour 3");
        for (int h = 0; h < 12; h++) {
            due("hour " + h, x.point(0, 0, h), 5);
        }
        x.fast(0, 6);
        due("hungrier", x.point(0, 0, 0), 56);
    }

    static void p12_noSuchJudgeCaseOrHour() throws Exception {
        says("IndexOutOfBoundsException: there is no such JUDGE, CASE, HOUR, KIND, CIRCUIT.");
        thereAre(3, "would of judge", (x, j) -> x.would(j, 0, 0));
        thereAre(5, "would of case", (x, c) -> x.would(0, c, 0));
        thereAre(12, "would in hour", (x, h) -> x.would(0, 0, h));
    }

    static void p12_0IfItIsNotBehindHour() throws Exception {
        says("HUNGER as many more as the HOURS are from HOUR to it (0, if it is not behind HOUR; 99 at most)");
        HungryBench x = town("judge mercy 0 nerve 0 hunger 20;case a grave 0;hour 4");
        for (int h = 0; h < 12; h++) {
            due("hour " + h, x.would(0, 0, h), h <= 4 ? 20 : 20 + h - 4);
        }
        HungryBench last = town("judge mercy 0 nerve 0 hunger 20;case a grave 0;hour 11");
        due("hour 11", last.would(0, 0, 11), 20);
        due("hour 0", last.would(0, 0, 0), 20);
        HungryBench first = town("judge mercy 0 nerve 0 hunger 20;case a grave 0");
        due("hour 11 from hour 0", first.would(0, 0, 11), 31);
    }

    static void p12_hunger99AtMost() throws Exception {
        says("HUNGER as many more as the HOURS are from HOUR to it (0, if it is not behind HOUR; 99 at most)");
        HungryBench x = town("judge mercy 0 nerve 0 hunger 96;case a grave 0;hour 2");
        int[] due = {96, 96, 96, 97, 98, 99, 99, 99, 99, 99, 99, 99};
        for (int h = 0; h < 12; h++) {
            due("hour " + h, x.would(0, 0, h), due[h]);
        }
        x.fast(0, 99);
        due("99 and none more", x.would(0, 0, 3), 99);
        due("nothing stays", x.judge(0, 0), 99);
    }

    static void p12_theLawSeesThatHourAndHunger() throws Exception {
        says("POINT, if HOUR was that and HUNGER as many more");
        HungryBench x = under("move 10 if hunger > 22;move 20 if late;move 40 if hour < 2", "judge mercy 0 nerve 0 hunger 20;"
                + "case a grave 0;hour 4");
        int[] due = {60, 60, 20, 20, 20, 21, 42, 53, 54, 55, 56, 57};
        for (int h = 0; h < 12; h++) {
            due("hour " + h, x.would(0, 0, h), due[h]);
        }
    }

    static void p12_elseByAllAsItIsNow() throws Exception {
        says("(0, if it is not behind HOUR; 99 at most), else by all as it is now.");
        HungryBench x = under("move 30 if precedent", "judge mercy 50 nerve 9;case a grave 0;case a grave 0 on 0;"
                + "list 0 1 0");
        due("not yet a precedent in hour 5", x.would(0, 1, 5), 55);
        x.hours(2);
        due("a precedent in hour 1, too", x.would(0, 1, 1), 82);
    }
}
