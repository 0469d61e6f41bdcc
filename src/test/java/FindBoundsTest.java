/** The bounds of promises 21 to 46: what would be found, saved, undone, paired, shared and tried. */
public final class FindBoundsTest extends Check {
    private FindBoundsTest() {
    }

    public static void main(String[] args) throws Exception {
        runTests(FindBoundsTest.class, 21, 46);
    }

    private static String cases(int... graves) {
        StringBuilder s = new StringBuilder();
        for (int grave : graves) {
            s.append(s.length() == 0 ? "" : ";").append("case a grave ").append(grave);
        }
        return s.toString();
    }

    /** Puts bytes on the tape. */
    private static void bytes(HungryBench x, int... told) {
        StringBuilder s = new StringBuilder();
        for (int b : told) {
            s.append((char) b);
        }
        tape(x, s.toString());
    }

    private static int fitting(HungryBench x, int judge, int... told) {
        bytes(x, told);
        return x.meals(judge, false);
    }

    private static int least(HungryBench x, int judge, int... told) {
        bytes(x, told);
        return x.meals(judge, true);
    }

    private static int tryNext(HungryBench x, int judge, int... told) {
        bytes(x, told);
        return x.tries(judge);
    }

    // ---- 21 early, 22 split

    static void p21_noSuchJudgeOrCase() throws Exception {
        says("EARLY of a JUDGE and a CASE: the first HOUR from HOUR on in which WOULD is 0 at least; none.");
        thereAre(3, "early of judge", (x, j) -> x.early(j, 0));
        thereAre(5, "early of case", (x, c) -> x.early(0, c));
    }

    static void p21_fromHourOn() throws Exception {
        says("the first HOUR from HOUR on in which WOULD is 0 at least; none.");
        for (int hour : new int[] {0, 3, 10, 11}) {
            HungryBench x = town("judge mercy 0 nerve 0;" + cases(0) + ";hour " + hour);
            for (int grave = 0; grave <= 13; grave++) {
                x.grave(0, grave);
                due("from " + hour + " on, grave " + grave, x.early(0, 0), hour + grave <= 11 ? hour + grave : -1);
            }
        }
        HungryBench x = under("move 50 if hour < 3;move 40 if hour > 10", "judge mercy 0 nerve 0;" + cases(48) + ";hour 3");
        due("not in an hour behind", x.early(0, 0), 11);
        tell(x, "hour 2");
        due("in hour 2", x.early(0, 0), 2);
    }

    static void p21_hunger99AtMost() throws Exception {
        says("HUNGER as many more as the HOURS are from HOUR to it (0, if it is not behind HOUR; 99 at most)");
        HungryBench x = town("judge mercy 0 nerve 0 hunger 97;" + cases(97));
        int[] due = {0, 1, 2};
        for (int i = 0; i < 3; i++) {
            x.grave(0, 97 + i);
            due("grave " + (97 + i), x.early(0, 0), due[i]);
        }
        rule(x, "harden 1");
        due("none with 100", x.early(0, 0), -1);
    }

    static void p22_noSuchCase() throws Exception {
        says("SPLIT of a CASE: whether in HOUR some JUDGES would free it and some not.");
        thereAre(5, "split", (x, c) -> x.split(c));
    }

    static void p22_someAndSomeNot() throws Exception {
        says("SPLIT of a CASE: whether in HOUR some JUDGES would free it and some not.");
        due("without judges", town(cases(0)).split(0), false);
        HungryBench one = town("judge mercy 5 nerve 0;" + cases(5, 6));
        due("one frees it", one.split(0), false);
        due("one does not", one.split(1), false);
        HungryBench x = town("judge mercy 1 nerve 0;judge mercy 2 nerve 0;judge mercy 3 nerve 0;judge mercy 4 nerve 0;"
                + "judge mercy 5 nerve 0;" + cases(0, 1, 2, 5, 6));
        boolean[] due = {false, false, true, true, false};
        for (int c = 0; c < 5; c++) {
            due("freed by all, all, four, one, none: " + c, x.split(c), due[c]);
        }
        HungryBench hour = under("move 9 if late and judge < 1", "judge mercy 1 nerve 0;judge mercy 1 nerve 0;" + cases(9)
                + ";hour 5");
        due("in hour 5", hour.split(0), false);
        tell(hour, "hour 6");
        due("in hour 6", hour.split(0), true);
    }

    // ---- 23 saved, 24 needed

    static void p23_aPlaceOfItsOwn() throws Exception {
        says("each in a place of its own (a JUDGE, an HOUR from HOUR on, WOULD 0 at least there)");
        int[][] rows = {{1, 11, 1}, {1, 10, 2}, {1, 5, 7}, {1, 4, 8}, {1, 0, 8}, {2, 11, 2}, {2, 9, 6}, {2, 8, 8},
            {5, 11, 5}, {5, 10, 8}};
        for (int[] row : rows) {
            HungryBench x = town(times("judge mercy 50 nerve 0", row[0]), cases(1, 1, 1, 1, 1, 1, 1, 1) + ";hour " + row[1]);
            due(row[0] + " judges from hour " + row[1] + " on", x.saved(false), (1 << row[2]) - 1);
            due("worth", x.saved(true), row[2]);
        }
    }

    static void p23_would0AtLeastThere() throws Exception {
        says("an HOUR from HOUR on, WOULD 0 at least there)");
        HungryBench x = town("judge mercy 10 nerve 0;" + cases(9, 10, 11) + ";hour 9");
        due("in hours 9, 10, 11", x.saved(false), 7);
        tell(x, "hour 11");
        x.grave(0, 11);
        due("point 0 but not -1", x.saved(false), 2);
        x.grave(1, 11);
        due("none", x.saved(false), 0);
        due("worth of none", x.saved(true), 0);
        HungryBench y = under("move 50 if hour < 5", "judge mercy 0 nerve 0;" + cases(50) + ";hour 5");
        due("not in an hour behind", y.saved(false), 0);
        tell(y, "hour 4");
        due("in hour 4", y.saved(false), 1);
    }

    static void p23_byWorthTheLeastNumberFirst() throws Exception {
        says("CASES by WORTH (of several the least number first), each kept, if all that are kept and it could be");
        String judge = "judge mercy 50 nerve 0;";
        HungryBench x = town(judge + "case a grave 1 worth 5;case a grave 1 worth 6;case a grave 1 worth 6;hour 11");
        due("most worth, least number", x.saved(false), 2);
        due("worth", x.saved(true), 6);
        tell(x, "hour 10");
        due("two", x.saved(false), 6);
        tell(x, "hour 9");
        due("all", x.saved(false), 7);
        due("worth", x.saved(true), 17);
        HungryBench y = town(judge + "case a grave 99 worth 99;case a grave 1 worth 0;hour 11");
        due("one that none frees takes no place", y.saved(false), 2);
        due("of no worth", y.saved(true), 0);
    }

    static void p23_ifAllThatAreKeptAndItCouldBe() throws Exception {
        says("each kept, if all that are kept and it could be: those kept, as bits; how much WORTH they have.");
        // case 0 is freed by both, 1 by judge 0 alone, 2 by judge 1 alone in hour 11
        HungryBench x = under("harden 50 if judge < 1 and kind > 1;harden 50 if judge > 0 and kind > 0 and kind < 2",
                "judge mercy 50 nerve 0;judge mercy 50 nerve 0;case a grave 1 worth 9;case b grave 1 worth 8;"
                + "case c grave 1 worth 7;hour 11");
        due("0 gives way to 1, none to 2", x.saved(false), 3);
        due("worth", x.saved(true), 17);
        tell(x, "case b grave 1 worth 99");
        due("3 and 0", x.saved(false), 9);
        tell(x, "hour 10");
        due("four in four places", x.saved(false), 15);
    }

    static void p23_aListThatIsEmptyNow() throws Exception {
        says("CASES that wait and could all be freed by a list that is empty now");
        HungryBench x = town("judge mercy 50 nerve 0;" + cases(1, 99) + ";hour 11");
        x.list(0, 11, 1);
        due("what stands there is nothing", x.saved(false), 1);
        due("it stands still", x.listed(0, 11), 1);
        x.list(0, 11, 0);
        x.hours(1);
        due("one that does not wait", x.saved(false), 0);
        HungryBench most = town("judge mercy 50 nerve 0;" + times("case a grave 1 worth 99", 8));
        due("the most worth", most.saved(true), 792);
    }

    static void p24_0OfNone() throws Exception {
        says("HOURS NEEDED: the fewest N so that all of SAVED could be freed so in HOUR and the N less 1 behind it (0 of "
                + "none).");
        due("without judges", town(cases(0)).needed(), 0);
        due("without cases", town("judge mercy 9 nerve 0").needed(), 0);
        due("without one that could be", town("judge mercy 0 nerve 0;" + cases(12)).needed(), 0);
        due("one in hour 11, from hour 0 on", town("judge mercy 0 nerve 0;" + cases(11)).needed(), 12);
        due("one in hour 10", town("judge mercy 0 nerve 0;" + cases(10)).needed(), 11);
        due("one at once", town("judge mercy 0 nerve 0;" + cases(0)).needed(), 1);
    }

    static void p24_fewestHours() throws Exception {
        says("the fewest N so that all of SAVED could be freed so in HOUR and the N less 1 behind it");
        int[][] rows = {{1, 0, 8}, {1, 4, 8}, {1, 5, 7}, {1, 11, 1}, {2, 0, 4}, {2, 11, 1}, {3, 0, 3}, {4, 0, 2}, {5, 0, 2},
            {5, 10, 2}, {5, 11, 1}};
        for (int[] row : rows) {
            HungryBench x = town(times("judge mercy 50 nerve 0", row[0]), cases(1, 1, 1, 1, 1, 1, 1, 1) + ";hour " + row[1]);
            due(row[0] + " judges from hour " + row[1] + " on", x.needed(), row[2]);
        }
        HungryBench last = town(times("judge mercy 0 nerve 0", 4) + ";judge mercy 60 nerve 0;" + cases(60, 60, 60));
        due("three of judge 4", last.needed(), 3);
        tell(last, "hour 9");
        due("three of judge 4 in the last three", last.needed(), 3);
        HungryBench x = town("judge mercy 50 nerve 0;judge mercy 10 nerve 0;" + cases(1, 1, 50, 53));
        due("in hour 3 at last", x.needed(), 4);
        x.grave(3, 51);
        due("four in two", x.needed(), 2);
        x.grave(0, 50);
        due("three of judge 0 in three", x.needed(), 3);
    }

    // ---- 25 crumbles, 26 worst

    static void p25_noSuchJudge() throws Exception {
        says("CRUMBLES of a JUDGE: CASES that would be undone by his crumbs now (see (c)), as bits.");
        thereAre(3, "crumbles", (x, j) -> x.crumbles(j));
    }

    static void p25_hisOfThisDay() throws Exception {
        says("CASES that would be undone by his crumbs now (see (c)), as bits.");
        HungryBench x = town("judge mercy 50 nerve 9;judge mercy 0 nerve 9;" + cases(1, 99, 1, 1) + ";case a grave 1 on 1;"
                + "list 0 9 0;list 1 9 1;list 1 10 4;hour 9;day 4");
        due("none yet", x.crumbles(0), 0);
        x.hours(1);
        due("freed by 0", x.crumbles(0), 1);
        due("hanged by 1; 4 waits", x.crumbles(1), 2);
        x.hours(1);
        due("1, and 4 that leans on it", x.crumbles(1), 18);
        tell(x, "day 3");
        due("of another day", x.crumbles(1), 0);
        tell(x, "day 5");
        due("of another day", x.crumbles(0), 0);
        tell(x, "day 4");
        due("of the day told again", x.crumbles(0), 1);
        x.appeal(1);
        due("4 was found by 1, too", x.crumbles(1), 16);
        due("nothing changes", x.state(1), 17);
        x.hours(1);
        due("the day is over", x.crumbles(0), 0);
    }

    static void p25_notThoseUndone() throws Exception {
        says("and with each all that LEAN on it, on and on, and are freed or hanged");
        HungryBench x = town("judge mercy 50 nerve 0;judge mercy 50 nerve 9;" + cases(1) + ";case a grave 1 on 0;"
                + "case a grave 1 on 1;list 1 1 1;list 0 2 0;list 1 0 2;inn 2 100");
        x.hours(2);
        due("none of a case that waits", x.crumbles(0), 0);
        due("1 and 2", x.crumbles(1), 6);
        x.hours(1);
        due("all three are undone", x.state(3), 7);
        due("none that is undone", x.crumbles(0) + x.crumbles(1), 0);
    }

    static void p25_nothingByOneUndoneAlready() throws Exception {
        says("all CASES freed or hanged BY him on this DAY are undone");
        HungryBench x = town("judge mercy 50 nerve 0;judge mercy 50 nerve 9;" + cases(1) + ";case a grave 1 on 0;list 0 0 0;"
                + "list 1 1 1;inn 0 39;inn 2 100");
        x.hours(1);
        due("0 is undone", x.state(3), 1);
        x.hours(1);
        due("1, that leans on it, is freed by the other", x.state(1), 2);
        due("0 found on this day is undone already", x.crumbles(0), 0);
        due("1", x.crumbles(1), 2);
        due("the worst", x.worst(), 1);
        x.hours(1);
        due("crumbs undo nothing", x.state(1), 2);
        due("he is fed", x.judge(0, 0), 0);
    }

    static void p26_ofSeveralTheLeast() throws Exception {
        says("WORST: the JUDGE by whom the most are (of several the least; none without JUDGES).");
        due("none without judges", town(cases(1)).worst(), -1);
        due("one by whom none are", town("judge mercy 1 nerve 1").worst(), 0);
        HungryBench x = town(times("judge mercy 50 nerve 9", 5) + ";" + cases(1, 1) + ";case a grave 1 on 1;list 4 0 0;"
                + "list 2 1 1;list 3 2 2");
        due("none by all", x.worst(), 0);
        x.hours(1);
        due("one by the last", x.worst(), 4);
        x.hours(1);
        due("one by two", x.worst(), 2);
        x.hours(1);
        due("two by 2, one by 3", x.worst(), 2);
        x.hours(9);
        due("none of this day", x.worst(), 0);
    }

    // ---- 27 deep, 28 roots

    static void p27_howManyOneOnAnother() throws Exception {
        says("DEEP: the most CASES one leaning on another one, on and on: how many.");
        due("without cases", town("judge mercy 1 nerve 1").deep(), 0);
        due("one", town(cases(1)).deep(), 1);
        due("eight beside one another", town(cases(1, 1, 1, 1, 1, 1, 1, 1)).deep(), 1);
        StringBuilder s = new StringBuilder(cases(1));
        for (int n = 2; n <= 8; n++) {
            s.append(";case a grave 1 on ").append(n - 2);
            due("a chain of " + n, town(s.toString()).deep(), n);
        }
        due("eight on one", town(cases(1) + ";" + times("case a grave 1 on 0", 7)).deep(), 2);
        due("waiting or not", standing().deep(), 3);
    }

    static void p28_onWhichSomeLean() throws Exception {
        says("ROOTS: CASES that LEAN on none and on which some LEAN, as bits.");
        due("without cases", town("judge mercy 1 nerve 1").roots(), 0);
        due("none leans", town(cases(1, 1)).roots(), 0);
        due("one of two", town(cases(1) + ";case a grave 1 on 0").roots(), 1);
        due("not one that leans itself", town(cases(1) + ";case a grave 1 on 0;case a grave 1 on 1").roots(), 1);
        due("two", town(cases(1, 1) + ";" + cases(1) + ";case a grave 1 on 1;case a grave 1 on 0").roots(), 3);
        due("the last but one", town(cases(1, 1, 1, 1, 1, 1, 1) + ";case a grave 1 on 6").roots(), 64);
    }

    // ---- 29 meals, 30 tries

    static void p29_noSuchJudge() throws Exception {
        says("Uses the TAPE up: MEALS (of each three bytes: the HOUR, the CASE, 1 or 0; at most 45 bytes)");
        for (int j : new int[] {-1, 3, 4, 256, LEAST, MOST}) {
            staysButTape("meals of judge " + j, INDEX, Check::standing, x -> x.meals(j, false));
            staysButTape("tries of judge " + j, INDEX, Check::standing, x -> x.tries(j));
        }
        for (int j : new int[] {0, 2}) {
            HungryBench x = standing();
            tape(x, "");
            due("meals of judge " + j, x.meals(j, false), 61);
            taken("tries of judge " + j, () -> x.tries(j));
        }
    }

    static void p29_atMost45Bytes() throws Exception {
        says("(of each three bytes: the HOUR, the CASE, 1 or 0; at most 45 bytes)");
        for (int n = 0; n <= 60; n++) {
            HungryBench x = town("judge mercy 10 nerve 0;" + cases(10));
            int[] told = new int[n];
            for (int i = 2; i < n; i += 3) {
                told[i] = 1;
            }
            boolean right = n <= 45 && n % 3 == 0;
            if (right) {
                due("meals of " + n + " bytes", fitting(x, 0, told), 61);
                due("tries of " + n + " bytes", tryNext(x, 0, told), 0);
            } else {
                bytes(x, told);
                refused("meals of " + n + " bytes", ARGUMENT, () -> x.meals(0, true));
                due("the tape is used up", x.end(1), false);
                bytes(x, told);
                refused("tries of " + n + " bytes", ARGUMENT, () -> x.tries(0));
                due("the tape is used up", x.end(1), false);
            }
        }
        HungryBench full = town("judge mercy 10 nerve 0;" + cases(10));
        bytes(full, new int[400]);
        refused("meals of 400 bytes", ARGUMENT, () -> full.meals(0, true));
    }

    static void p29_hourCaseAnd1Or0() throws Exception {
        says("IllegalArgumentException: the TAPE is not that (none may be told).");
        int[][] right = {{0, 0, 0}, {11, 0, 0}, {0, 4, 0}, {11, 4, 1}, {0, 0, 1}};
        for (int[] row : right) {
            HungryBench x = standing();
            bytes(x, row);
            taken("meals of " + row[0] + " " + row[1] + " " + row[2], () -> x.meals(2, false));
            bytes(x, row);
            taken("tries of " + row[0] + " " + row[1] + " " + row[2], () -> x.tries(2));
        }
        int[][] bad = {{12, 0, 0}, {255, 0, 0}, {128, 0, 0}, {0, 5, 0}, {0, 8, 0}, {0, 255, 0}, {0, 0, 2}, {0, 0, 255},
            {0, 0, 49}};
        for (int[] row : bad) {
            staysButTape("meals of " + row[0] + " " + row[1] + " " + row[2], ARGUMENT, () -> told(row), x -> x.meals(2, true));
            staysButTape("tries of " + row[0] + " " + row[1] + " " + row[2], ARGUMENT, () -> told(row), x -> x.tries(2));
            int[] second = {1, 1, 1, row[0], row[1], row[2]};
            staysButTape("meals, the second row wrong", ARGUMENT, () -> told(second), x -> x.meals(2, false));
            staysButTape("tries, the second row wrong", ARGUMENT, () -> told(second), x -> x.tries(2));
        }
        HungryBench none = town("judge mercy 1 nerve 1");
        bytes(none, 0, 0, 0);
        refused("no case at all", ARGUMENT, () -> none.meals(0, false));
        due("none told", none.meals(0, false), 61);
    }

    private static HungryBench told(int... row) {
        HungryBench x = standing();
        bytes(x, row);
        return x;
    }

    static void p29_toldFirst() throws Exception {
        says("Of several exceptions the one told first is thrown");
        staysButTape("no judge, no such tape", INDEX, () -> told(12), x -> x.meals(3, false));
        staysButTape("no judge, no such tape", INDEX, () -> told(12), x -> x.tries(-1));
    }

    static void p29_hungerFrom0To60() throws Exception {
        says("unknown is his HUNGER in HOUR 0 (0 to 60; HOURS more in each HOUR, 99 at most): those that fit: how many; "
                + "LEAST: the least; none.");
        HungryBench x = town("judge mercy 0 nerve 0 hunger 77;" + cases(0, 1, 59, 60, 61, 71, 72));
        due("none told", fitting(x, 0), 61);
        due("none told, least", least(x, 0), 0);
        int[][] rows = {{0, 0, 1, 61, 0}, {0, 0, 0, 0, -1}, {0, 1, 1, 60, 1}, {0, 1, 0, 1, 0}, {0, 2, 1, 2, 59},
            {0, 2, 0, 59, 0}, {0, 3, 1, 1, 60}, {0, 3, 0, 60, 0}, {0, 4, 1, 0, -1}, {0, 4, 0, 61, 0}, {11, 5, 1, 1, 60},
            {10, 5, 1, 0, -1}, {11, 6, 1, 0, -1}, {11, 6, 0, 61, 0}, {11, 5, 0, 60, 0}, {1, 1, 0, 0, -1}, {1, 1, 1, 61, 0}};
        for (int[] row : rows) {
            due("those that fit " + row[0] + " " + row[1] + " " + row[2], fitting(x, 0, row[0], row[1], row[2]), row[3]);
            due("least of " + row[0] + " " + row[1] + " " + row[2], least(x, 0, row[0], row[1], row[2]), row[4]);
        }
        due("two rows against one another", fitting(x, 0, 0, 2, 1, 0, 2, 0), 0);
        due("two rows, one fits", fitting(x, 0, 0, 2, 1, 0, 3, 0), 1);
        due("nothing changes", x.judge(0, 0), 77);
    }

    static void p29_byTheLawOfThatHour() throws Exception {
        says("told are rows: an HOUR and a CASE and whether it would be freed then (1) or not (0)");
        HungryBench x = under("move 30 if late", "judge mercy 0 nerve 0;" + cases(40) + ";hour 9");
        due("in hour 5: 35 on", least(x, 0, 5, 0, 1), 35);
        due("in hour 6: 4 on", least(x, 0, 6, 0, 1), 4);
        due("in hour 6, not: 0 to 3", fitting(x, 0, 6, 0, 0), 4);
    }

    static void p29_usesTheTapeUp() throws Exception {
        says("Uses the TAPE up: MEALS");
        HungryBench x = town("judge mercy 0 nerve 0;" + cases(30));
        due("one row", fitting(x, 0, 0, 0, 1), 31);
        due("used up", x.end(1), false);
        due("none told", x.meals(0, false), 61);
    }

    static void p30_noneWithFewerThanTwo() throws Exception {
        says("(of several the least; none with fewer than two, or without CASES that wait).");
        HungryBench x = town("judge mercy 0 nerve 0;" + cases(0, 60, 59));
        due("of 61", tryNext(x, 0), 2);
        due("of none", tryNext(x, 0, 0, 0, 0), -1);
        due("of one", tryNext(x, 0, 0, 1, 1), -1);
        due("of two", tryNext(x, 0, 0, 2, 1), 1);
        due("without cases", tryNext(town("judge mercy 0 nerve 0"), 0), -1);
        x.hours(1);
        HungryBench y = town("judge mercy 99 nerve 9;" + cases(1) + ";list 0 0 0");
        due("one waits", tryNext(y, 0), 0);
        y.hours(1);
        due("none waits", tryNext(y, 0), -1);
    }

    static void p30_theGreaterPartTheLeast() throws Exception {
        says("by which those that fit are parted so that the greater part is the least (of several the least;");
        HungryBench x = town("judge mercy 0 nerve 0;" + cases(29, 32, 30, 31));
        due("30 and 31, of two the least", tryNext(x, 0), 2);
        x.grave(2, 33);
        due("the other", tryNext(x, 0), 3);
        x.grave(3, 28);
        due("29 and 32 as far: the least", tryNext(x, 0), 0);
        tell(x, "hour 1");
        due("an hour more: 32 is 31 now", tryNext(x, 0), 1);
        HungryBench alike = town("judge mercy 99 nerve 0;" + cases(1, 1));
        due("none is parted: the least", tryNext(alike, 0), 0);
    }

    static void p30_usesTheTapeUp() throws Exception {
        says("Uses the TAPE up: TRY (the TAPE likewise); NONE. IllegalArgumentException: the TAPE is not that.");
        HungryBench x = town("judge mercy 0 nerve 0;" + cases(30, 15));
        due("0 to 29: 15 parts them", tryNext(x, 0, 0, 0, 0), 1);
        due("used up", x.end(1), false);
        due("none told", x.tries(0), 0);
    }

    // ---- 31 moved, 32 even

    static void p31_noSuchJudgeOrCase() throws Exception {
        says("MOVED of a JUDGE and a CASE: the least HUNGER (0 to 99) with which he would free it in HOUR; none.");
        thereAre(3, "moved of judge", (x, j) -> x.moved(j, 0));
        thereAre(5, "moved of case", (x, c) -> x.moved(0, c));
    }

    static void p31_from0To99() throws Exception {
        says("the least HUNGER (0 to 99) with which he would free it in HOUR; none.");
        int[][] rows = {{0, 0, 0}, {1, 0, 0}, {0, 1, 1}, {0, 98, 98}, {0, 99, 99}, {1, 99, 98}, {99, 99, 0}};
        for (int[] row : rows) {
            HungryBench x = town("judge mercy " + row[0] + " nerve 0 hunger 50;" + cases(row[1]));
            due("mercy " + row[0] + ", grave " + row[1], x.moved(0, 0), row[2]);
            due("he is as hungry as he was", x.judge(0, 0), 50);
        }
        HungryBench x = under("harden 1", "judge mercy 0 nerve 0;" + cases(99));
        due("100 is none", x.moved(0, 0), -1);
        x.grave(0, 98);
        due("99", x.moved(0, 0), 99);
    }

    static void p31_inHour() throws Exception {
        says("MOVED of a JUDGE and a CASE: the least HUNGER (0 to 99) with which he would free it in HOUR");
        HungryBench x = under("move 20 if late;move 30 if hunger > 4 and hunger < 7", "judge mercy 0 nerve 0;" + cases(35)
                + ";hour 5");
        due("in hour 5: 5 and 30", x.moved(0, 0), 5);
        x.grave(0, 37);
        due("37 in hour 5", x.moved(0, 0), 37);
        tell(x, "hour 6");
        due("37 in hour 6: 5, 20 and 30", x.moved(0, 0), 5);
        x.grave(0, 57);
        due("57 in hour 6", x.moved(0, 0), 37);
    }

    static void p32_noSuchJudgeOrCase() throws Exception {
        says("EVEN of a JUDGE and a CASE: the least number (0 to 99) with which in place of GRAVE it would be hanged by him "
                + "in HOUR; none.");
        thereAre(3, "even of judge", (x, j) -> x.even(j, 0));
        thereAre(5, "even of case", (x, c) -> x.even(0, c));
    }

    static void p32_from0To99() throws Exception {
        says("the least number (0 to 99) with which in place of GRAVE it would be hanged by him in HOUR; none.");
        int[][] rows = {{0, 0, 1}, {0, 1, 2}, {97, 0, 98}, {98, 0, 99}, {99, 0, -1}, {49, 49, 99}, {50, 49, -1}, {99, 99, -1}};
        for (int[] row : rows) {
            HungryBench x = town("judge mercy " + row[0] + " nerve 0 hunger " + row[1] + ";" + cases(7));
            due("mercy " + row[0] + ", hunger " + row[1], x.even(0, 0), row[2]);
            due("grave stays", x.cause(0, 1), 7);
        }
        HungryBench x = under("harden 1", "judge mercy 0 nerve 0;" + cases(99));
        due("0 is hanged", x.even(0, 0), 0);
        rule(x, "harden 99;harden 99");
        due("0 is hanged, by far", x.even(0, 0), 0);
        HungryBench y = under("move 99 if grave < 98;move 50 if late", "judge mercy 0 nerve 0;" + cases(1) + ";hour 5");
        due("98 by the law", y.even(0, 0), 98);
        tell(y, "hour 6");
        due("98 in hour 6", y.even(0, 0), 98);
        rule(y, "move 99 if grave < 97;move 98 if late");
        due("99 in hour 6", y.even(0, 0), 99);
        tell(y, "hour 5");
        due("97 in hour 5", y.even(0, 0), 97);
    }

    // ---- 33 rather, 34 worth

    static void p33_noSuchJudgeOrCircuit() throws Exception {
        says("RATHER of a JUDGE and a CIRCUIT: CIRCUITS that he would rather have, as bits.");
        thereAre(3, "rather of judge", (x, j) -> x.rather(j, 0));
        thereAre(5, "rather of circuit", (x, k) -> x.rather(0, k));
    }

    static void p33_circuits0To4() throws Exception {
        says("CIRCUITS 0 to 4: what a CIRCUIT pays is its number times 17, modulo 40");
        HungryBench x = town(times("judge mercy 1 nerve 1", 5));
        int[] due = {2 + 4 + 8 + 16, 4 + 16, 0, 2 + 4 + 16, 4};
        for (int j = 0; j < 5; j++) {
            for (int k = 0; k < 5; k++) {
                due("judge " + j + " rather than " + k, x.rather(j, k), due[k]);
            }
        }
    }

    static void p33_ofLikePayTheLeast() throws Exception {
        says("JUDGES ask CIRCUITS by what these pay them (the most first; of several the least)");
        int[][] rows = {{0, 30}, {10, 30}, {11, 22}, {12, 22}, {16, 22}, {17, 20}, {18, 20}, {27, 20}, {28, 4}, {29, 4},
            {33, 4}, {34, 0}, {35, 0}, {99, 0}};
        for (int[] row : rows) {
            HungryBench x = town("judge mercy 1 nerve 1 pay " + row[0]);
            due("circuit 0 pays " + row[0], x.rather(0, 0), row[1]);
            due("circuit 3 pays 11", x.rather(0, 3), 22 + (row[0] >= 11 ? 1 : 0));
            due("circuit 4 pays 28", x.rather(0, 4), 4 + (row[0] >= 28 ? 1 : 0));
            due("circuit 2 pays 34", x.rather(0, 2), row[0] >= 34 ? 1 : 0);
        }
        HungryBench four = town(times("judge mercy 1 nerve 1", 4) + ";judge mercy 1 nerve 1 pay 6");
        due("34 and 34: rather the lesser number", four.rather(4, 4), 4);
        due("34 and 34", four.rather(4, 2), 0);
    }

    private static HungryBench hanged(String cases) {
        HungryBench x = town("judge mercy 0 nerve 9;judge mercy 0 nerve 9;" + cases);
        int n = x.count(1);
        for (int c = 0; c < n; c++) {
            x.list(0, c, c);
        }
        x.hours(n);
        x.fast(1, 99);
        return x;
    }

    static void p34_hangedOrUndone() throws Exception {
        says("APPEAL: the CASE hanged or undone, whose WORTH less GRAVE by 10 is the most, and that some JUDGE would free in "
                + "HOUR (of several the least; none).");
        due("none of those that wait", town("judge mercy 99 nerve 0;" + cases(1)).worth(), -1);
        HungryBench x = town("judge mercy 50 nerve 0;" + cases(1) + ";list 0 0 0");
        x.hours(1);
        due("none of those freed", x.worth(), -1);
        HungryBench y = town("judge mercy 50 nerve 0;" + cases(1) + ";list 0 0 0;inn 0 100");
        y.hours(1);
        due("one undone", y.worth(), 0);
        HungryBench z = hanged("case a grave 20");
        due("one hanged", z.worth(), 0);
        z.appeal(0);
        due("it waits again", z.worth(), -1);
        due("without judges", town(cases(1)).worth(), -1);
    }

    static void p34_theMostOfSeveralTheLeast() throws Exception {
        says("whose WORTH less GRAVE by 10 is the most");
        HungryBench x = hanged("case a grave 30 worth 5;case a grave 20 worth 4;case a grave 40 worth 6");
        due("2, 2, 2: the least", x.worth(), 0);
        x.grave(0, 40);
        due("1, 2, 2", x.worth(), 1);
        x.grave(2, 30);
        due("1, 2, 3", x.worth(), 2);
        HungryBench y = hanged("case a grave 99 worth 0");
        due("less than none is some", y.worth(), 0);
        HungryBench z = hanged("case a grave 99 worth 8;case a grave 90 worth 8;case a grave 89 worth 8");
        due("8 less 8", z.worth(), 2);
        z.grave(2, 99);
        due("8 less 9, of three the least", z.worth(), 0);
        HungryBench low = hanged("case a grave 19 worth 1;case a grave 9 worth 0;case a grave 10 worth 1");
        due("1 less 1, 0 less 0, 1 less 1", low.worth(), 0);
    }

    static void p34_ofEightTheLast() throws Exception {
        says("whose WORTH less GRAVE by 10 is the most");
        HungryBench x = hanged(cases(9, 9, 9, 9, 9, 9, 9) + ";case a grave 9 worth 2");
        due("all are hanged", x.state(2), 255);
        due("the last of eight", x.worth(), 7);
        x.grave(7, 10);
        due("2 less 1, of eight the least", x.worth(), 0);
    }

    static void p34_someJudgeWouldFreeItInHour() throws Exception {
        says("and that some JUDGE would free in HOUR (of several the least; none).");
        HungryBench x = town("judge mercy 0 nerve 9;judge mercy 9 nerve 9 hunger 3;" + cases(14, 30) + ";list 0 0 0;"
                + "list 0 1 1");
        x.hours(2);
        due("hanged", x.state(2), 3);
        due("point 0 of judge 1", x.worth(), 0);
        x.grave(0, 15);
        due("point -1 of judge 1", x.worth(), -1);
        x.fast(0, 15);
        due("point 0 of judge 0", x.worth(), 0);
        rule(x, "harden 9 if not late");
        due("in hour 2", x.worth(), -1);
        tell(x, "hour 6");
        due("in hour 6", x.worth(), 0);
    }

    // ---- 35 pairs, 36 agree

    static void p35_noneOrAJudge() throws Exception {
        says("PAIRS: how many (judge NONE), or with whom one is; NONE.");
        for (int j = -1; j <= 2; j++) {
            int judge = j;
            taken("pairs of " + j, () -> standing().pairs(judge));
        }
        for (int j : new int[] {-2, 3, 4, 256, LEAST, MOST}) {
            stays("pairs of " + j, INDEX, x -> x.pairs(j));
        }
        HungryBench none = town(cases(1));
        due("how many without judges", none.pairs(-1), 0);
        refused("no judge", INDEX, () -> none.pairs(0));
        HungryBench one = town("judge mercy 1 nerve 1;" + cases(1));
        due("how many with one", one.pairs(-1), 0);
        due("with whom one alone is", one.pairs(0), -1);
    }

    static void p35_aboutWhichBothDiffer() throws Exception {
        says("so that CASES that wait about which both would differ in HOUR (one frees it) are together the most: how many");
        HungryBench x = town("judge mercy 0 nerve 9;judge mercy 9 nerve 9;" + cases(0, 1, 9, 10));
        due("1 and 9", x.pairs(-1), 2);
        due("0 with 1", x.pairs(0), 1);
        due("1 with 0", x.pairs(1), 0);
        x.list(1, 0, 1);
        x.hours(1);
        due("one that does not wait; both are hungrier", x.pairs(-1), 2);
        x.grave(2, 11);
        due("one", x.pairs(-1), 1);
        x.grave(3, 11);
        due("none", x.pairs(-1), 0);
        due("0 alone", x.pairs(0), -1);
        HungryBench one = town("judge mercy 0 nerve 9;judge mercy 9 nerve 9;" + cases(9, 9) + ";list 0 0 0");
        due("about two that wait", one.pairs(-1), 2);
        one.hours(1);
        due("about one that waits, and one that does not", one.pairs(-1), 1);
        due("0 with 1", one.pairs(0), 1);
        one.list(0, 1, 1);
        one.hours(1);
        due("about none that waits", one.pairs(-1), 0);
        due("0 alone", one.pairs(0), -1);
        HungryBench all = town("judge mercy 0 nerve 9;judge mercy 9 nerve 9;" + cases(9, 9, 9, 9, 9, 9, 9, 9));
        due("eight", all.pairs(-1), 8);
    }

    static void p35_firstWay() throws Exception {
        says("with whom one is in the first such way (JUDGE by JUDGE, none being the least, then the others); none.");
        HungryBench x = town("judge mercy 0 nerve 9;judge mercy 9 nerve 9;judge mercy 9 nerve 9;" + cases(9));
        int[] due = {1, 0, -1};
        for (int j = 0; j < 3; j++) {
            due("0 with the least that differs: " + j, x.pairs(j), due[j]);
        }
        HungryBench y = town("judge mercy 0 nerve 9;judge mercy 0 nerve 9;judge mercy 9 nerve 9;" + cases(9));
        int[] late = {-1, 2, 1};
        for (int j = 0; j < 3; j++) {
            due("none is less than the others: " + j, y.pairs(j), late[j]);
        }
        HungryBench four = town(times("judge mercy 0 nerve 9", 2) + ";" + times("judge mercy 9 nerve 9", 2) + ";" + cases(9));
        int[] two = {2, 3, 0, 1};
        due("two pairs", four.pairs(-1), 2);
        for (int j = 0; j < 4; j++) {
            due("two pairs: " + j, four.pairs(j), two[j]);
        }
        HungryBench alike = town(times("judge mercy 9 nerve 9", 5) + ";" + cases(9));
        for (int j = 0; j < 5; j++) {
            due("none differ: " + j, alike.pairs(j), -1);
        }
    }

    static void p36_allOrAllThatWait() throws Exception {
        says("AGREE, as bits (all that wait without JUDGES).");
        due("without judges", town(cases(99, 0, 99, 0, 99, 0, 99, 0)).agree(), 255);
        due("without both", new HungryBench().agree(), 0);
        HungryBench x = town("judge mercy 5 nerve 9;judge mercy 7 nerve 9;" + cases(4, 5, 6, 7, 8));
        due("5 of both", x.agree(), 3);
        x.list(0, 0, 0);
        x.hours(1);
        due("those that wait; 6 by now", x.agree(), 6);
        HungryBench five = town(times("judge mercy 5 nerve 9", 4) + ";judge mercy 4 nerve 9;" + cases(5));
        due("four of five", five.agree(), 0);
        five.fast(4, 1);
        due("five of five", five.agree(), 1);
    }

    // ---- 37 rests, 38 odds

    static void p37_noSuchJudge() throws Exception {
        says("RESTS of a JUDGE and a cook");
        thereAre(3, "rests", (x, j) -> x.rests(j));
    }

    static void p37_hungerBy10RoundedDown() throws Exception {
        says("sitting with baking he has HUNGER by 10, rounded down, less 3, the cook 0 less 1; sitting without he has HUNGER "
                + "by 10, the cook 0; dining with baking he has 4, the cook NERVE; dining without he has 0 less 2, the cook 0");
        int[][] rows = {{0, 6}, {9, 6}, {10, 6}, {69, 6}, {70, 6}, {71, 6}, {78, 6}, {79, 6}, {80, 2}, {81, 2}, {99, 2}};
        for (int[] row : rows) {
            for (int nerve : new int[] {0, 1, 9}) {
                HungryBench x = town("judge mercy 0 nerve " + nerve + " hunger " + row[0]);
                due("hunger " + row[0] + ", nerve " + nerve, x.rests(0), row[1]);
            }
        }
    }

    static void p38_noSuchJudge() throws Exception {
        says("ODDS. IllegalArgumentException: N is none.");
        thereAre(3, "odds of judge", (x, j) -> x.odds(j, 4));
        toldFirst("no judge, no number", INDEX, x -> x.odds(3, 5));
        toldFirst("no judge, no number", INDEX, x -> x.odds(-1, -1));
    }

    static void p38_n0To4() throws Exception {
        says("ODDS of a JUDGE and N HOURS (0 to 4) from HOUR on: that no crumbs come to him in any of these");
        numbersFrom(0, 4, "odds", (x, n) -> x.odds(2, n));
        HungryBench x = town("judge mercy 0 nerve 0;inn 0 50;inn 1 50;inn 2 50;inn 3 50;inn 4 50");
        int[] due = {10000, 5000, 2500, 1250, 625};
        for (int n = 0; n <= 4; n++) {
            due("odds of " + n, x.odds(0, n), due[n]);
        }
    }

    static void p38_moduloTwelve() throws Exception {
        says("each by INN of that HOUR (modulo 12) and 10 times NERVE less (0 at least), in 10000, rounded down each time.");
        for (int hour : new int[] {8, 9, 11}) {
            HungryBench x = town("judge mercy 0 nerve 0;inn 8 10;inn 9 20;inn 10 30;inn 11 40;inn 0 50;inn 1 60;inn 2 70;"
                    + "hour " + hour);
            int[] due = hour == 8 ? new int[] {10000, 9000, 7200, 5040, 3024}
                    : hour == 9 ? new int[] {10000, 8000, 5600, 3360, 1680} : new int[] {10000, 6000, 3000, 1200, 360};
            for (int n = 0; n <= 4; n++) {
                due("odds of " + n + " from hour " + hour, x.odds(0, n), due[n]);
            }
        }
    }

    static void p38_0AtLeastAndRoundedDown() throws Exception {
        says("10 times NERVE less (0 at least), in 10000, rounded down each time.");
        int[][] rows = {{0, 0, 10000}, {0, 1, 9900}, {0, 99, 100}, {0, 100, 0}, {1, 9, 10000}, {1, 10, 10000}, {1, 11, 9900},
            {9, 89, 10000}, {9, 90, 10000}, {9, 91, 9900}, {9, 100, 9000}};
        for (int[] row : rows) {
            HungryBench x = town("judge mercy 0 nerve " + row[0] + ";inn 0 " + row[1]);
            due("nerve " + row[0] + ", inn " + row[1], x.odds(0, 1), row[2]);
        }
        HungryBench x = town("judge mercy 0 nerve 0;inn 0 1;inn 1 1;inn 2 1;inn 3 1");
        int[] due = {10000, 9900, 9801, 9702, 9604};
        for (int n = 0; n <= 4; n++) {
            due("9702.99 is 9702, 9604.98 is 9604: " + n, x.odds(0, n), due[n]);
        }
        HungryBench law = under("crumb 50", "judge mercy 0 nerve 0;inn 0 10");
        due("by the inn and nerve alone", law.odds(0, 1), 9000);
    }

    // ---- 39 hungriest to 43 twins

    static void p39_ofSeveralTheLeast() throws Exception {
        says("HUNGRIEST: the JUDGE of the most HUNGER (of several the least; none).");
        due("none", town(cases(1)).hungriest(), -1);
        due("one of hunger 0", town("judge mercy 0 nerve 0").hungriest(), 0);
        HungryBench x = town("judge mercy 0 nerve 0 hunger 5;judge mercy 0 nerve 0 hunger 5;judge mercy 0 nerve 0 hunger 4");
        due("5, 5, 4", x.hungriest(), 0);
        x.fast(2, 5);
        due("5, 5, 5", x.hungriest(), 0);
        x.fast(2, 6);
        due("5, 5, 6", x.hungriest(), 2);
        x.fast(1, 6);
        due("5, 6, 6", x.hungriest(), 1);
    }

    static void p40_ofThoseThatWait() throws Exception {
        says("GRAVEST: the CASE that waits of the most GRAVE (of several the least; none).");
        due("none", town("judge mercy 0 nerve 0").gravest(), -1);
        due("one of grave 0", town(cases(0)).gravest(), 0);
        HungryBench x = town("judge mercy 0 nerve 0;" + cases(5, 6, 6) + ";list 0 0 1;list 0 1 2;list 0 2 0");
        due("5, 6, 6", x.gravest(), 1);
        x.grave(0, 6);
        due("6, 6, 6", x.gravest(), 0);
        x.grave(0, 5);
        x.hours(1);
        due("1 does not wait", x.gravest(), 2);
        x.hours(1);
        due("nor 2", x.gravest(), 0);
        x.hours(1);
        due("none waits", x.gravest(), -1);
    }

    static void p41_kinds0To5() throws Exception {
        says("OF A KIND: CASES of it, as bits.");
        thereAre(6, "kind", (x, k) -> x.kind(k));
        HungryBench x = town("case a grave 1;case f grave 1;case b grave 1;case a grave 1;case e grave 1");
        int[] due = {9, 4, 0, 0, 16, 2};
        for (int k = 0; k < 6; k++) {
            due("kind " + k, x.kind(k), due[k]);
        }
        due("all eight", town(times("case f grave 1", 8)).kind(5), 255);
        due("waiting or not", standing().kind(0), 9);
    }

    static void p42_states0To3() throws Exception {
        says("IN A STATE, as bits. IllegalArgumentException: there is none (0 to 3).");
        numbersFrom(0, 3, "state", (x, n) -> x.state(n));
        int[] due = {18, 1, 4, 8};
        for (int n = 0; n <= 3; n++) {
            due("state " + n, standing().state(n), due[n]);
        }
        due("all eight", town(times("case f grave 1", 8)).state(0), 255);
        stays("state 4 of a new object", ARGUMENT, HungryBench::new, x -> x.state(4));
        stays("state -1 of a new object", ARGUMENT, HungryBench::new, x -> x.state(-1));
    }

    static void p43_likeKindAndGrave() throws Exception {
        says("TWINS: pairs of CASES of like KIND and GRAVE: how many.");
        due("of none", new HungryBench().twins(), 0);
        due("of one", town(cases(1)).twins(), 0);
        due("of two", town(cases(1, 1)).twins(), 1);
        due("of another grave", town(cases(1, 2)).twins(), 0);
        due("of another kind", town("case a grave 1;case b grave 1").twins(), 0);
        due("of three", town(cases(1, 1, 1)).twins(), 3);
        due("of eight", town(cases(1, 1, 1, 1, 1, 1, 1, 1)).twins(), 28);
        due("of two and two", town(cases(1, 2, 2, 1)).twins(), 2);
        HungryBench x = standing();
        due("of none alike", x.twins(), 0);
        x.grave(3, 45);
        due("freed and undone", x.twins(), 1);
    }

    // ---- 44 ahead, 45 trial, 46 span

    private static final String SIX = "judge mercy 50 nerve 0;" + cases(1, 90) + ";case a grave 1 on 0;list 0 0 0;list 0 1 1;"
            + "list 0 11 2;inn 1 100";

    static void p44_noSuchCaseOrN() throws Exception {
        says("AHEAD of a CASE by N HOURS: the STATE. IllegalArgumentException: N is none.");
        thereAre(5, "ahead of case", (x, c) -> x.ahead(c, 1));
        numbersFrom(0, 48, "ahead", (x, n) -> x.ahead(0, n));
        toldFirst("no case, no number", INDEX, x -> x.ahead(5, 49));
        toldFirst("no case, no number", INDEX, x -> x.ahead(-1, -1));
    }

    static void p44_nobodyHasCrumbs() throws Exception {
        says("AHEAD by N HOURS (0 to 48): as so many HOURS in which nobody has crumbs (no DRAWS).");
        HungryBench x = town(SIX);
        int[][] due = {{0, 0, 0, 0}, {1, 1, 0, 0}, {2, 1, 2, 0}, {11, 1, 2, 0}, {12, 1, 2, 1}, {48, 1, 2, 1}};
        for (int[] row : due) {
            for (int c = 0; c < 3; c++) {
                due("case " + c + " ahead by " + row[0], x.ahead(c, row[0]), row[1 + c]);
            }
        }
        alike("nothing stays", look(x), look(town(SIX)));
        HungryBench y = town("judge mercy 0 nerve 0;" + cases(47, 46, 37) + ";hour 1");
        y.list(0, 0, 0);
        due("not heard by 11", y.ahead(0, 11), 0);
        due("heard by 12, 11 hungrier", y.ahead(0, 12), 2);
        tell(y, "hour 0");
        due("hanged at once, by 48, too", y.ahead(0, 48), 2);
    }

    static void p45_n0To48() throws Exception {
        says("TRIAL: CASES freed (undone false), or undone, as bits. IllegalArgumentException: N is none.");
        numbersFrom(0, 48, "trial", (x, n) -> x.trial(n, false));
        numbersFrom(0, 48, "trial, undone", (x, n) -> x.trial(n, true));
    }

    static void p45_drawsTooNothingStays() throws Exception {
        says("TRIAL of N HOURS (0 to 48) from now (draws, too; nothing stays): CASES freed then, as bits; undone then, as "
                + "bits.");
        HungryBench x = town(SIX);
        int[][] due = {{0, 0, 0}, {1, 1, 0}, {2, 0, 3}, {11, 0, 3}, {12, 4, 3}, {48, 4, 3}};
        for (int[] row : due) {
            due("freed by " + row[0], x.trial(row[0], false), row[1]);
            due("undone by " + row[0], x.trial(row[0], true), row[2]);
        }
        alike("nothing stays", look(x), look(town(SIX)));
        HungryBench seed = town("judge mercy 50 nerve 0;" + cases(1) + ";list 0 0 0;inn 0 38");
        due("from seed 1: 38", seed.trial(1, true), 0);
        seed.seed(0);
        due("from seed 0: 0", seed.trial(1, true), 1);
        due("and again", seed.trial(1, true), 1);
        due("seed stays", seed.seed(0), 0);
        HungryBench then = standing();
        due("those freed now", then.trial(0, false), 1);
        due("those undone now", then.trial(0, true), 8);
    }

    static void p46_n0To48() throws Exception {
        says("SPAN: the least (most false), or the greatest. IllegalArgumentException: N is none (0 to 48).");
        numbersFrom(0, 48, "span", (x, n) -> x.span(n, false));
        numbersFrom(0, 48, "span, most", (x, n) -> x.span(n, true));
    }

    static void p46_seeds1To6() throws Exception {
        says("SPAN: the least and the greatest WORTH of CASES freed together so from SEED 1, 2, .. 6.");
        // first draws of seeds 0 to 7 modulo 100: 0, 38, 8, 47, 17, 55, 26, 64
        int[][] rows = {{0, 5, 5}, {8, 5, 5}, {9, 0, 5}, {26, 0, 5}, {55, 0, 5}, {56, 0, 0}, {100, 0, 0}};
        for (int[] row : rows) {
            HungryBench x = town("judge mercy 50 nerve 0;case a grave 1 worth 5;list 0 0 0;inn 0 " + row[0]);
            x.seed(99);
            due("least, inn " + row[0], x.span(1, false), row[1]);
            due("greatest, inn " + row[0], x.span(1, true), row[2]);
            due("seed stays", x.seed(0), 99);
        }
        // ninth draws of seeds 1 to 6: 12, 2, 92, 82, 72, 95; thirteenth: 84, 8, 33, 57, 81, 6
        String last = "judge mercy 50 nerve 0;case a grave 1 worth 5;list 0 8 0;inn 8 ";
        due("freed from seed 6 alone", town(last + "95").span(9, true), 5);
        due("freed from none", town(last + "96").span(9, true), 0);
        String two = "judge mercy 50 nerve 0;judge mercy 0 nerve 9;case a grave 1 worth 5;list 0 6 0;inn 6 ";
        due("undone from seed 6 alone", town(two + "7").span(7, false), 0);
        due("undone from none", town(two + "6").span(7, false), 5);
        // tenth draws of seeds 1 to 6: 86, 31, 7, 83, 60, 36; third: 13, 39, 65, 91, 16, 42
        String first = "judge mercy 50 nerve 0;case a grave 1 worth 5;";
        due("freed from seed 1 alone", town(first + "list 0 9 0;inn 9 86").span(10, true), 5);
        due("freed from none", town(first + "list 0 9 0;inn 9 87").span(10, true), 0);
        due("undone from seed 1 alone", town(first + "list 0 2 0;inn 2 14").span(3, false), 0);
        due("undone from none", town(first + "list 0 2 0;inn 2 13").span(3, false), 5);
        HungryBench x = town(SIX);
        x.span(48, true);
        x.span(48, false);
        alike("nothing stays", look(x), look(town(SIX)));
    }

    static void p46_ofThoseFreedNowToo() throws Exception {
        says("the least and the greatest WORTH of CASES freed together so");
        HungryBench x = standing();
        due("of those freed now", x.span(0, false), 5);
        due("of those freed now", x.span(0, true), 5);
        HungryBench all = town("judge mercy 50 nerve 9;" + times("case a grave 1 worth 99", 8));
        for (int c = 0; c < 8; c++) {
            all.list(0, c, c);
        }
        due("all by 8", all.span(8, false), 792);
        due("all but one by 7", all.span(7, true), 693);
        due("none by 0", all.span(0, true), 0);
        due("of no worth", town("judge mercy 50 nerve 9;case a grave 1 worth 0;list 0 0 0").span(1, true), 0);
    }
}
