/** The bounds of promises 13 to 20: hours, and the other ACTS. */
public final class ActBoundsTest extends Check {
    private ActBoundsTest() {
    }

    public static void main(String[] args) throws Exception {
        runTests(ActBoundsTest.class, 13, 20);
    }

    /** Rows of THE LOG, the latest first, as 6 numbers each. */
    private static void rows(HungryBench x, int[][] due) {
        due("rows", x.count(9), due.length);
        for (int ago = 0; ago < due.length; ago++) {
            for (int what = 0; what < 6; what++) {
                due("row " + ago + " " + what, x.log(ago, what), due[ago][what]);
            }
        }
        due("none behind the oldest", x.log(due.length, 0), -1000);
    }

    // ---- 13 hours

    static void p13_from1To48() throws Exception {
        says("So many HOURS more (1 to 48): how many CASES were heard in these. IllegalArgumentException: they are none.");
        numbersFrom(1, 48, "hours", (x, n) -> x.hours(n));
        for (int n : new int[] {1, 2, 11, 12, 13, 47, 48}) {
            HungryBench x = town("judge mercy 0 nerve 9");
            due("heard", x.hours(n), 0);
            due("hours", 12 * x.count(5) + x.count(4), n);
            due("hunger", x.judge(0, 0), n);
            due("one act", x.count(10), 1);
        }
        stays("0 hours of a new object", ARGUMENT, HungryBench::new, x -> x.hours(0));
        stays("49 hours of a new object", ARGUMENT, HungryBench::new, x -> x.hours(49));
    }

    static void p13_howManyWereHeard() throws Exception {
        says("So many HOURS more (1 to 48): how many CASES were heard in these.");
        HungryBench x = town(times("judge mercy 99 nerve 9", 5) + ";" + times("case a grave 0", 8),
                "list 0 0 0;list 1 0 1;list 2 0 2;list 3 0 3;list 4 0 4;list 0 1 5;list 0 11 6");
        due("five in an hour", x.hours(1), 5);
        due("one in ten", x.hours(10), 1);
        due("one in the last", x.hours(1), 1);
        due("none of those that stand nowhere", x.hours(48), 0);
        x.list(2, 0, 7);
        due("one", x.hours(48), 1);
        due("none that does not wait", x.hours(48), 0);
    }

    static void p13_aCaseOfThatHourThatWaits() throws Exception {
        says("(a) each JUDGE, by numbers, who has a CASE in THE LIST in HOUR that waits: it is freed or hanged, as he "
                + "FINDS (by all as it is then), BY him, and the DAY is told");
        for (int h = 4; h <= 6; h++) {
            HungryBench x = town("judge mercy 50 nerve 9;case a grave 1;hour 5;day 3");
            x.list(0, h, 0);
            due("listed in hour " + h, x.hours(1), h == 5 ? 1 : 0);
            due("state", x.cause(0, 4), h == 5 ? 1 : 0);
            due("by", x.cause(0, 5), h == 5 ? 0 : -1);
            due("day", x.cause(0, 6), h == 5 ? 3 : -1);
        }
        HungryBench x = town("judge mercy 50 nerve 9;case a grave 1;list 0 5 0;hour 5");
        x.hours(1);
        tell(x, "hour 5");
        due("it does not wait", x.hours(1), 0);
        due("one row", x.count(9), 1);
    }

    static void p13_freedIfPointIs0() throws Exception {
        says("FINDS: freed, if POINT is 0 at least; else hanged.");
        for (int grave = 9; grave <= 11; grave++) {
            HungryBench x = town("judge mercy 6 nerve 9 hunger 4;case a grave " + grave + ";list 0 0 0");
            x.hours(1);
            due("state", x.cause(0, 4), grave <= 10 ? 1 : 2);
            rows(x, new int[][] {{0, 0, 0, grave <= 10 ? 0 : 1, 0, 10 - grave}});
        }
    }

    static void p13_byNumbersAsItIsThen() throws Exception {
        says("as he FINDS (by all as it is then)");
        for (int first = 0; first < 2; first++) {
            HungryBench x = under("move 50 if precedent", "judge mercy 10 nerve 9;judge mercy 10 nerve 9;case a grave 5;"
                    + "case a grave 60 on 0");
            x.list(first, 0, 0);
            x.list(1 - first, 0, 1);
            due("two are heard", x.hours(1), 2);
            due("freed if the other was found ahead", x.cause(1, 4), first == 0 ? 1 : 2);
            due("the latest row is of judge 1", x.log(0, 4), 1);
        }
    }

    static void p13_hungerIs99AtMost() throws Exception {
        says("(b) each JUDGE, by numbers: HUNGER is 1 more (99 at most)");
        HungryBench x = town("judge mercy 0 nerve 9 hunger 97;judge mercy 0 nerve 9 hunger 99;judge mercy 0 nerve 9");
        int[] due = {98, 99, 99};
        for (int i = 0; i < 3; i++) {
            x.hours(1);
            due("from 97", x.judge(0, 0), due[i]);
            due("from 99", x.judge(1, 0), 99);
            due("from 0", x.judge(2, 0), i + 1);
        }
        x.hours(48);
        x.hours(48);
        due("hunger of all", x.count(8), 297);
    }

    static void p13_foundAheadOfGrowingHungry() throws Exception {
        says("(b) each JUDGE, by numbers: HUNGER is 1 more (99 at most); (c) each JUDGE, by numbers");
        HungryBench x = town("judge mercy 0 nerve 9 hunger 9;case a grave 10;list 0 0 0");
        x.hours(1);
        due("hanged by 9 of hunger", x.cause(0, 4), 2);
        due("now he is hungry by 10", x.judge(0, 0), 10);
    }

    static void p13_drawBelowCrumbs() throws Exception {
        says("(c) each JUDGE, by numbers: if DRAW modulo 100 is below his CRUMBS in HOUR (the CASE that he had in (a), or "
                + "none), HUNGER is 0");
        // the draws of seed 1 are 38, 58, 13, those of seed 0 are 0, 68, 88, of seed 1080: 99
        int[][] rows = {{1, 37, 0}, {1, 38, 0}, {1, 39, 1}, {1, 100, 1}, {0, 0, 0}, {0, 1, 1}, {1080, 98, 0}, {1080, 99, 0},
            {1080, 100, 1}};
        for (int[] row : rows) {
            HungryBench x = town("judge mercy 50 nerve 0 hunger 5;case a grave 1;list 0 0 0;inn 0 " + row[1]);
            x.seed(row[0]);
            x.hours(1);
            due("hunger, seed " + row[0] + ", inn " + row[1], x.judge(0, 0), row[2] == 1 ? 0 : 6);
            due("state", x.cause(0, 4), row[2] == 1 ? 3 : 1);
        }
        HungryBench x = under("crumb 99", "judge mercy 50 nerve 0;inn 0 100");
        x.seed(1080);
        x.hours(1);
        due("crumbs of 199", x.judge(0, 0), 0);
    }

    static void p13_drawsOfAllJudges() throws Exception {
        says("DRAW: SEED is 1103515245 times SEED and 12345, as an int that goes round; bits 16 to 30 (SEED 1 at first).");
        HungryBench x = town("judge mercy 0 nerve 9;judge mercy 0 nerve 9;judge mercy 0 nerve 0;inn 0 14");
        x.hours(1);
        due("the third draw is 13", x.judge(2, 0), 0);
        due("nerve 9 has none", x.judge(0, 0), 1);
        HungryBench y = town("judge mercy 0 nerve 9;judge mercy 0 nerve 9;judge mercy 0 nerve 0;inn 0 13");
        y.hours(1);
        due("not below 13", y.judge(2, 0), 1);
        due("three draws", y.seed(0), next(next(next(1))));
        HungryBench none = town("day 1");
        none.hours(5);
        due("no judges, no draws", none.seed(0), 1);
    }

    private static int next(int seed) {
        return 1103515245 * seed + 12345;
    }

    static void p13_seedGoesRound() throws Exception {
        says("as an int that goes round; bits 16 to 30");
        // the first draws: of seed 132 (its bit 31 is 1) 0, of 194 (likewise) 99, of the others as they were worked out
        int[][] rows = {{132, 0}, {194, 99}, {MOST, 29}, {LEAST, 0}, {-1, 29}, {2, 8}, {3, 47}, {4, 17}, {5, 55}, {6, 26}};
        for (int[] row : rows) {
            for (int beside = 0; beside <= 1; beside++) {
                HungryBench x = town("judge mercy 0 nerve 0 hunger 7");
                x.inn(0, row[1] + beside);
                x.seed(row[0]);
                x.hours(1);
                due("seed " + row[0] + ", inn " + (row[1] + beside), x.judge(0, 0), beside == 1 ? 0 : 8);
                due("the next seed", x.seed(0), next(row[0]));
            }
        }
    }

    static void p13_crumbsByTheCaseHeIsIn() throws Exception {
        says("his CRUMBS in HOUR (the CASE that he had in (a), or none)");
        String two = "judge mercy 50 nerve 0;judge mercy 50 nerve 0;case a grave 1;case b grave 1;list 0 0 0;list 1 1 1";
        HungryBench x = under("crumb 99 if kind < 1;crumb 9 if kind < 1", two);
        x.hours(1);
        due("crumbs by case 0", x.judge(0, 0), 0);
        due("none without a case", x.judge(1, 0), 1);
        x.appeal(0);
        x.hours(1);
        due("none by case 1", x.judge(1, 0), 2);
        due("none without a case, behind one", x.judge(0, 0), 1);
        HungryBench y = under("crumb 99 if kind > 5;crumb 9 if kind > 5", two);
        y.hours(1);
        due("none by case 0", y.judge(0, 0), 1);
        due("crumbs without a case", y.judge(1, 0), 0);
        HungryBench z = under("crumb 99 if kind < 1;crumb 9 if kind < 1", two);
        z.hours(1);
        tell(z, "hour 0");
        z.fast(0, 5);
        z.hours(1);
        due("he did not have one that does not wait", z.judge(0, 0), 6);
    }

    static void p13_hungerOfCrumbLinesBehindB() throws Exception {
        says("the HUNGER of crumb LINES is that behind (b))");
        for (int n = 4; n <= 6; n++) {
            HungryBench x = under("crumb 99 if hunger > " + n + ";crumb 1", "judge mercy 0 nerve 0 hunger 5");
            x.hours(1);
            due("5, and 6 then, beyond " + n, x.judge(0, 0), n < 6 ? 0 : 6);
        }
    }

    static void p13_foundOnThisDay() throws Exception {
        says("all CASES freed or hanged BY him on this DAY are undone");
        HungryBench x = town("judge mercy 50 nerve 0;case a grave 1;case a grave 90;case a grave 1;list 0 9 0;list 0 10 1;"
                + "list 0 11 2;inn 11 100;hour 9");
        x.hours(2);
        due("freed and hanged", x.state(1) + 16 * x.state(2), 1 + 16 * 2);
        x.hours(1);
        due("all of this day are undone in hour 11", x.state(3), 7);
        due("a day more", x.count(5), 1);
        HungryBench y = town("judge mercy 50 nerve 0;case a grave 1;case a grave 1;list 0 11 0;list 0 0 1;inn 0 100;hour 11");
        y.hours(1);
        y.hours(1);
        due("not of the day ahead", y.state(1), 1);
        due("of this day", y.state(3), 2);
        HungryBench z = town("judge mercy 50 nerve 0;case a grave 1;list 0 0 0;inn 1 100;day 5");
        z.hours(1);
        tell(z, "day 4");
        z.hours(1);
        due("not of another day told", z.state(1), 1);
        tell(z, "day 5;hour 1");
        z.hours(1);
        due("of a day told again", z.state(3), 1);
    }

    static void p13_foundByHim() throws Exception {
        says("all CASES freed or hanged BY him on this DAY are undone");
        HungryBench x = town("judge mercy 50 nerve 0;judge mercy 50 nerve 9;case a grave 1;case a grave 1;list 0 0 0;"
                + "list 1 0 1;inn 1 100");
        x.hours(2);
        due("his", x.state(3), 1);
        due("not the other's", x.state(1), 2);
        due("the other stays hungry", x.judge(1, 0), 2);
        due("he does not", x.judge(0, 0), 0);
    }

    static void p13_allThatLeanOnAndOn() throws Exception {
        says("and with each all that LEAN on it, on and on, and are freed or hanged (their rows in THE LOG by numbers of "
                + "CASES, the greatest the latest; BY and the DAY of each stay");
        HungryBench x = town("judge mercy 50 nerve 9;judge mercy 50 nerve 0;case a grave 1;case a grave 1 on 0;"
                + "case a grave 90 on 1;case a grave 1 on 2;case a grave 1 on 3;case a grave 1 on 4;case a grave 1 on 5;"
                + "case a grave 1 on 6", "list 1 10 0;list 0 0 7;list 0 1 6;list 0 2 5;list 0 3 4;list 0 4 3;list 0 5 2;"
                + "list 0 6 1;inn 10 100");
        x.hours(10);
        due("found", x.state(1) + x.state(2), 254);
        x.hours(1);
        due("all eight are undone", x.state(3), 255);
        due("rows", x.count(9), 16);
        for (int c = 0; c < 8; c++) {
            due("row of " + c, x.log(7 - c, 2), c);
            due("undone", x.log(7 - c, 3), 2);
            due("whose crumbs", x.log(7 - c, 4), 1);
            due("point", x.log(7 - c, 5), 0);
            due("hour", x.log(7 - c, 1), 10);
            due("by", x.cause(c, 5), c == 0 ? 1 : 0);
            due("day", x.cause(c, 6), 0);
        }
    }

    static void p13_notThoseThatWaitOrAreUndone() throws Exception {
        says("all that LEAN on it, on and on, and are freed or hanged");
        HungryBench x = town("judge mercy 50 nerve 0;judge mercy 50 nerve 9;case a grave 1;case a grave 1 on 0;"
                + "case a grave 1 on 1;case a grave 1;list 0 1 0;list 1 0 2;inn 1 100");
        x.hours(2);
        due("0, and 2 that leans on it by one that waits", x.state(3), 5);
        due("1 and 3 wait still", x.state(0), 10);
        due("rows", x.count(9), 4);
        tell(x, "hour 1");
        x.hours(1);
        due("undone once", x.count(9), 4);
    }

    static void p13_crumbsOfOneTouchTheNext() throws Exception {
        says("(c) each JUDGE, by numbers");
        HungryBench x = under("crumb 60 if precedent;crumb 60 if precedent", "judge mercy 50 nerve 0;judge mercy 50 nerve 0;"
                + "case a grave 1;case a grave 1 on 0;list 0 0 0;list 1 0 1;inn 0 39");
        x.hours(1);
        due("0 is undone, and 1 with it", x.state(3), 3);
        due("no precedent then: the second draw is 58", x.judge(1, 0), 1);
        rows(x, new int[][] {{0, 0, 1, 2, 0, 0}, {0, 0, 0, 2, 0, 0}, {0, 0, 1, 0, 1, 49}, {0, 0, 0, 0, 0, 49}});
        HungryBench y = under("crumb 60 if precedent;crumb 60 if precedent", "judge mercy 50 nerve 0;judge mercy 50 nerve 0;"
                + "case a grave 1;case a grave 1 on 0;list 0 0 0;list 1 0 1;inn 0 38");
        y.hours(1);
        due("1 alone is undone", y.state(3), 2);
        due("a precedent", y.judge(1, 0), 0);
    }

    static void p13_behindHour11() throws Exception {
        says("HOUR is 1 more; behind 11 it is 0, DAY is 1 more (9999 at most), and all CASES that do not wait are struck "
                + "from THE LIST.");
        HungryBench x = town("judge mercy 50 nerve 9;case a grave 1;case a grave 99;case a grave 1;case a grave 1;"
                + "list 0 8 0;list 0 9 1;list 0 0 2;list 0 10 3;hour 8;day 6");
        x.hours(2);
        due("hour 10", x.count(4), 10);
        x.hours(1);
        due("hour 11", x.count(4), 11);
        due("day 6", x.count(5), 6);
        due("all stand still", x.count(7), 15);
        due("waiting", x.state(0), 4);
        x.hours(1);
        due("hour 0", x.count(4), 0);
        due("day 7", x.count(5), 7);
        due("that alone which waits", x.count(7), 4);
        due("where it stood", x.listed(0, 0), 2);
        due("it is heard", x.hours(1), 1);
        due("hour 1", x.count(4), 1);
        due("day 7", x.count(5), 7);
    }

    static void p13_undoneOnesAreStruckToo() throws Exception {
        says("all CASES that do not wait are struck from THE LIST.");
        HungryBench x = town("judge mercy 50 nerve 0;case a grave 1;case a grave 1;list 0 10 0;list 0 5 1;inn 10 100;hour 10");
        x.hours(1);
        due("undone", x.state(3), 1);
        due("it stands", x.listed(0, 10), 0);
        x.appeal(0);
        x.hours(1);
        due("one that waits again stands", x.listed(0, 10), 0);
        x.hours(11);
        due("undone again", x.state(3) & 1, 1);
        x.hours(1);
        due("struck", x.listed(0, 10), -1);
    }

    static void p13_dayBeyond999() throws Exception {
        says("DAY is 1 more (9999 at most)");
        HungryBench x = town("judge mercy 50 nerve 9;case a grave 1;list 0 0 0;day 999;hour 11");
        due("hours", x.hours(2), 1);
        due("day", x.count(5), 1000);
        due("day of the case", x.cause(0, 6), 1000);
        due("day of its row", x.log(0, 0), 1000);
        for (int n = 0; n < 100; n++) {
            x.hours(48);
        }
        due("400 days more", x.count(5), 1400);
        due("hour", x.count(4), 1);
    }

    static void p13_asManyCallsAsAnObjectIsUsedFor() throws Exception {
        says("An object is used for at most 512 calls after it has been made");
        HungryBench x = town("judge mercy 0 nerve 0;case a grave 99;inn 5 20;day 999");
        int told = 6;
        for (int n = told; n < 511; n++) {
            due("heard", x.hours(48), 0);
        }
        due("day behind the 511th, far from 9999", x.count(5), 999 + 4 * (511 - told));
    }

    static void p13_hourOfTheLog() throws Exception {
        says("DAY, HOUR (ahead of its being 1 more), the CASE, 0 to 2, the JUDGE (of undone ones: whose crumbs), POINT (of "
                + "undone ones 0).");
        HungryBench x = town("judge mercy 50 nerve 9;judge mercy 3 nerve 0 hunger 2;case a grave 1;case a grave 9;list 0 11 0;"
                + "list 1 11 1;inn 11 90;hour 11;day 8");
        x.seed(0);
        x.hours(1);
        due("crumbs of 90, the second draw of seed 0 is 68", x.judge(1, 0), 0);
        rows(x, new int[][] {{8, 11, 1, 2, 1, 0}, {8, 11, 1, 1, 1, -4}, {8, 11, 0, 0, 0, 49}});
    }

    // ---- 14 list

    static void p14_noSuchJudgeHourOrCase() throws Exception {
        says("A CASE is listed: what stood there (it itself, if it stood just there); NONE.");
        thereAre(3, "list of judge", (x, j) -> x.list(j, 0, 4));
        thereAre(12, "list in hour", (x, h) -> x.list(0, h, 4));
        thereAre(5, "list of case", (x, c) -> {
            if (c != 0) {
                x.list(0, 0, c);
            }
        });
    }

    static void p14_oneThatDoesNotWait() throws Exception {
        says("IllegalStateException: it does not wait.");
        stays("list of one freed", STATE, x -> x.list(0, 7, 0));
        stays("list of one hanged", STATE, x -> x.list(0, 7, 2));
        stays("list of one undone", STATE, x -> x.list(0, 7, 3));
        stays("list of one freed where it stands", STATE, x -> x.list(0, 0, 0));
        taken("list of one that waits", () -> standing().list(0, 7, 1));
        taken("list of one that waits again", () -> {
            HungryBench x = standing();
            x.appeal(2);
            x.list(0, 7, 2);
        });
    }

    static void p14_toldFirst() throws Exception {
        says("Of several exceptions the one told first is thrown");
        toldFirst("no judge, one that does not wait", INDEX, x -> x.list(3, 0, 0));
        toldFirst("no hour, one that does not wait", INDEX, x -> x.list(0, 12, 0));
        toldFirst("no case", INDEX, x -> x.list(0, 0, 5));
    }

    static void p14_whatStoodThere() throws Exception {
        says("a CASE is listed (taken from where it stands; what stood there stands nowhere)");
        HungryBench x = town("judge mercy 0 nerve 9;judge mercy 0 nerve 9;case a grave 1;case a grave 1;case a grave 1");
        due("none stood there", x.list(0, 0, 0), -1);
        due("none stood there", x.list(1, 11, 1), -1);
        due("it itself", x.list(0, 0, 0), 0);
        due("it stands there", x.listed(0, 0), 0);
        due("case 0 stood there", x.list(0, 0, 1), 0);
        due("taken from where it stood", x.listed(1, 11), -1);
        due("case 0 stands nowhere", x.cause(0, 7), -1);
        due("in the list", x.count(7), 2);
        due("case 1 stood there", x.list(0, 0, 2), 1);
        due("in the list", x.count(7), 4);
        due("acts", x.count(10), 5);
    }

    static void p14_inPlaceOfOneThatDoesNotWait() throws Exception {
        says("what stood there stands nowhere");
        HungryBench x = standing();
        due("a freed one stood there", x.list(0, 0, 4), 0);
        due("it stands nowhere", x.cause(0, 7), -1);
        due("and is freed still", x.cause(0, 4), 1);
    }

    static void p14_anActThoughNothingChanges() throws Exception {
        says("GRAVE is told (each also if it changes nothing).");
        HungryBench x = standing();
        due("it itself", x.list(2, 5, 4), 4);
        due("acts", x.count(10), 5);
        due("undone", x.undo(), true);
        due("it stands", x.listed(2, 5), 4);
    }

    // ---- 15 strike

    static void p15_noSuchJudgeOrHour() throws Exception {
        says("A place is struck: what stood there. IllegalStateException: nothing did.");
        thereAre(3, "strike of judge", (x, j) -> x.strike(j, j == 0 ? 0 : 5));
        thereAre(12, "strike in hour", (x, h) -> {
            if (h == 11) {
                x.list(0, 11, 4);
            }
            x.strike(0, h);
        });
    }

    static void p15_nothingDid() throws Exception {
        says("IllegalStateException: nothing did.");
        stays("strike of an empty place", STATE, x -> x.strike(0, 1));
        stays("strike of the last place", STATE, x -> x.strike(2, 11));
        stays("strike once more", STATE, () -> {
            HungryBench x = standing();
            x.strike(2, 5);
            return x;
        }, x -> x.strike(2, 5));
        toldFirst("no judge", INDEX, x -> x.strike(3, 1));
        toldFirst("no hour", INDEX, x -> x.strike(0, -1));
    }

    static void p15_waitingOrNot() throws Exception {
        says("A place is struck: what stood there.");
        HungryBench x = standing();
        due("one that waits", x.strike(2, 5), 4);
        due("one that is freed", x.strike(0, 0), 0);
        due("one that is undone", x.strike(2, 1), 3);
        due("none there", x.listed(2, 1), -1);
        due("states stay", x.state(1) + 16 * x.state(3), 1 + 16 * 8);
        due("acts", x.count(10), 7);
    }

    // ---- 16 feeds

    static void p16_noSuchJudge() throws Exception {
        says("Fed: HUNGER that he had.");
        thereAre(3, "feeds", (x, j) -> x.feeds(j));
    }

    static void p16_hungerThatHeHad() throws Exception {
        says("a JUDGE is fed (HUNGER 0, nothing is undone)");
        HungryBench x = town("judge mercy 50 nerve 0 hunger 99;judge mercy 0 nerve 0;case a grave 1;list 0 0 0");
        x.hours(1);
        due("99", x.feeds(0), 99);
        due("0 now", x.judge(0, 0), 0);
        due("nothing is undone", x.state(1), 1);
        due("no row", x.count(9), 1);
        due("of one fed", x.feeds(0), 0);
        due("an act, though it changes nothing", x.count(10), 3);
        due("of another", x.feeds(1), 1);
        due("no draw", x.seed(0), 1103515245 * (1103515245 + 12345) + 12345);
    }

    // ---- 17 fast

    static void p17_noSuchJudge() throws Exception {
        says("He fasts: HUNGER that he had.");
        thereAre(3, "fast of judge", (x, j) -> x.fast(j, 99));
    }

    static void p17_from0To99() throws Exception {
        says("IllegalArgumentException: n is none (0 to 99); IllegalStateException: he had more.");
        Recipe fed = () -> {
            HungryBench x = standing();
            x.feeds(1);
            return x;
        };
        for (int n : new int[] {0, 1, 98, 99}) {
            HungryBench x = fed.make();
            due("fast " + n, x.fast(1, n), 0);
            due("hunger", x.judge(1, 0), n);
        }
        for (int n : new int[] {-1, 100, 101, LEAST, MOST}) {
            stays("fast " + n, ARGUMENT, fed, x -> x.fast(1, n));
        }
    }

    static void p17_heHadMore() throws Exception {
        says("HUNGER as told, no less than it was");
        HungryBench x = standing();
        due("hunger", x.judge(1, 0), 62);
        due("as much", x.fast(1, 62), 62);
        due("one more", x.fast(1, 63), 62);
        due("acts", x.count(10), 6);
        stays("one less", STATE, y -> y.fast(1, 61));
        stays("none", STATE, y -> y.fast(1, 0));
        Recipe full = () -> {
            HungryBench y = standing();
            y.fast(1, 99);
            return y;
        };
        stays("98 of 99", STATE, full, y -> y.fast(1, 98));
        due("99 of 99", full.make().fast(1, 99), 99);
    }

    static void p17_toldFirst() throws Exception {
        says("Of several exceptions the one told first is thrown");
        toldFirst("no judge, no number", INDEX, x -> x.fast(3, 100));
        toldFirst("no judge, less", INDEX, x -> x.fast(-1, 0));
        toldFirst("no number, less", ARGUMENT, x -> x.fast(1, -1));
    }

    // ---- 18 inn

    static void p18_noSuchHour() throws Exception {
        says("An INN is told: what it was.");
        thereAre(12, "inn in hour", (x, h) -> x.inn(h, 5));
    }

    static void p18_from0To100() throws Exception {
        says("IllegalArgumentException: n is none (0 to 100).");
        numbersFrom(0, 100, "inn", (x, n) -> x.inn(1, n));
        HungryBench x = standing();
        int was = 90;
        for (int n : new int[] {0, 1, 99, 100, 100}) {
            due("inn was", x.inn(1, n), was);
            due("inn is", x.smell(1), n);
            was = n;
        }
        due("an act each", x.count(10), 9);
        due("no other", x.smell(7), 30);
    }

    static void p18_toldFirst() throws Exception {
        says("Of several exceptions the one told first is thrown");
        toldFirst("no hour, no number", INDEX, x -> x.inn(12, 101));
        toldFirst("no hour, no number", INDEX, x -> x.inn(-1, -1));
    }

    // ---- 19 appeal

    static void p19_noSuchCase() throws Exception {
        says("An appeal: the STATE that it had.");
        thereAre(5, "appeal", (x, c) -> {
            if (c != 0 && c != 4) {
                x.appeal(c);
            }
        });
    }

    static void p19_neitherHangedNorUndone() throws Exception {
        says("IllegalStateException: it is neither hanged nor undone.");
        stays("appeal of one freed", STATE, x -> x.appeal(0));
        stays("appeal of one that waits", STATE, x -> x.appeal(1));
        HungryBench x = standing();
        due("of one hanged", x.appeal(2), 2);
        due("of one undone", x.appeal(3), 3);
        for (int c = 2; c <= 3; c++) {
            due("it waits again", x.cause(c, 4), 0);
            due("by none", x.cause(c, 5), -1);
            due("day none", x.cause(c, 6), -1);
        }
        due("it stands where it stood", x.listed(1, 0), 2);
        due("rows stay", x.count(9), 4);
        due("acts", x.count(10), 6);
        refused("once more", STATE, () -> x.appeal(2));
        due("no act", x.count(10), 6);
        stays("an appeal once more", STATE, () -> {
            HungryBench y = standing();
            y.appeal(2);
            return y;
        }, y -> y.appeal(2));
        toldFirst("no case", INDEX, y -> y.appeal(5));
    }

    // ---- 20 grave

    static void p20_noSuchCase() throws Exception {
        says("GRAVE is told: what it was.");
        thereAre(5, "grave of case", (x, c) -> x.grave(c, 5));
    }

    static void p20_from0To99() throws Exception {
        says("GRAVE is told: what it was. IllegalArgumentException: n is none (0 to 99).");
        numbersFrom(0, 99, "grave", (x, n) -> x.grave(3, n));
        HungryBench x = standing();
        int was = 10;
        for (int n : new int[] {0, 1, 98, 99, 99}) {
            due("grave was", x.grave(3, n), was);
            due("grave is", x.cause(3, 1), n);
            was = n;
        }
        due("an act each", x.count(10), 9);
        due("of one that does not wait, too", x.cause(3, 4), 3);
        toldFirst("no case, no number", INDEX, y -> y.grave(5, 100));
        toldFirst("no case, no number", INDEX, y -> y.grave(-1, -1));
    }
}
