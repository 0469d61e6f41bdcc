import java.util.ArrayList;
import java.util.List;

/** The bounds of promises 47 to 53: THE LOG, SEED, acts UNDONE, THE IMAGE, and counts. */
public final class PastBoundsTest extends Check {
    private PastBoundsTest() {
    }

    public static void main(String[] args) throws Exception {
        runTests(PastBoundsTest.class, 47, 53);
    }

    /** A town of two cases with so many rows in THE LOG: the first of case 1, all others of case 0, one an hour. */
    private static HungryBench rows(int n) {
        HungryBench x = town("judge mercy 0 nerve 9;case a grave 99;case a grave 99;day 3");
        for (int i = 0; i < n; i++) {
            int c = i == 0 ? 1 : 0;
            x.list(0, x.count(4), c);
            x.hours(1);
            x.appeal(c);
        }
        return x;
    }

    // ---- 47 led, 48 log

    static void p47_noSuchCase() throws Exception {
        says("LED: how many rows (day false), or the DAY; NONE.");
        thereAre(5, "led", (x, c) -> x.led(c, false));
        thereAre(5, "led, day", (x, c) -> x.led(c, true));
    }

    static void p47_noneWithoutRows() throws Exception {
        says("LED: how many rows of THE LOG are of a CASE; the DAY of the latest (none).");
        HungryBench x = rows(0);
        due("rows", x.led(0, false), 0);
        due("day", x.led(0, true), -1);
        HungryBench one = rows(1);
        due("one row", one.led(1, false), 1);
        due("its day", one.led(1, true), 3);
        due("no row of the other", one.led(0, false), 0);
        due("no day of the other", one.led(0, true), -1);
        HungryBench day0 = town("judge mercy 9 nerve 9;case a grave 1;list 0 0 0");
        day0.hours(1);
        due("day 0", day0.led(0, true), 0);
        HungryBench two = rows(14);
        due("13 rows", two.led(0, false), 13);
        due("the day of the latest", two.led(0, true), 4);
        due("the day of the older", two.led(1, true), 3);
    }

    static void p47_ofTheLatest60Alone() throws Exception {
        says("THE LOG: the latest 60 CASES freed (0), hanged (1), undone (2)");
        HungryBench x = rows(60);
        due("the oldest of 60", x.led(1, false), 1);
        due("its day", x.led(1, true), 3);
        due("59", x.led(0, false), 59);
        HungryBench y = rows(61);
        due("the oldest of 61", y.led(1, false), 0);
        due("its day", y.led(1, true), -1);
        due("60", y.led(0, false), 60);
        due("the day of the latest", y.led(0, true), 8);
    }

    static void p48_anotherWhat() throws Exception {
        says("THE LOG so many ago (0 the latest) what 0 DAY, 1 HOUR, 2 the CASE, 3 0 to 2, 4 the JUDGE, 5 POINT; - 1000 "
                + "without. NoSuchElementException: another what.");
        int[] latest = {2, 1, 3, 2, 2, 0};
        for (int what = 0; what <= 5; what++) {
            due("what " + what, standing().log(0, what), latest[what]);
        }
        for (int what : new int[] {-1, 6, 7, 10, LEAST, MOST}) {
            stays("what " + what, ELEMENT, x -> x.log(0, what));
            stays("what " + what + " without a row", ELEMENT, x -> x.log(99, what));
            stays("what " + what + " without a row", ELEMENT, x -> x.log(-1, what));
        }
    }

    static void p48_minus1000Without() throws Exception {
        says("4 the JUDGE, 5 POINT; - 1000 without.");
        HungryBench x = standing();
        due("rows", x.count(9), 4);
        for (int what = 0; what <= 5; what++) {
            for (int ago : new int[] {-1, 4, 5, 59, 60, 61, LEAST, MOST}) {
                due("log " + ago + " " + what, x.log(ago, what), -1000);
            }
        }
        int[][] due = {{2, 1, 3, 2, 2, 0}, {2, 1, 3, 0, 2, 11}, {2, 0, 2, 1, 1, -30}, {2, 0, 0, 0, 0, 0}};
        for (int ago = 0; ago < 4; ago++) {
            for (int what = 0; what <= 5; what++) {
                due("log " + ago + " " + what, x.log(ago, what), due[ago][what]);
            }
        }
        due("without any", new HungryBench().log(0, 0), -1000);
    }

    static void p48_latest60() throws Exception {
        says("THE LOG: the latest 60 CASES freed (0), hanged (1), undone (2)");
        for (int n = 59; n <= 62; n++) {
            HungryBench x = rows(n);
            int has = Math.min(n, 60);
            due("rows of " + n, x.count(9), has);
            due("the oldest's hour of " + n, x.log(has - 1, 1), n - has);
            due("the oldest's day of " + n, x.log(has - 1, 0), 3);
            due("the oldest's case of " + n, x.log(has - 1, 2), n <= 60 ? 1 : 0);
            due("none behind the oldest of " + n, x.log(has, 0), -1000);
            due("the latest's hour of " + n, x.log(0, 1), (n - 1) % 12);
            due("the latest's day of " + n, x.log(0, 0), 3 + (n - 1) / 12);
            due("the latest's point of " + n, x.log(0, 5), n - 1 - 99);
        }
    }

    static void p48_manyRowsOfOneHour() throws Exception {
        says("(their rows in THE LOG by numbers of CASES, the greatest the latest");
        HungryBench x = town("judge mercy 0 nerve 0;case a grave 99;" + times("case a grave 99 on 0", 7));
        for (int n = 0; n < 4; n++) {
            for (int c = 0; c < 8; c++) {
                x.list(0, c, c);
            }
            x.inn(7, 100);
            x.inn(8, 0);
            x.seed(0);
            tell(x, "hour 0");
            due("heard", x.hours(8), 8);
            due("rows", x.count(9), Math.min(60, 16 * (n + 1)));
            due("the latest undone", x.log(0, 2), 7);
            due("the first undone", x.log(7, 2), 0);
            due("undone", x.log(7, 3), 2);
            due("the last heard", x.log(8, 2), 7);
            due("hanged", x.log(8, 3), 1);
            for (int c = 0; c < 8; c++) {
                x.appeal(c);
            }
        }
        due("the oldest of 60: 4 of 64 are gone", x.log(59, 2), 4);
    }

    static void p48_undoneAndBackAtTheBrim() throws Exception {
        says("all is as ahead of it (but for the TAPE, fault(), THE IMAGE).");
        HungryBench x = rows(60);
        x.image();
        x.list(0, x.count(4), 0);
        x.hours(1);
        due("60 of 61", x.count(9), 60);
        due("the oldest is gone", x.led(1, false), 0);
        x.undo();
        due("undone: it is there again", x.led(1, false), 1);
        due("undone: the oldest", x.log(59, 2), 1);
        x.hours(1);
        due("gone again", x.led(1, false), 0);
        x.back();
        due("back: it is there again", x.log(59, 2), 1);
        x.undo();
        due("60", x.count(9), 60);
    }

    static void p48_all60OfTheImage() throws Exception {
        says("THE LOG: the latest 60 CASES freed (0), hanged (1), undone (2)");
        HungryBench x = rows(60);
        x.image();
        for (int i = 0; i < 30; i++) {
            x.list(0, x.count(4), 1);
            x.hours(1);
            x.appeal(1);
        }
        due("30 of case 1 by now", x.led(1, false), 30);
        x.back();
        due("1 of case 1 again", x.led(1, false), 1);
        for (int ago = 0; ago < 60; ago++) {
            due("point " + ago, x.log(ago, 5), 59 - ago - 99);
        }
    }

    // ---- 49 seed

    static void p49_whatItWas() throws Exception {
        says("SEED: what it was.");
        HungryBench x = new HungryBench();
        int was = 1;
        for (int n : new int[] {0, 1, -1, LEAST, MOST, 65536, -2147483647, 7}) {
            due("seed was", x.seed(n), was);
            was = n;
        }
        due("no act", x.count(10), 0);
    }

    static void p49_noActButUndoneWithOne() throws Exception {
        says("all is as ahead of it (but for the TAPE, fault(), THE IMAGE).");
        HungryBench x = town("judge mercy 0 nerve 9");
        x.seed(5);
        due("no act", x.undo(), false);
        due("seed stays", x.seed(5), 5);
        x.feeds(0);
        x.seed(6);
        due("undone", x.undo(), true);
        due("seed as ahead of the act", x.seed(5), 5);
        x.hours(1);
        due("a draw", x.seed(5), 1103515245 * 5 + 12345);
        x.hours(1);
        x.undo();
        due("seed as ahead of the hour", x.seed(0), 5);
    }

    // ---- 50 undo

    /** That an act is remembered, and that all is as ahead of it when it is undone. */
    private static void undone(String what, Recipe recipe, Use act) {
        HungryBench x = recipe.make();
        HungryBench y = recipe.make();
        int acts = x.count(10);
        act.on(x);
        due("acts behind " + what, x.count(10), acts + 1);
        due("undo " + what, x.undo(), true);
        due("acts behind undo " + what, x.count(10), acts);
        alike("behind undo " + what, look(x), look(y));
    }

    static void p50_allIsAsAheadOfEachAct() throws Exception {
        says("ACTS: HOURS; a CASE is listed (taken from where it stands; what stood there stands nowhere); a place of THE LIST "
                + "is struck; a JUDGE is fed (HUNGER 0, nothing is undone), or fasts (HUNGER as told, no less than it was); an "
                + "INN is told; an appeal: a CASE that is hanged or undone waits again (BY and DAY none); GRAVE is told (each "
                + "also if it changes nothing).");
        undone("an hour", Check::standing, x -> x.hours(1));
        undone("48 hours", Check::standing, x -> x.hours(48));
        undone("list", Check::standing, x -> x.list(0, 0, 4));
        undone("list where it stands", Check::standing, x -> x.list(2, 5, 4));
        undone("strike", Check::standing, x -> x.strike(1, 0));
        undone("feeds", Check::standing, x -> x.feeds(1));
        undone("feeds of one fed", Check::standing, x -> x.feeds(2));
        undone("fast", Check::standing, x -> x.fast(2, 99));
        undone("fast as he was", Check::standing, x -> x.fast(1, 62));
        undone("inn", Check::standing, x -> x.inn(0, 100));
        undone("inn as it was", Check::standing, x -> x.inn(7, 30));
        undone("appeal", Check::standing, x -> x.appeal(2));
        undone("appeal of one undone", Check::standing, x -> x.appeal(3));
        undone("grave", Check::standing, x -> x.grave(4, 99));
        undone("grave as it was", Check::standing, x -> x.grave(4, 5));
        undone("an inn of a new object", HungryBench::new, x -> x.inn(0, 1));
        undone("hours of a new object", HungryBench::new, x -> x.hours(48));
    }

    static void p50_twelveAreRemembered() throws Exception {
        says("UNDONE: the latest ACT not undone yet (12 are remembered; HOURS of one call are one)");
        for (int n = 11; n <= 14; n++) {
            HungryBench x = new HungryBench();
            for (int i = 1; i <= n; i++) {
                due("inn", x.inn(0, i), i - 1);
            }
            int has = Math.min(n, 12);
            due("acts of " + n, x.count(10), has);
            for (int i = 1; i <= has; i++) {
                due("undo", x.undo(), true);
                due("inn", x.smell(0), n - i);
                due("acts left", x.count(10), has - i);
            }
            due("no more", x.undo(), false);
            due("it stays", x.smell(0), n - has);
        }
    }

    static void p50_notUndoneYet() throws Exception {
        says("UNDONE: the latest ACT not undone yet");
        HungryBench x = new HungryBench();
        due("none", x.undo(), false);
        for (int i = 1; i <= 12; i++) {
            x.inn(0, i);
        }
        x.undo();
        x.undo();
        due("ten are left", x.count(10), 10);
        due("an act more", x.inn(0, 50), 10);
        due("eleven", x.count(10), 11);
        x.inn(0, 60);
        x.inn(0, 70);
        due("twelve at most", x.count(10), 12);
        int[] due = {60, 50, 10, 9, 8, 7, 6, 5, 4, 3, 2, 1};
        for (int n : due) {
            due("undo", x.undo(), true);
            due("inn", x.smell(0), n);
        }
        due("the one ahead is not remembered", x.undo(), false);
    }

    static void p50_hoursOfOneCallAreOne() throws Exception {
        says("(12 are remembered; HOURS of one call are one)");
        HungryBench x = town("judge mercy 9 nerve 9;case a grave 1;list 0 5 0");
        x.hours(48);
        due("one act", x.count(10), 1);
        x.undo();
        due("hour", x.count(4), 0);
        due("day", x.count(5), 0);
        due("hunger", x.judge(0, 0), 0);
        due("it waits", x.cause(0, 4), 0);
        due("it stands", x.listed(0, 5), 0);
        due("no rows", x.count(9), 0);
        due("seed", x.seed(1), 1);
        x.hours(1);
        x.hours(1);
        due("two acts", x.count(10), 2);
    }

    static void p50_butForTheTapeFaultAndTheImage() throws Exception {
        says("all is as ahead of it (but for the TAPE, fault(), THE IMAGE).");
        HungryBench x = town("judge mercy 9 nerve 9");
        x.inn(0, 5);
        x.inn(0, 6);
        x.image();
        wrongAssize(x, "day x", 4);
        tape(x, "day 8");
        due("undo", x.undo(), true);
        due("fault stays", x.fault(), 4);
        due("the tape stays", x.end(5) && !x.end(6), true);
        due("the image stays", x.back(), true);
        due("inn of the image", x.smell(0), 6);
        due("text", x.assize(), 2);
        due("day", x.count(5), 8);
    }

    static void p50_aTextOrGoingBackForgets() throws Exception {
        says("A text, going back: none are remembered.");
        HungryBench x = standing();
        x.back();
        due("going back", x.count(10), 0);
        due("undo", x.undo(), false);
        HungryBench y = standing();
        y.assize();
        due("a text", y.undo(), false);
        HungryBench z = standing();
        tape(z, "");
        z.law();
        due("a law", z.undo(), false);
        HungryBench w = standing();
        wrongAssize(w, "case", 4);
        wrongLaw(w, "move", 4);
        due("wrong ones forget none", w.count(10), 4);
        due("undo", w.undo(), true);
        HungryBench none = new HungryBench();
        none.inn(0, 5);
        due("no image", none.back(), false);
        due("nothing is forgotten", none.count(10), 1);
        for (int n = 0; n < 12; n++) {
            tell(none, "");
        }
        none.inn(0, 7);
        tape(none, "");
        refused("a 13th", UNSUPPORTED, none::assize);
        due("a text that is refused forgets none", none.undo(), true);
        due("inn", none.smell(0), 5);
    }

    static void p50_refusedCallsAreNone() throws Exception {
        says("a call that throws changes nothing but the TAPE, where it is used up, and fault(), where a text is read");
        HungryBench x = standing();
        refused("hours", ARGUMENT, () -> x.hours(0));
        refused("list", STATE, () -> x.list(0, 0, 0));
        refused("strike", STATE, () -> x.strike(0, 11));
        refused("feeds", INDEX, () -> x.feeds(3));
        refused("fast", STATE, () -> x.fast(1, 0));
        refused("inn", ARGUMENT, () -> x.inn(0, 101));
        refused("appeal", STATE, () -> x.appeal(0));
        refused("grave", ARGUMENT, () -> x.grave(0, 100));
        due("no acts", x.count(10), 4);
        x.trial(5, true);
        x.span(5, true);
        x.ahead(0, 5);
        x.saved(true);
        x.seed(3);
        x.image();
        due("nor are those that look", x.count(10), 4);
    }

    // ---- 51 image, 52 back

    static void p51_ofAll() throws Exception {
        says("THE IMAGE (one) of all may be kept, and gone back to (but for the TAPE, fault() and THE IMAGE itself).");
        HungryBench x = standing();
        x.image();
        due("no act", x.count(10), 4);
        x.hours(30);
        x.inn(11, 11);
        x.grave(0, 1);
        x.seed(77);
        tell(x, "judge mercy 1 nerve 1;case a grave 1;list 3 3 5;hour 4;day 44");
        rule(x, "");
        due("back", x.back(), true);
        HungryBench y = standing();
        y.image();
        y.back();
        alike("back", around(x), around(y));
        due("texts of the image", x.count(2), 1);
        due("lines of the image", x.count(3), 3);
    }

    static void p51_oneAlone() throws Exception {
        says("THE IMAGE (one) of all may be kept");
        HungryBench x = new HungryBench();
        x.inn(0, 1);
        x.image();
        x.inn(0, 2);
        x.image();
        x.inn(0, 3);
        due("back", x.back(), true);
        due("to the latest", x.smell(0), 2);
        due("back again", x.back(), true);
        due("to the same", x.smell(0), 2);
        x.inn(0, 4);
        due("back once more", x.back(), true);
        due("to the same", x.smell(0), 2);
    }

    static void p51_ofANewObject() throws Exception {
        says("`void image()`: THE IMAGE is kept.");
        HungryBench x = new HungryBench();
        x.image();
        for (int n = 0; n < 12; n++) {
            tell(x, n == 0 ? "judge mercy 1 nerve 1;case a grave 1" : "");
        }
        rule(x, "move 1");
        due("back", x.back(), true);
        due("judges", x.count(0), 0);
        due("cases", x.count(1), 0);
        due("texts", x.count(2), 0);
        due("no law", x.count(3), -1);
        for (int n = 1; n <= 12; n++) {
            due("a text may be told again", tell(x, ""), n);
        }
    }

    static void p52_falseIfNoneWasKept() throws Exception {
        says("One goes back to THE IMAGE: true; false, and nothing happens, if none was kept.");
        Recipe none = () -> {
            HungryBench x = under("move 1", "judge mercy 5 nerve 1;case a grave 1;list 0 0 0;day 4");
            wrongAssize(x, "day x", 4);
            x.hours(3);
            x.feeds(0);
            tape(x, "day 9");
            return x;
        };
        HungryBench x = none.make();
        due("back", x.back(), false);
        due("back", x.back(), false);
        alike("behind back", look(x), look(none.make()));
        due("of a new object", new HungryBench().back(), false);
    }

    static void p52_butForTheTapeAndFault() throws Exception {
        says("and gone back to (but for the TAPE, fault() and THE IMAGE itself).");
        HungryBench x = new HungryBench();
        tape(x, "day 1");
        x.image();
        x.end(0);
        wrongAssize(x, "   day", 6);
        tape(x, "hour 5 ");
        due("back", x.back(), true);
        due("fault stays", x.fault(), 6);
        due("the tape stays", x.end(7) && !x.end(8), true);
        due("text", x.assize(), 1);
        due("hour", x.count(4), 5);
        due("day", x.count(5), 0);
        due("back once more", x.back(), true);
        due("hour", x.count(4), 0);
        due("fault of the right text", x.fault(), -1);
    }

    static void p52_theSeedAndTheLogToo() throws Exception {
        says("THE IMAGE (one) of all may be kept");
        HungryBench x = standing();
        int seed = x.seed(5);
        x.seed(seed);
        x.image();
        x.hours(48);
        x.list(0, 0, 1);
        x.hours(12);
        x.back();
        due("seed", x.seed(0), seed);
        due("rows", x.count(9), 4);
        due("the latest", x.log(0, 2), 3);
        due("acts", x.count(10), 0);
        x.image();
        x.seed(9);
        x.back();
        due("seed told and gone back", x.seed(0), 0);
    }

    // ---- 53 count

    static void p53_noneForAnotherWhat() throws Exception {
        says("9 rows of THE LOG, 10 acts that can be UNDONE. NONE for another what.");
        for (int what : new int[] {-1, -2, 11, 12, 100, LEAST, MOST}) {
            due("count " + what, standing().count(what), -1);
        }
        int[] due = {3, 5, 1, 3, 2, 2, 18, 1 + 4 + 8 + 16, 7 + 62, 4, 4};
        for (int what = 0; what <= 10; what++) {
            due("count " + what, standing().count(what), due[what]);
        }
    }

    static void p53_leastAndMost() throws Exception {
        says("0 JUDGES, 1 CASES, 2 texts of THE ASSIZE, 3 LINES of THE LAW (NONE without one), 4 HOUR, 5 DAY, 6 CASES that "
                + "wait, as bits, 7 CASES in THE LIST, as bits, 8 HUNGER of all together");
        HungryBench x = new HungryBench();
        int[] none = {0, 0, 0, -1, 0, 0, 0, 0, 0, 0, 0};
        for (int what = 0; what <= 10; what++) {
            due("count " + what + " at first", x.count(what), none[what]);
        }
        tell(x, times("judge mercy 0 nerve 0 hunger 99", 5));
        tell(x, times("case a grave 99", 8));
        tell(x, "list 0 0 0;list 4 11 7;list 1 1 1;list 1 2 2;list 1 3 3;list 1 4 4;list 1 5 5;list 1 6 6;hour 11;day 999");
        for (int n = 4; n <= 12; n++) {
            tell(x, "");
        }
        rule(x, times("crumb 0", 12));
        int[] most = {5, 8, 12, 12, 11, 999, 255, 255, 495, 0, 0};
        for (int what = 0; what <= 10; what++) {
            due("count " + what + " at most", x.count(what), most[what]);
        }
        rule(x, "");
        due("lines of an empty law", x.count(3), 0);
        x.hours(1);
        due("all but one wait", x.count(6), 127);
        due("all but one stand", x.count(7), 127);
        due("one row", x.count(9), 1);
        due("one act", x.count(10), 1);
    }
}
