/** The boundary cases of PICKS and of what stands ahead of it: a test for each sentence that names one. */
public final class BoundaryPickTest {
    private static final String HEAD = "feeder 300 100;";
    private static final String GOOD = "sheet 300 100 0 9 9;";
    private static final String THICK = "sheet 300 151 0 9 9;";
    private static final String LONG = "sheet 321 100 0 9 9;";
    private static final String SKEWED = "sheet 300 100 31 9 9;";
    private static final String PAIR = "sheet 300 60 0 9 9 stuck 0;sheet 300 60 0 9 9;";

    public static void main(String[] args) {
        Check.about("Sheets in are sheets out, dropped ones, code sheets, hidden ones and removed ones together",
                BoundaryPickTest::sheetsInAreSheetsOut);
        Check.about("as long as the sheet that was taken last is stuck", BoundaryPickTest::asLongAsStuck);
        Check.about("and there is one more in the stack", BoundaryPickTest::oneMoreInTheStack);
        Check.about("The thickness of a pick is the sum of the thicks of its sheets", BoundaryPickTest::sumOfThicks);
        Check.about("Its first sheet starts at 0, each other one at the start of the one before plus the offset of the one before",
                BoundaryPickTest::starts);
        Check.about("the greatest sum of the start and the length of one of its sheets", BoundaryPickTest::greatestSum);
        Check.about("the mean of the thicknesses of the latest 6 good picks", BoundaryPickTest::latestSix);
        Check.about("of all, if there are fewer", BoundaryPickTest::fewerThanSix);
        Check.about("thick of the feeder, if there are none", BoundaryPickTest::noGoodPicks);
        Check.about("A pick is good if it has one sheet", BoundaryPickTest::goodIfSingle);
        Check.about("and goes through without a stop", BoundaryPickTest::goodWithoutStop);
        Check.about("The feeder stops for the first of these reasons that applies to a pick", BoundaryPickTest::firstReason);
        Check.about("1 its thickness * 100 is more than percent * the usual thickness", BoundaryPickTest::tooThick);
        Check.about("2 its length is more than length of the feeder + tolerance", BoundaryPickTest::tooLong);
        Check.about("or less than length - tolerance", BoundaryPickTest::tooShort);
        Check.about("3 the amount of the skew of its first sheet is more than edge", BoundaryPickTest::tooSkewed);
        Check.about("After a stop the sheets of the pick are in the path", BoundaryPickTest::inThePath);
        Check.about("nothing can be picked until the path is cleared", BoundaryPickTest::untilCleared);
        Check.about("By a stop for the reason 3 the front of the first sheet [..] is a half", BoundaryPickTest::firstIsHalf);
        Check.about("if that is no code sheet", BoundaryPickTest::codeIsNoHalf);
        Check.about("in place of a half of the same sheet that may be held", BoundaryPickTest::halfInPlaceOfHalf);
        Check.about("its first sheet is scanned, all others are hidden", BoundaryPickTest::othersAreHidden);
        Check.about("A code sheet ends the job and begins the next one, with its number as the code", BoundaryPickTest::codeSheets);
        Check.about("Of other sheets the front is scanned, then, unless the mode is simplex, the back", BoundaryPickTest::scannedSides);
        Check.about("A side is blank if its ink is less than blank", BoundaryPickTest::blankSides);
        Check.about("is a page of the present job, as the last one", BoundaryPickTest::lastPage);
        Check.about("If no page comes of the sheet, it is dropped, otherwise it is out", BoundaryPickTest::droppedOrOut);
        Check.about("A half of the sheet that is held is thrown away then, as it is replaced", BoundaryPickTest::halfIsReplaced);
        Check.about("At first there is the job 0 without a code", BoundaryPickTest::job0);
        Check.finish();
    }

    /** The stop that a first pick of these sheets makes. */
    private static void stops(String sheets, int reason) {
        PageFeeder x = Check.feeder(HEAD + sheets);
        Check.same("the reason foreseen for " + sheets, x.next(3), reason);
        Check.same("picks of " + sheets + " that go through", x.feed(1), reason == 0 ? 1 : 0);
        Check.same("the reason for " + sheets, x.size(3), reason);
        Check.answers("stops by " + sheets, k -> x.account(k + 1), reason == 1 ? 1 : 0, reason == 2 ? 1 : 0, reason == 3 ? 1 : 0);
    }

    private static void next(String what, String sheets, int... want) {
        Check.answers(what + ": next", Check.feeder(HEAD + sheets)::next, want);
    }

    private static void sheetsInAreSheetsOut() {
        PageFeeder x = Check.feeder(HEAD + "sheet 300 100 0 9 9;sheet 300 100 0 0 0;code 1 300 100 0;" + PAIR + THICK + SKEWED
                + "sheet 300 90 0 9 9 stuck 1;sheet 300 90 0 0 0;again 2;" + GOOD);
        for (int k = 0; k < 20; k++) {
            int sum = 0;
            for (int where = 0; where < 7; where++) {
                sum += x.sheetsAt(where);
            }
            Check.same("sheets everywhere", sum, x.size(0));
            Check.same("sheets in the stack", x.sheetsAt(0), x.size(1));
            Check.same("sheets in the path", x.sheetsAt(1), x.size(2));
            if (x.size(3) == 1 && k < 8) {
                x.accept();
            } else if (x.size(3) > 0) {
                x.remove();
            } else {
                x.feed(1);
            }
        }
        Check.answers("sheetsAt behind all", x::sheetsAt, 0, 0, 4, 3, 1, 1, 3);
    }

    private static void asLongAsStuck() {
        next("not stuck", GOOD + PAIR, 1, 100, 300, 0, 2);
        next("a pair", PAIR + GOOD, 2, 120, 300, 0, 2);
        next("stuck at 0 is stuck", "sheet 300 60 0 9 9 stuck 0;again 1;" + GOOD, 3, 220, 300, 1, 2);
        next("the second one is not stuck, the third is", "sheet 300 60 0 9 9 stuck 0;" + "sheet 300 60 0 9 9;" + PAIR, 2, 120);
        next("code sheets stick, too", "code 1 300 60 0 stuck 1;code 2 300 60 0;" + GOOD, 2, 120, 301, 0, 0);
        next("all of 40", "sheet 300 30 0 9 9 stuck 0;again 39;", 40, 1200, 300, 1, 2);
        PageFeeder x = Check.feeder(HEAD + "sheet 300 30 0 9 9 stuck 0;again 39;");
        x.feed(1);
        Check.same("40 in the path", x.size(2), 40);
    }

    private static void oneMoreInTheStack() {
        next("the last one is stuck to nothing", "sheet 300 100 0 9 9 stuck 400;", 1, 100, 300, 0, 2);
        PageFeeder x = Check.feeder(HEAD + GOOD + "sheet 300 100 0 9 9 stuck 400;");
        Check.same("both go through", x.feed(40), 2);
        Check.same("both are good, one sheet each", x.account(4), 2);
        Check.same("none is hidden", x.sheetsAt(5), 0);
    }

    private static void sumOfThicks() {
        next("500 and 500", "sheet 300 500 0 9 9 stuck 0;sheet 300 500 0 9 9;", 2, 1000);
        next("40 times 500", "sheet 300 500 0 9 9 stuck 0;again 39;", 40, 20000);
        next("30, 40 and 50", "sheet 300 30 0 9 9 stuck 0;sheet 300 40 0 9 9 stuck 0;sheet 300 50 0 9 9;", 3, 120);
    }

    private static void starts() {
        next("0, 3 and 7", "sheet 300 30 0 9 9 stuck 3;sheet 300 30 0 9 9 stuck 4;sheet 300 30 0 9 9 stuck 400;", 3, 90, 307);
        next("the greatest starts", "sheet 500 30 0 9 9 stuck 400;again 39;", 40, 1200, 39 * 400 + 500);
    }

    private static void greatestSum() {
        next("of the first one", "sheet 310 50 0 9 9 stuck 5;sheet 304 50 0 9 9;", 2, 100, 310);
        next("of the last one", "sheet 310 50 0 9 9 stuck 5;sheet 306 50 0 9 9;", 2, 100, 311);
        next("of the first and the last one", "sheet 310 50 0 9 9 stuck 5;sheet 305 50 0 9 9;", 2, 100, 310);
        next("of the one in the midst", "sheet 50 40 0 9 9 stuck 10;sheet 400 40 0 9 9 stuck 10;sheet 389 40 0 9 9;", 3, 120, 410);
    }

    private static PageFeeder sevenSingles() {
        return Check.feeder("feeder 300 100;limits 300 20 30 5;sheet 300 60 0 9 9;sheet 300 70 0 9 9;sheet 300 80 0 9 9;sheet 300 90 0 9 9;"
                + "sheet 300 100 0 9 9;sheet 300 110 0 9 9;sheet 300 123 0 9 9;sheet 300 30 0 9 9;again 7;");
    }

    private static void latestSix() {
        PageFeeder x = sevenSingles();
        Check.same("six go through", x.feed(6), 6);
        Check.same("the mean of six", x.size(9), 85);
        x.feed(1);
        // 70 to 123 without the 60: 573 / 6.
        Check.same("the mean of the latest six of seven", x.size(9), 95);
        x.undo();
        Check.same("the first six again", x.size(9), 85);
        x.feed(1);
        // 533, 483, 423, 353, 273 and 180 by 6.
        int[] usual = {88, 80, 70, 58, 45, 30, 30, 30};
        for (int want : usual) {
            x.feed(1);
            Check.same("the mean with 30 more often", x.size(9), want);
        }
        Check.same("all are good", x.account(4), 15);
    }

    private static void fewerThanSix() {
        PageFeeder x = sevenSingles();
        int[] usual = {60, 65, 70, 75, 80};
        for (int want : usual) {
            x.feed(1);
            Check.same("the mean of all", x.size(9), want);
        }
    }

    private static void noGoodPicks() {
        PageFeeder x = Check.feeder("feeder 300 77;" + "sheet 300 200 0 9 9;again 1;sheet 300 40 0 9 9 stuck 0;sheet 300 40 0 9 9;");
        Check.same("at first", x.size(9), 77);
        x.feed(1);
        Check.same("behind a stop", x.size(9), 77);
        x.accept();
        Check.same("behind accept", x.size(9), 77);
        x.feed(1);
        x.remove();
        Check.same("behind remove", x.size(9), 77);
        Check.same("the pair goes through", x.feed(1), 1);
        Check.same("behind a pair", x.size(9), 77);
    }

    private static void goodIfSingle() {
        PageFeeder x = Check.feeder(HEAD + PAIR + "sheet 300 120 0 9 9;sheet 300 110 0 0 0;code 1 300 100 0;");
        x.feed(1);
        Check.same("good picks behind a pair", x.account(4), 0);
        Check.same("usual behind a pair", x.size(9), 100);
        x.feed(1);
        Check.same("good picks behind a single", x.account(4), 1);
        Check.same("usual behind a single", x.size(9), 120);
        x.feed(1);
        Check.same("good picks behind one that is dropped", x.account(4), 2);
        Check.same("usual behind one that is dropped", x.size(9), 115);
        x.feed(1);
        Check.same("good picks behind a code sheet", x.account(4), 3);
        Check.same("usual behind a code sheet", x.size(9), 110);
    }

    private static void goodWithoutStop() {
        PageFeeder x = Check.feeder(HEAD + THICK + LONG + "sheet 300 120 31 9 9;");
        x.feed(1);
        x.accept();
        x.feed(1);
        x.accept();
        x.feed(1);
        Check.same("good picks behind three stops", x.account(4), 0);
        Check.same("usual behind three stops", x.size(9), 100);
        x.putBack();
        x.feed(1);
        Check.same("put back, and picked anew without a stop", x.account(4), 1);
        Check.same("usual then", x.size(9), 120);
    }

    private static void firstReason() {
        stops("sheet 321 151 31 9 9;", 1);
        stops("sheet 300 151 31 9 9;", 1);
        stops("sheet 321 151 0 9 9;", 1);
        stops("sheet 321 150 31 9 9;", 2);
        stops("sheet 279 150 31 9 9;", 2);
        stops("sheet 320 150 31 9 9;", 3);
        stops("sheet 320 150 30 9 9;", 0);
    }

    private static void tooThick() {
        stops("sheet 300 150 0 9 9;", 0);
        stops("sheet 300 151 0 9 9;", 1);
        stops("limits 101 20 30 5;sheet 300 101 0 9 9;", 0);
        stops("limits 101 20 30 5;sheet 300 102 0 9 9;", 1);
        stops("limits 300 20 30 5;sheet 300 300 0 9 9;", 0);
        stops("limits 300 20 30 5;sheet 300 301 0 9 9;", 1);
        stops("sheet 300 75 0 9 9 stuck 0;again 1;", 0);
        stops("sheet 300 75 0 9 9 stuck 0;sheet 300 76 0 9 9;", 1);
        stops("sheet 300 30 0 9 9;", 0);
        // 150 percent of 33 are 49.5: nothing is cut off there.
        for (int thick = 49; thick <= 50; thick++) {
            PageFeeder x = Check.feeder("feeder 300 33;sheet 300 " + thick + " 0 9 9;");
            Check.same("the reason for " + thick, x.next(3), thick - 49);
            Check.same("feed of " + thick, x.feed(1), 50 - thick);
        }
        // The usual thickness itself is cut off: (100 + 101) / 2, so 151 is too thick.
        PageFeeder y = Check.feeder(HEAD + "sheet 300 100 0 9 9;sheet 300 101 0 9 9;sheet 300 151 0 9 9;");
        Check.same("the third one stops", y.feed(40), 2);
        Check.same("the usual thickness is that ahead of the pick", y.size(9), 100);
    }

    private static void tooLong() {
        stops("sheet 320 100 0 9 9;", 0);
        stops("sheet 321 100 0 9 9;", 2);
        stops("limits 150 0 30 5;sheet 300 100 0 9 9;", 0);
        stops("limits 150 0 30 5;sheet 301 100 0 9 9;", 2);
        stops("limits 150 200 30 5;sheet 500 100 0 9 9;", 0);
        stops("sheet 300 50 0 9 9 stuck 20;sheet 300 50 0 9 9;", 0);
        stops("sheet 300 50 0 9 9 stuck 21;sheet 300 50 0 9 9;", 2);
        stops("limits 150 200 30 5;sheet 300 50 0 9 9 stuck 201;sheet 300 50 0 9 9;", 2);
    }

    private static void tooShort() {
        stops("sheet 280 100 0 9 9;", 0);
        stops("sheet 279 100 0 9 9;", 2);
        stops("limits 150 0 30 5;sheet 299 100 0 9 9;", 2);
        stops("limits 150 200 30 5;sheet 100 100 0 9 9;", 0);
        stops("limits 150 200 30 5;sheet 99 100 0 9 9;", 2);
        // Length less tolerance below 0: nothing is too short.
        PageFeeder x = Check.feeder("feeder 50 100;limits 150 200 30 5;sheet 50 100 0 9 9;sheet 250 100 0 9 9;sheet 251 100 0 9 9;");
        Check.same("50 and 250 go through", x.feed(40), 2);
        Check.same("251 does not", x.size(3), 2);
    }

    private static void tooSkewed() {
        stops("sheet 300 100 30 9 9;", 0);
        stops("sheet 300 100 31 9 9;", 3);
        stops("sheet 300 100 -30 9 9;", 0);
        stops("sheet 300 100 -31 9 9;", 3);
        stops("limits 150 20 0 5;sheet 300 100 0 9 9;", 0);
        stops("limits 150 20 0 5;sheet 300 100 -1 9 9;", 3);
        stops("limits 150 20 99 5;sheet 300 100 99 9 9;", 0);
        stops("limits 150 20 99 5;sheet 300 100 -99 9 9;", 0);
        stops("limits 150 20 98 5;sheet 300 100 -99 9 9;", 3);
        stops("code 1 300 100 -31;", 3);
        // Only that of the first sheet.
        stops("sheet 300 50 30 9 9 stuck 0;sheet 300 50 99 9 9;", 0);
        stops("sheet 300 50 31 9 9 stuck 0;sheet 300 50 0 9 9;", 3);
    }

    private static void inThePath() {
        String[] stopping = {THICK, LONG, SKEWED, "sheet 300 80 0 9 9 stuck 3;again 1;sheet 300 80 0 9 9;"};
        int[] sheets = {1, 1, 1, 3};
        for (int k = 0; k < stopping.length; k++) {
            PageFeeder x = Check.feeder(HEAD + GOOD + stopping[k] + GOOD);
            Check.same("the first one goes through", x.feed(40), 1);
            Check.same("sheets in the path", x.size(2), sheets[k]);
            Check.same("sheets in the stack", x.size(1), 1);
            for (int p = 0; p < sheets[k]; p++) {
                Check.same("path(" + p + ")", x.path(p), 1 + p);
                Check.same("where it is", x.sheet(1 + p, 7), 1);
            }
            Check.same("path behind the last", x.path(sheets[k]), -1);
            Check.same("stack(0)", x.stack(0), 1 + sheets[k]);
            Check.same("where that is", x.sheet(1 + sheets[k], 7), 0);
            Check.same("pages", x.size(4), 2);
        }
    }

    private static void untilCleared() {
        for (int clearing = 0; clearing < 3; clearing++) {
            PageFeeder x = Check.feeder(HEAD + LONG + GOOD);
            x.feed(1);
            Check.refusesState("feed", x, () -> x.feed(1));
            x.setLimit(1, 200);
            x.endJob(4);
            x.setDuplex(false);
            Check.refusesState("feed with limits that would do", x, () -> x.feed(40));
            switch (clearing) {
                case 0 -> x.putBack();
                case 1 -> x.remove();
                default -> x.accept();
            }
            Check.same("feed of the rest", x.feed(40), clearing == 0 ? 2 : 1);
        }
    }

    private static void firstIsHalf() {
        PageFeeder x = Check.feeder(HEAD + "sheet 300 50 31 9 9 stuck 0;sheet 300 50 31 9 9;" + THICK + LONG);
        x.feed(1);
        Check.same("the first one", x.isHalf(0), true);
        Check.same("not the second one", x.isHalf(1), false);
        Check.same("halves", x.size(10), 1);
        Check.same("no page", x.size(4), 0);
        x.remove();
        x.feed(1);
        Check.same("not by the reason 1", x.isHalf(2), false);
        x.remove();
        x.feed(1);
        Check.same("not by the reason 2", x.isHalf(3), false);
        Check.same("halves", x.size(10), 0);
        // Also if its front is blank, and in simplex.
        PageFeeder y = Check.feeder(HEAD + "simplex;sheet 300 100 31 0 0;");
        y.feed(1);
        Check.same("a blank front", y.isHalf(0), true);
    }

    private static void codeIsNoHalf() {
        PageFeeder x = Check.feeder(HEAD + "code 0 300 50 31 stuck 0;sheet 300 50 31 9 9;");
        x.feed(1);
        Check.same("the reason", x.size(3), 3);
        Check.same("a code sheet", x.isHalf(0), false);
        Check.same("the sheet below it", x.isHalf(1), false);
        x.remove();
        Check.same("halves thrown away", x.account(6), 0);
    }

    private static void halfInPlaceOfHalf() {
        PageFeeder x = Check.feeder(HEAD + "sheet 300 100 -99 9 9;");
        // The skew is 99, 49 and 24.
        x.feed(1);
        x.putBack();
        x.feed(1);
        Check.same("one half", x.size(10), 1);
        Check.same("held in the path", x.isHalf(0), true);
        Check.same("none is replaced", x.account(5), 0);
        Check.same("none is thrown away by removing", x.account(6), 0);
        x.putBack();
        Check.same("held in the stack", x.isHalf(0), true);
        x.feed(1);
        Check.same("one is replaced", x.account(5), 1);
    }

    private static void othersAreHidden() {
        PageFeeder x = Check.feeder(HEAD + "sheet 300 40 0 0 9 stuck 0;sheet 300 40 0 9 9 stuck 0;code 5 300 40 0;" + GOOD);
        Check.same("both picks", x.feed(2), 2);
        Check.answers("where", s -> x.sheet(s, 7), 2, 5, 5, 2);
        Check.same("pages", x.size(4), 3);
        Check.same("a hidden code sheet begins no job", x.size(5), 1);
        Check.same("the job of the last page", x.page(2, 2), 0);
        // Below a code sheet, too, and below one that is dropped.
        PageFeeder y = Check.feeder(HEAD + "code 5 300 60 0 stuck 0;sheet 300 60 0 9 9;sheet 300 60 0 0 0 stuck 0;sheet 300 60 0 9 9;");
        y.feed(2);
        Check.answers("where", s -> y.sheet(s, 7), 4, 5, 3, 5);
        Check.same("pages", y.size(4), 0);
        Check.same("jobs", y.size(5), 2);
    }

    private static void codeSheets() {
        PageFeeder x = Check.feeder(HEAD + "code 0 300 100 0;code 999 300 100 0;code 999 300 100 0;" + GOOD);
        Check.same("all go through", x.feed(40), 4);
        Check.answers("code of job", job -> x.job(job, 0), -1, 0, 999, 999);
        Check.same("jobs", x.size(5), 4);
        Check.same("the job of the pages", x.page(0, 2), 3);
        Check.answers("pages of job", job -> x.job(job, 1), 0, 0, 0, 2);
        // An accepted one, too; one that is put back or removed does not.
        PageFeeder y = Check.feeder(HEAD + "code 1 321 100 0;code 2 321 100 0;");
        y.feed(1);
        Check.same("not by the stop", y.size(5), 1);
        y.putBack();
        Check.same("not put back", y.size(5), 1);
        y.feed(1);
        y.remove();
        Check.same("not removed", y.size(5), 1);
        y.feed(1);
        y.accept();
        Check.same("accepted", y.size(5), 2);
        Check.same("its code", y.job(1, 0), 2);
    }

    private static void scannedSides() {
        PageFeeder x = Check.feeder(HEAD + "sheet 300 100 0 9 8;again 1;");
        x.feed(1);
        Check.answers("side of page", p -> x.page(p, 1), 0, 1);
        x.setDuplex(false);
        x.feed(1);
        Check.same("pages", x.size(4), 3);
        Check.same("the front", x.page(2, 1), 0);
    }

    private static void blankSides() {
        PageFeeder x = Check.feeder(HEAD + "sheet 300 100 0 4 5;sheet 300 100 0 5 4;sheet 300 100 0 6 6;");
        x.feed(40);
        Check.answers("sheet of page", p -> x.page(p, 0), 0, 1, 2, 2);
        Check.answers("side of page", p -> x.page(p, 1), 1, 0, 0, 1);
        PageFeeder y = Check.feeder(HEAD + "limits 150 20 30 0;sheet 300 100 0 0 0;sheet 300 100 0 999 1000;");
        y.feed(1);
        Check.same("with 0 nothing is blank", y.size(4), 2);
        y.setLimit(3, 1000);
        y.feed(1);
        Check.same("with 1000 only 1000 is not", y.size(4), 3);
        Check.same("the back", y.page(2, 1), 1);
    }

    private static void lastPage() {
        PageFeeder x = Check.feeder(HEAD + GOOD + "code 1 300 100 0;" + LONG + GOOD);
        x.feed(2);
        x.feed(1);
        x.endJob(7);
        x.accept();
        x.feed(1);
        Check.answers("sheet of page", p -> x.page(p, 0), 0, 0, 2, 2, 3, 3);
        // The present job is that at the time of going through, not of the stop.
        Check.answers("job of page", p -> x.page(p, 2), 0, 0, 2, 2, 2, 2);
        PageFeeder full = Check.feeder(HEAD + GOOD + "again 39;");
        full.feed(40);
        Check.same("80 pages", full.size(4), 80);
        Check.same("the last one's sheet", full.page(79, 0), 39);
    }

    private static void droppedOrOut() {
        PageFeeder x = Check.feeder(HEAD + "sheet 300 100 0 0 0;sheet 300 100 0 0 9;sheet 300 100 0 9 0;sheet 300 100 0 9 9;sheet 300 100 0 0 9;");
        x.feed(4);
        x.setDuplex(false);
        x.feed(1);
        Check.answers("where", s -> x.sheet(s, 7), 3, 2, 2, 2, 3);
        Check.same("sheets of the job", x.job(0, 3), 3);
    }

    private static void halfIsReplaced() {
        // Through by its lesser skew, by another limit, by accept for another reason, and dropped.
        for (int way = 0; way < 4; way++) {
            PageFeeder x = Check.feeder(HEAD + (way == 3 ? "sheet 300 100 40 0 0;" : "sheet 310 100 40 9 9;"));
            x.feed(1);
            if (way == 1) {
                x.setLimit(2, 99);
            }
            x.putBack();
            if (way == 2) {
                x.setLimit(1, 0);
                x.feed(1);
                Check.same("stopped for its length", x.size(3), 2);
                Check.same("the half is held still", x.isHalf(0), true);
                x.accept();
            } else {
                x.feed(1);
            }
            Check.same("where it is", x.sheet(0, 7), way == 3 ? 3 : 2);
            Check.same("the half", x.isHalf(0), false);
            Check.same("halves", x.size(10), 0);
            Check.same("halves replaced", x.account(5), 1);
            Check.same("halves removed", x.account(6), 0);
            Check.same("its pages", x.size(4), way == 3 ? 0 : 2);
        }
    }

    private static void job0() {
        PageFeeder x = Check.feeder(HEAD + "code 7 300 100 0;" + GOOD);
        Check.same("jobs", x.size(5), 1);
        Check.answers("job 0", what -> x.job(0, what), -1, 0, -1, 0);
        Check.throwsIndex("job 1", () -> x.job(1, 0));
        x.feed(2);
        Check.answers("job 0", what -> x.job(0, what), -1, 0, -1, 0);
        Check.answers("job 1", what -> x.job(1, what), 7, 2, 0, 1);
    }
}
