/** The boundary cases of the promises 4 to 18: a test for each sentence that names one. */
public final class BoundaryQuestionTest {
    private static final String HEAD = "feeder 300 100;";
    private static final String GOOD = "sheet 300 100 0 9 9;";
    private static final String THICK = "sheet 300 151 0 9 9;";
    private static final String LONG = "sheet 321 100 0 9 9;";
    private static final String SKEWED = "sheet 300 100 31 9 9;";
    private static final String PAIR = "sheet 300 60 0 9 9 stuck 0;sheet 300 60 0 9 9;";
    private static final String FULL = HEAD + GOOD + "again 39;";

    public static void main(String[] args) {
        Check.about("Promise 4: 0 sheets, 1 sheets in the stack, 2 sheets in the path", BoundaryQuestionTest::sizesOfSheets);
        Check.about("Promise 4: 3 the reason of the stop (0 without one)", BoundaryQuestionTest::sizeReason);
        Check.about("Promise 4: 4 pages, 5 jobs", BoundaryQuestionTest::sizesOfPages);
        Check.about("Promise 4: 6 1 in the mode duplex, 0 in simplex", BoundaryQuestionTest::sizeMode);
        Check.about("Promise 4: 7 length of the feeder, 8 thick of the feeder", BoundaryQuestionTest::sizesOfFeeder);
        Check.about("Promise 4: 9 the usual thickness", BoundaryQuestionTest::sizeUsual);
        Check.about("Promise 4: 10 halves that are held", BoundaryQuestionTest::sizeHalves);
        Check.about("Promise 4: 11 changes that can be undone", BoundaryQuestionTest::sizeChanges);
        Check.about("Promise 4: what is out of range", () -> onAll("size", 0, 11, PageFeeder::size));
        Check.about("Promise 5: Returns the limit", BoundaryQuestionTest::limits);
        Check.about("Promise 5: what is out of range", () -> onAll("limit", 0, 3, PageFeeder::limit));
        Check.about("Promise 6: 2 its skew now", BoundaryQuestionTest::skewNow);
        Check.about("Promise 6: 3 the ink of its front, 4 that of its back (0 of a code sheet)", BoundaryQuestionTest::sheetInks);
        Check.about("Promise 6: 5 its code (NONE of other sheets)", BoundaryQuestionTest::sheetCode);
        Check.about("Promise 6: 6 its offset (NONE if it is not stuck now)", BoundaryQuestionTest::offsetNow);
        Check.about("Promise 6: 7 where it is", BoundaryQuestionTest::whereItIs);
        Check.about("Promise 6: if there is no such sheet (checked first)", BoundaryQuestionTest::noSuchSheet);
        Check.about("Promise 6: what is out of range", () -> onAll("sheet 0", 0, 7, (x, what) -> x.sheet(0, what)));
        Check.about("Promise 7: 0 for the top", BoundaryQuestionTest::topOfStack);
        Check.about("Promise 7: NONE if there are not so many, or k is negative", BoundaryQuestionTest::stackEnds);
        Check.about("Promise 8: 0 for the first one", BoundaryQuestionTest::firstOfPath);
        Check.about("Promise 8: NONE if there are not so many, or k is negative", BoundaryQuestionTest::pathEnds);
        Check.about("Promise 9: 1 0 for the front, 1 for the back", BoundaryQuestionTest::pageSides);
        Check.about("Promise 9: if there is no such page (checked first)", BoundaryQuestionTest::noSuchPage);
        Check.about("Promise 9: what is out of range", () -> pageOrJobWhat(2, (x, what) -> x.page(0, what)));
        Check.about("Promise 10: 0 its code (NONE of the job 0)", BoundaryQuestionTest::jobCodes);
        Check.about("Promise 10: 1 its pages, 2 its first page (NONE without pages)", BoundaryQuestionTest::jobPages);
        Check.about("Promise 10: 3 its sheets that are out", BoundaryQuestionTest::jobSheets);
        Check.about("Promise 10: if there is no such job (checked first)", BoundaryQuestionTest::noSuchJob);
        Check.about("Promise 10: what is out of range", () -> pageOrJobWhat(3, (x, what) -> x.job(0, what)));
        Check.about("Promise 11: whether a half of it is held", BoundaryQuestionTest::halves);
        Check.about("Promise 11: if there is no such sheet", BoundaryQuestionTest::noSuchHalf);
        Check.about("Promise 12: 3 the reason for which it would be stopped (0 if it would go through)", BoundaryQuestionTest::nextReason);
        Check.about("Promise 12: 4 the pages that would come of it if it went through", BoundaryQuestionTest::nextPages);
        Check.about("Promise 12: also while the feeder is stopped", BoundaryQuestionTest::nextWhileStopped);
        Check.about("Promise 12: NONE if the stack is empty", BoundaryQuestionTest::nextOfNothing);
        Check.about("Promise 12: what is out of range", () -> onAll("next", 0, 4, PageFeeder::next));
        Check.about("Promise 13: if all sheets in the stack were fed from now on", BoundaryQuestionTest::aheadFromNow);
        Check.about("Promise 13: with another percent", BoundaryQuestionTest::aheadPercent);
        Check.about("Promise 13: if the path was cleared by removing at each stop", BoundaryQuestionTest::aheadRemoves);
        Check.about("Promise 13: (also now, if the feeder is stopped)", BoundaryQuestionTest::aheadWhileStopped);
        Check.about("Promise 13: 0 stops for the reason 1, 1 those of them with a pick of one sheet", BoundaryQuestionTest::aheadStops);
        Check.about("Promise 13: 2 picks of more than one sheet that go through", BoundaryQuestionTest::aheadThrough);
        Check.about("Promise 13: 3 pages that would be added", BoundaryQuestionTest::aheadPages);
        Check.about("Promise 13: 4 sheets that would be removed (those in the path now not counted)", BoundaryQuestionTest::aheadRemoved);
        Check.about("Promise 13: if percent or what is out of range", BoundaryQuestionTest::aheadRanges);
        Check.about("Promise 14: the numbers 1 and 2 of ahead are least together", BoundaryQuestionTest::bestIsLeast);
        Check.about("Promise 14: of several the lowest", BoundaryQuestionTest::bestIsLowest);
        Check.about("Promise 15: as many sides [..] are told, or more", BoundaryQuestionTest::blankForOrMore);
        Check.about("Promise 15: (code sheets not counted; backs also in the mode simplex)", BoundaryQuestionTest::blankForCounted);
        Check.about("Promise 15: of all sheets", BoundaryQuestionTest::blankForAll);
        Check.about("Promise 15: the lowest blank, 0 to 1000", BoundaryQuestionTest::blankForLowest);
        Check.about("Promise 15: NONE if there is none", BoundaryQuestionTest::blankForNone);
        Check.about("Promise 15: if sides is out of range", () -> onAll("blankFor", 0, 80, PageFeeder::blankFor));
        Check.about("Promise 16: 0 picks, 1 to 3 stops for this reason, 4 good picks", BoundaryQuestionTest::accountPicks);
        Check.about("Promise 16: 5 halves [..] (not those in whose place another half is held)", BoundaryQuestionTest::accountReplaced);
        Check.about("Promise 16: 6 halves that were thrown away by removing", BoundaryQuestionTest::accountRemoved);
        Check.about("Promise 16: 7 sheets that were put back, 8 picks that were accepted", BoundaryQuestionTest::accountCleared);
        Check.about("Promise 16: the number since parse", BoundaryQuestionTest::accountSinceParse);
        Check.about("Promise 16: what is out of range", () -> onAll("account", 0, 8, PageFeeder::account));
        Check.about("Promise 17: 0 to 6, as for sheet", BoundaryQuestionTest::sheetsEverywhere);
        Check.about("Promise 17: where is out of range", () -> onAll("sheetsAt", 0, 6, PageFeeder::sheetsAt));
        Check.about("Promise 18: converted to double, divided by the number of pages", BoundaryQuestionTest::meanDivided);
        Check.about("Promise 18: 0.0 without pages", BoundaryQuestionTest::meanOfNothing);
        Check.finish();
    }

    /** A question about a feeder that takes one number. */
    private interface About {
        int ask(PageFeeder x, int number);
    }

    /** Refuses what is out of range when nothing was fed, while stopped, behind all, and with 40 sheets. */
    private static void onAll(String name, int least, int greatest, About about) {
        PageFeeder x = Check.feeder(HEAD + GOOD + THICK);
        Check.range(name, x, least, greatest, number -> about.ask(x, number));
        x.feed(2);
        Check.range(name + " while stopped", x, least, greatest, number -> about.ask(x, number));
        x.accept();
        Check.range(name + " behind all", x, least, greatest, number -> about.ask(x, number));
        PageFeeder full = Check.feeder(FULL);
        full.feed(40);
        Check.range(name + " with 40 sheets", full, least, greatest, number -> about.ask(full, number));
    }

    private static void pageOrJobWhat(int greatest, About about) {
        PageFeeder x = Check.feeder(HEAD + GOOD + GOOD);
        x.feed(1);
        Check.range("what", x, 0, greatest, what -> about.ask(x, what));
        x.feed(1);
        Check.range("what", x, 0, greatest, what -> about.ask(x, what));
    }

    // Promise 4

    private static void sizesOfSheets() {
        Check.answers("size of nothing", Check.feeder(HEAD)::size, 0, 0, 0);
        PageFeeder full = Check.feeder(FULL);
        Check.answers("size of 40", full::size, 40, 40, 0);
        full.feed(39);
        Check.answers("size behind 39", full::size, 40, 1, 0);
        full.feed(1);
        Check.answers("size behind 40", full::size, 40, 0, 0);
        PageFeeder stuck = Check.feeder(HEAD + "sheet 300 100 0 9 9 stuck 0;again 39;");
        stuck.feed(1);
        Check.answers("size with all in the path", stuck::size, 40, 0, 40, 1);
        stuck.remove();
        Check.answers("size with all removed", stuck::size, 40, 0, 0, 0);
    }

    private static void sizeReason() {
        PageFeeder x = Check.feeder(HEAD + THICK + LONG + SKEWED + GOOD);
        Check.same("at first", x.size(3), 0);
        for (int reason = 1; reason <= 3; reason++) {
            x.feed(1);
            Check.same("stopped", x.size(3), reason);
            x.remove();
            Check.same("removed", x.size(3), 0);
            x.undo();
            Check.same("undone", x.size(3), reason);
            if (reason < 3) {
                x.accept();
                Check.same("accepted", x.size(3), 0);
                x.undo();
            }
            x.putBack();
            Check.same("put back", x.size(3), 0);
            x.undo();
            x.remove();
        }
        x.feed(1);
        Check.same("gone through", x.size(3), 0);
    }

    private static void sizesOfPages() {
        PageFeeder x = Check.feeder(FULL);
        Check.same("no pages", x.size(4), 0);
        Check.same("one job", x.size(5), 1);
        x.feed(40);
        Check.same("80 pages", x.size(4), 80);
        for (int jobs = 2; jobs <= 99; jobs++) {
            x.endJob(0);
            Check.same("jobs", x.size(5), jobs);
        }
    }

    private static void sizeMode() {
        Check.same("without simplex", Check.feeder(HEAD).size(6), 1);
        PageFeeder x = Check.feeder(HEAD + "simplex;");
        Check.same("with simplex", x.size(6), 0);
        x.setDuplex(true);
        Check.same("duplex", x.size(6), 1);
        x.setDuplex(false);
        Check.same("simplex", x.size(6), 0);
    }

    private static void sizesOfFeeder() {
        PageFeeder least = Check.feeder("feeder 50 30;");
        Check.same("least length", least.size(7), 50);
        Check.same("least thick", least.size(8), 30);
        PageFeeder greatest = Check.feeder("feeder 500 499;sheet 500 200 0 9 9;");
        greatest.feed(1);
        Check.same("greatest length", greatest.size(7), 500);
        Check.same("thick behind a pick", greatest.size(8), 499);
    }

    private static void sizeUsual() {
        PageFeeder x = Check.feeder(HEAD + "sheet 300 31 0 9 9;sheet 300 30 0 9 9;sheet 300 500 0 9 9;");
        Check.same("of none", x.size(9), 100);
        x.feed(1);
        Check.same("of one", x.size(9), 31);
        x.feed(1);
        Check.same("of two", x.size(9), 30);
        x.feed(1);
        Check.same("by a stop", x.size(9), 30);
    }

    private static void sizeHalves() {
        PageFeeder x = Check.feeder(HEAD + SKEWED + SKEWED);
        Check.same("none", x.size(10), 0);
        x.feed(1);
        Check.same("one", x.size(10), 1);
        x.putBack();
        Check.same("put back", x.size(10), 1);
        x.feed(1);
        Check.same("gone through", x.size(10), 0);
        x.feed(1);
        Check.same("one more", x.size(10), 1);
        x.remove();
        Check.same("removed", x.size(10), 0);
    }

    private static void sizeChanges() {
        PageFeeder x = Check.feeder(HEAD);
        for (int changes = 1; changes <= 23; changes++) {
            x.setDuplex(true);
            Check.same("behind " + changes, x.size(11), Math.min(changes, 10));
        }
        for (int left = 9; left >= 0; left--) {
            x.undo();
            Check.same("behind an undo", x.size(11), left);
        }
        x.undo();
        Check.same("behind an undo of nothing", x.size(11), 0);
    }

    // Promise 5

    private static void limits() {
        Check.answers("limit", Check.feeder(HEAD)::limit, 150, 20, 30, 5);
        Check.answers("least limit", Check.feeder(HEAD + "limits 101 0 0 0;")::limit, 101, 0, 0, 0);
        Check.answers("greatest limit", Check.feeder(HEAD + "limits 300 200 99 1000;")::limit, 300, 200, 99, 1000);
    }

    // Promise 6

    private static void skewNow() {
        PageFeeder x = Check.feeder(HEAD + "limits 150 20 0 5;sheet 300 100 -7 9 9;");
        int[] skews = {-7, -3, -1, 0};
        for (int want : skews) {
            Check.same("skew", x.sheet(0, 2), want);
            x.feed(1);
            Check.same("skew in the path", x.sheet(0, 2), want);
            if (want != 0) {
                x.putBack();
            }
        }
        Check.same("where it is", x.sheet(0, 7), 2);
        x.undo();
        x.undo();
        Check.same("skew behind undo of putBack", x.sheet(0, 2), -1);
    }

    private static void sheetInks() {
        PageFeeder x = Check.feeder(HEAD + "sheet 300 100 0 1000 999;code 1 300 100 50;again 1;sheet 300 100 0 0 1;");
        Check.answers("front", s -> x.sheet(s, 3), 1000, 0, 0, 0);
        Check.answers("back", s -> x.sheet(s, 4), 999, 0, 0, 1);
    }

    private static void sheetCode() {
        PageFeeder x = Check.feeder(HEAD + GOOD + "code 0 300 100 0;code 999 300 100 0;" + GOOD);
        Check.answers("code", s -> x.sheet(s, 5), -1, 0, 999, -1);
        x.feed(40);
        Check.answers("code behind all", s -> x.sheet(s, 5), -1, 0, 999, -1);
    }

    private static void offsetNow() {
        PageFeeder x = Check.feeder(HEAD + "sheet 300 100 0 9 9 stuck 0;sheet 300 100 0 9 9 stuck 400;sheet 300 100 0 9 9;sheet 300 100 0 9 9 stuck 7;");
        Check.answers("offset", s -> x.sheet(s, 6), 0, 400, -1, 7);
        x.feed(1);
        Check.answers("offset in the path", s -> x.sheet(s, 6), 0, 400, -1, 7);
        x.putBack();
        Check.answers("offset put back", s -> x.sheet(s, 6), -1, -1, -1, 7);
        x.undo();
        Check.answers("offset behind undo", s -> x.sheet(s, 6), 0, 400, -1, 7);
    }

    private static void whereItIs() {
        PageFeeder x = Check.feeder(HEAD + GOOD + "sheet 300 100 0 0 0;code 1 300 100 0;" + PAIR + THICK + THICK + GOOD);
        Check.answers("where at first", s -> x.sheet(s, 7), 0, 0, 0, 0, 0, 0, 0, 0);
        x.feed(40);
        x.remove();
        x.feed(40);
        Check.answers("where", s -> x.sheet(s, 7), 2, 3, 4, 2, 5, 6, 1, 0);
    }

    private static void noSuchSheet() {
        PageFeeder none = Check.feeder(HEAD);
        Check.refusesIndex("sheet(0, 0) of none", none, () -> none.sheet(0, 0));
        for (String text : new String[] {HEAD + GOOD, FULL}) {
            PageFeeder x = Check.feeder(text);
            int sheets = x.size(0);
            for (int sheet : new int[] {-1, sheets, Integer.MIN_VALUE, Integer.MAX_VALUE}) {
                Check.refusesIndex("sheet(" + sheet + ", 0)", x, () -> x.sheet(sheet, 0));
                Check.refusesIndex("sheet(" + sheet + ", 8)", x, () -> x.sheet(sheet, 8));
                Check.refusesIndex("sheet(" + sheet + ", -1)", x, () -> x.sheet(sheet, -1));
            }
            Check.same("the last one", x.sheet(sheets - 1, 0), 300);
        }
    }

    // Promises 7 and 8

    private static void topOfStack() {
        PageFeeder x = Check.feeder(HEAD + GOOD + PAIR + THICK + GOOD);
        Check.same("at first", x.stack(0), 0);
        x.feed(1);
        Check.same("behind a pick", x.stack(0), 1);
        x.feed(1);
        Check.same("behind a pair", x.stack(0), 3);
        x.feed(1);
        Check.same("behind a stop", x.stack(0), 4);
        x.putBack();
        Check.same("put back", x.stack(0), 3);
        Check.same("below it", x.stack(1), 4);
    }

    private static void stackEnds() {
        PageFeeder none = Check.feeder(HEAD);
        PageFeeder full = Check.feeder(FULL);
        for (int k : new int[] {-1, 40, Integer.MIN_VALUE, Integer.MAX_VALUE}) {
            Check.same("stack(" + k + ") of 40", full.stack(k), -1);
            Check.same("stack(" + k + ") of none", none.stack(k), -1);
        }
        Check.same("stack(0) of none", none.stack(0), -1);
        Check.same("stack(39) of 40", full.stack(39), 39);
        full.feed(39);
        Check.answers("stack of one", full::stack, 39, -1);
        Check.same("stack(greatest) of one", full.stack(Integer.MAX_VALUE), -1);
        Check.same("stack(-1) of one", full.stack(-1), -1);
        full.feed(1);
        Check.same("stack(0) behind all", full.stack(0), -1);
        Check.same("stack(-40) behind all", full.stack(-40), -1);
    }

    private static void firstOfPath() {
        PageFeeder x = Check.feeder(HEAD + GOOD + "sheet 300 100 0 9 9 stuck 0;sheet 300 100 0 9 9 stuck 0;" + GOOD + GOOD);
        x.feed(40);
        Check.answers("path", x::path, 1, 2, 3, -1);
    }

    private static void pathEnds() {
        PageFeeder x = Check.feeder(HEAD + GOOD + GOOD + THICK + GOOD);
        Check.same("path(0) at first", x.path(0), -1);
        x.feed(40);
        for (int k : new int[] {-1, -2, 1, Integer.MIN_VALUE, Integer.MAX_VALUE}) {
            Check.same("path(" + k + ")", x.path(k), -1);
        }
        Check.same("path(0)", x.path(0), 2);
        x.remove();
        Check.same("path(0) behind remove", x.path(0), -1);
        x.undo();
        x.accept();
        Check.same("path(0) behind accept", x.path(0), -1);
        PageFeeder stuck = Check.feeder(HEAD + "sheet 300 100 0 9 9 stuck 0;again 39;");
        stuck.feed(1);
        Check.same("path(39)", stuck.path(39), 39);
        Check.same("path(40)", stuck.path(40), -1);
    }

    // Promise 9

    private static void pageSides() {
        PageFeeder x = Check.feeder(HEAD + GOOD + "sheet 300 100 0 0 9;sheet 300 100 0 9 0;");
        x.feed(40);
        Check.answers("sheet", p -> x.page(p, 0), 0, 0, 1, 2);
        Check.answers("side", p -> x.page(p, 1), 0, 1, 1, 0);
    }

    private static void noSuchPage() {
        PageFeeder x = Check.feeder(FULL);
        Check.refusesIndex("page(0, 0) of none", x, () -> x.page(0, 0));
        Check.refusesIndex("page(0, 3) of none", x, () -> x.page(0, 3));
        for (int fed : new int[] {1, 39}) {
            x.feed(fed);
            int pages = x.size(4);
            for (int page : new int[] {-1, pages, Integer.MIN_VALUE, Integer.MAX_VALUE}) {
                Check.refusesIndex("page(" + page + ", 0)", x, () -> x.page(page, 0));
                Check.refusesIndex("page(" + page + ", 3)", x, () -> x.page(page, 3));
                Check.refusesIndex("page(" + page + ", -1)", x, () -> x.page(page, -1));
            }
            Check.same("the last one's side", x.page(pages - 1, 1), 1);
        }
        x.undo();
        Check.throwsIndex("page(2, 0) behind undo", () -> x.page(2, 0));
    }

    // Promise 10

    private static void jobCodes() {
        PageFeeder x = Check.feeder(HEAD + "code 0 300 100 0;");
        x.feed(1);
        x.endJob(0);
        x.endJob(999);
        Check.answers("code", job -> x.job(job, 0), -1, 0, 0, 999);
    }

    private static void jobPages() {
        PageFeeder x = Check.feeder(HEAD + "code 3 300 100 0;" + GOOD + GOOD + "code 4 300 100 0;sheet 300 100 0 0 0;code 5 300 100 0;" + GOOD);
        x.feed(40);
        Check.answers("pages", job -> x.job(job, 1), 0, 4, 0, 2);
        Check.answers("first page", job -> x.job(job, 2), -1, 0, -1, 4);
        Check.same("pages of a last job without any", x.endJob(1), 4);
        Check.same("its pages", x.job(4, 1), 0);
        Check.same("its first page", x.job(4, 2), -1);
        PageFeeder full = Check.feeder(FULL);
        full.feed(40);
        Check.answers("job 0", what -> full.job(0, what), -1, 80, 0, 40);
    }

    private static void jobSheets() {
        PageFeeder x = Check.feeder(HEAD + GOOD + "sheet 300 100 0 0 9;sheet 300 100 0 9 0;sheet 300 100 0 0 0;" + PAIR + THICK + GOOD);
        Check.same("at first", x.job(0, 3), 0);
        x.feed(40);
        Check.same("not those dropped, hidden and in the path", x.job(0, 3), 4);
        x.endJob(8);
        x.accept();
        Check.same("not those of the next job", x.job(0, 3), 4);
        Check.same("those of the next job", x.job(1, 3), 1);
        x.feed(1);
        Check.same("and the last one", x.job(1, 3), 2);
    }

    private static void noSuchJob() {
        PageFeeder x = Check.feeder(HEAD + "code 3 300 100 0;again 39;");
        for (int feeds = 0; feeds < 2; feeds++) {
            int jobs = x.size(5);
            for (int job : new int[] {-1, jobs, Integer.MIN_VALUE, Integer.MAX_VALUE}) {
                Check.refusesIndex("job(" + job + ", 0)", x, () -> x.job(job, 0));
                Check.refusesIndex("job(" + job + ", 4)", x, () -> x.job(job, 4));
                Check.refusesIndex("job(" + job + ", -1)", x, () -> x.job(job, -1));
            }
            Check.same("pages of the last one", x.job(jobs - 1, 1), 0);
            x.feed(40);
        }
        Check.same("41 jobs", x.size(5), 41);
        x.undo();
        x.undo();
        Check.throwsIndex("job(1, 0) behind undo", () -> x.job(1, 0));
    }

    // Promise 11

    private static void halves() {
        PageFeeder x = Check.feeder(HEAD + SKEWED + SKEWED + GOOD);
        Check.same("at first", x.isHalf(0), false);
        x.feed(40);
        Check.same("in the path", x.isHalf(0), true);
        Check.same("the next one", x.isHalf(1), false);
        x.putBack();
        Check.same("in the stack", x.isHalf(0), true);
        x.feed(40);
        Check.same("gone through", x.isHalf(0), false);
        Check.same("the next one", x.isHalf(1), true);
        x.remove();
        Check.same("removed", x.isHalf(1), false);
        x.undo();
        Check.same("behind undo", x.isHalf(1), true);
        x.undo();
        Check.same("behind undo", x.isHalf(0), true);
    }

    private static void noSuchHalf() {
        PageFeeder none = Check.feeder(HEAD);
        Check.refusesIndex("isHalf(0) of none", none, () -> none.isHalf(0));
        for (String text : new String[] {HEAD + GOOD, FULL}) {
            PageFeeder x = Check.feeder(text);
            for (int sheet : new int[] {-1, x.size(0), Integer.MIN_VALUE, Integer.MAX_VALUE}) {
                Check.refusesIndex("isHalf(" + sheet + ")", x, () -> x.isHalf(sheet));
            }
            Check.same("the last one", x.isHalf(x.size(0) - 1), false);
        }
    }

    // Promise 12

    private static void nextReason() {
        String[] sheets = {GOOD, THICK, LONG, SKEWED, "sheet 321 151 31 9 9;", "sheet 321 150 31 9 9;", "sheet 320 150 30 9 9;", "sheet 280 30 -30 9 9;"};
        int[] reasons = {0, 1, 2, 3, 1, 2, 0, 0};
        for (int k = 0; k < sheets.length; k++) {
            Check.same("next(3) for " + sheets[k], Check.feeder(HEAD + sheets[k]).next(3), reasons[k]);
        }
        // By the limits and the usual thickness at that time.
        PageFeeder x = Check.feeder(HEAD + "sheet 300 40 0 9 9;sheet 300 61 0 9 9;");
        x.feed(1);
        Check.same("61 behind 40", x.next(3), 1);
        x.setLimit(0, 153);
        Check.same("61 with 153 percent of 40", x.next(3), 0);
    }

    private static void nextPages() {
        PageFeeder x = Check.feeder(HEAD + "sheet 400 500 99 5 5;");
        Check.same("of one that would be stopped", x.next(4), 2);
        x.setLimit(3, 6);
        Check.same("of one that is blank", x.next(4), 0);
        x.setLimit(3, 5);
        x.setDuplex(false);
        Check.same("in simplex", x.next(4), 1);
        Check.same("of the first sheet alone", Check.feeder(HEAD + "sheet 300 50 0 0 9 stuck 0;again 3;").next(4), 1);
        PageFeeder code = Check.feeder(HEAD + "limits 150 20 30 0;code 1 300 50 0 stuck 0;" + GOOD);
        Check.same("of a code sheet", code.next(4), 0);
    }

    private static void nextWhileStopped() {
        PageFeeder x = Check.feeder(HEAD + THICK + "sheet 305 70 31 0 9 stuck 6;sheet 300 71 0 9 9;" + GOOD);
        x.feed(1);
        Check.answers("next while stopped", x::next, 2, 141, 306, 3, 1);
        Check.same("it is stopped still", x.size(3), 1);
        x.remove();
        Check.answers("next behind remove", x::next, 2, 141, 306, 3, 1);
    }

    private static void nextOfNothing() {
        Check.answers("next of a new object", new PageFeeder()::next, -1, -1, -1, -1, -1);
        PageFeeder x = Check.feeder(HEAD + THICK);
        x.feed(1);
        Check.answers("next with all in the path", x::next, -1, -1, -1, -1, -1);
        x.accept();
        Check.answers("next behind all", x::next, -1, -1, -1, -1, -1);
        x.undo();
        x.putBack();
        Check.answers("next put back", x::next, 1, 151, 300, 1, 2);
    }

    // Promise 13

    private static void foreseen(String what, PageFeeder x, int percent, int... want) {
        String before = Check.all(x);
        Check.answers(what + ": ahead of " + percent, k -> x.ahead(percent, k), want);
        Check.sameText("everything behind ahead", Check.all(x), before);
    }

    private static void aheadFromNow() {
        foreseen("nothing", Check.feeder(HEAD), 101, 0, 0, 0, 0, 0);
        PageFeeder full = Check.feeder(FULL);
        foreseen("40 sheets", full, 101, 0, 0, 0, 80, 0);
        full.feed(39);
        foreseen("the last one", full, 300, 0, 0, 0, 2, 0);
        full.feed(1);
        foreseen("behind all", full, 300, 0, 0, 0, 0, 0);
        // It ends with the stack, also where no length is too short.
        PageFeeder any = Check.feeder("feeder 50 30;limits 150 200 30 5;sheet 50 30 0 9 9;");
        foreseen("any length", any, 150, 0, 0, 0, 2, 0);
        any.feed(1);
        foreseen("any length behind all", any, 150, 0, 0, 0, 0, 0);
        // The usual thickness goes on from the good picks so far: 50, so 80 is 160 percent.
        PageFeeder x = Check.feeder(HEAD + "sheet 300 50 0 9 9;sheet 300 80 0 9 9;");
        foreseen("from the begin", x, 159, 1, 1, 0, 2, 1);
        x.feed(1);
        foreseen("behind the first one", x, 159, 1, 1, 0, 0, 1);
        foreseen("behind the first one", x, 160, 0, 0, 0, 2, 0);
    }

    private static void aheadPercent() {
        PageFeeder x = Check.feeder(HEAD + "limits 150 0 0 5;sheet 300 101 0 9 9;sheet 300 303 0 9 9;");
        foreseen("the lowest", x, 101, 1, 1, 0, 2, 1);
        foreseen("one less than the greatest", x, 299, 1, 1, 0, 2, 1);
        foreseen("the greatest", x, 300, 0, 0, 0, 4, 0);
        Check.same("the limit stays", x.limit(0), 150);
        // 102 is more than 101 percent of 100, and not more than 102 percent.
        PageFeeder y = Check.feeder(HEAD + "sheet 300 102 0 9 9;");
        foreseen("more", y, 101, 1, 1, 0, 0, 1);
        foreseen("not more", y, 102, 0, 0, 0, 2, 0);
    }

    private static void aheadRemoves() {
        // What is removed is no good pick: the 160 would be 100 percent of the usual thickness otherwise.
        PageFeeder x = Check.feeder(HEAD + "sheet 300 160 0 9 9;again 2;" + LONG + SKEWED + GOOD);
        foreseen("all are removed but one", x, 159, 3, 3, 0, 2, 5);
        foreseen("the thick ones go through", x, 160, 0, 0, 0, 8, 2);
        // Its code begins no job, its halves make no pages.
        PageFeeder y = Check.feeder(HEAD + "code 4 321 100 0;" + SKEWED);
        foreseen("two are removed", y, 150, 0, 0, 0, 0, 2);
    }

    private static void aheadWhileStopped() {
        PageFeeder x = Check.feeder(HEAD + "sheet 300 160 0 9 9;" + GOOD + THICK);
        x.feed(1);
        foreseen("stopped", x, 150, 1, 1, 0, 2, 1);
        foreseen("stopped", x, 151, 0, 0, 0, 4, 0);
        Check.same("it is stopped still", x.size(3), 1);
        x.remove();
        foreseen("removed", x, 150, 1, 1, 0, 2, 1);
    }

    private static void aheadStops() {
        PageFeeder x = Check.feeder(HEAD + THICK + "sheet 300 76 0 9 9 stuck 0;sheet 300 75 0 9 9;" + "sheet 400 151 99 9 9;" + LONG + SKEWED);
        foreseen("three for the reason 1", x, 150, 3, 2, 0, 0, 6);
        foreseen("none for the reason 1", x, 151, 0, 0, 1, 4, 3);
    }

    private static void aheadThrough() {
        PageFeeder x = Check.feeder(HEAD + PAIR + "sheet 300 60 0 9 9 stuck 21;sheet 300 60 0 9 9;sheet 300 60 31 9 9 stuck 0;sheet 300 60 0 9 9;"
                + "code 1 300 40 0 stuck 0;again 2;");
        foreseen("the first and the last one", x, 120, 0, 0, 2, 2, 4);
        foreseen("none", x, 119, 4, 0, 0, 0, 9);
        Check.same("all 40 together", Check.feeder("feeder 300 500;limits 300 20 30 5;sheet 300 30 0 9 9 stuck 0;again 39;").ahead(240, 2), 1);
        Check.same("all 40 together", Check.feeder("feeder 300 500;limits 300 20 30 5;sheet 300 30 0 9 9 stuck 0;again 39;").ahead(239, 2), 0);
    }

    private static void aheadPages() {
        PageFeeder x = Check.feeder(HEAD + GOOD + "sheet 300 100 0 0 9;sheet 300 100 0 0 0;code 4 300 100 0;sheet 300 50 0 9 4 stuck 0;" + "sheet 300 50 0 9 9;");
        foreseen("from the begin", x, 150, 0, 0, 1, 4, 0);
        x.feed(1);
        foreseen("without those that are there", x, 150, 0, 0, 1, 2, 0);
        x.setDuplex(false);
        foreseen("in simplex", x, 150, 0, 0, 1, 1, 0);
        x.setDuplex(true);
        x.setLimit(3, 0);
        foreseen("with blank 0", x, 150, 0, 0, 1, 6, 0);
        Check.same("a half is no page, and none is lost", halfAhead(), 4);
    }

    private static int halfAhead() {
        PageFeeder x = Check.feeder(HEAD + SKEWED + GOOD);
        x.feed(1);
        x.putBack();
        return x.ahead(101, 3);
    }

    private static void aheadRemoved() {
        PageFeeder x = Check.feeder(HEAD + "sheet 300 100 0 9 9 stuck 0;" + GOOD + LONG + "sheet 300 100 0 9 9 stuck 0;again 2;");
        foreseen("from the begin", x, 150, 2, 0, 0, 0, 6);
        x.feed(1);
        foreseen("with two in the path", x, 150, 1, 0, 0, 0, 4);
        x.remove();
        foreseen("with two removed", x, 150, 1, 0, 0, 0, 4);
    }

    private static void aheadRanges() {
        PageFeeder x = Check.feeder(HEAD + GOOD);
        Check.range("ahead of percent, 0", x, 101, 300, percent -> x.ahead(percent, 0));
        Check.range("ahead of percent, 4", x, 101, 300, percent -> x.ahead(percent, 4));
        Check.range("ahead of 101", x, 0, 4, what -> x.ahead(101, what));
        Check.range("ahead of 300", x, 0, 4, what -> x.ahead(300, what));
        Check.throwsArgument("both", () -> x.ahead(100, 5));
        PageFeeder none = new PageFeeder();
        Check.range("ahead of none", none, 101, 300, percent -> none.ahead(percent, 0));
        Check.range("ahead of none", none, 0, 4, what -> none.ahead(101, what));
    }

    // Promise 14

    private static void best(String sheets, int want) {
        PageFeeder x = Check.feeder(HEAD + sheets);
        String before = Check.all(x);
        Check.same("bestPercent of " + sheets, x.bestPercent(), want);
        Check.sameText("everything behind bestPercent", Check.all(x), before);
        int best = 101;
        for (int percent = 102; percent <= 300; percent++) {
            if (x.ahead(percent, 1) + x.ahead(percent, 2) < x.ahead(best, 1) + x.ahead(best, 2)) {
                best = percent;
            }
        }
        Check.same("by trying all of " + sheets, best, want);
    }

    private static void bestIsLeast() {
        best("", 101);
        best(THICK, 151);
        best("sheet 300 300 0 9 9;", 300);
        best("sheet 300 301 0 9 9;", 101);
        best("sheet 300 101 0 9 9;", 101);
        best("sheet 300 102 0 9 9;", 102);
        // One single to be let through for one pair that would come with it is no gain; two are.
        best(PAIR + "sheet 300 130 0 9 9;", 101);
        best(PAIR + "sheet 300 130 0 9 9;sheet 300 125 0 9 9;", 130);
        // Singles of 110 and a pair of 120, then the singles lift what is usual.
        best("sheet 300 110 0 9 9;again 1;" + PAIR, 110);
        // Stopped for another reason it is none of the two numbers: from 130 on.
        best("sheet 321 130 0 9 9;", 130);
        best("sheet 300 130 31 9 9;", 130);
        // Less from 150 on than from 130 to 139: the pair goes through then, but so do the 195 and the 240.
        best("sheet 300 130 0 9 9;sheet 300 91 0 9 9 stuck 0;sheet 300 91 0 9 9;sheet 300 195 0 9 9;sheet 300 240 0 9 9;", 150);
        PageFeeder x = Check.feeder(HEAD + "limits 300 20 30 5;" + THICK);
        Check.same("whatever the limit is", x.bestPercent(), 151);
        x.setLimit(0, 101);
        x.feed(1);
        Check.same("behind all", x.bestPercent(), 101);
        x.putBack();
        Check.same("put back", x.bestPercent(), 151);
    }

    private static void bestIsLowest() {
        best(GOOD, 101);
        best(FULL.substring(HEAD.length()), 101);
        // One from 130 to 139, where the 195 stops, two up to 149, one again from 150 on, where the pair goes through.
        best("sheet 300 130 0 9 9;sheet 300 91 0 9 9 stuck 0;sheet 300 91 0 9 9;sheet 300 195 0 9 9;", 130);
        // One everywhere: the single below 140, the pair from there on.
        best("sheet 300 140 0 9 9;sheet 300 70 0 9 9 stuck 0;sheet 300 70 0 9 9;", 101);
        // 119 by 90 are 132.2 percent: the lowest that lets it through is 133.
        PageFeeder x = Check.feeder("feeder 300 90;sheet 300 119 0 9 9;");
        Check.same("rounded up", x.bestPercent(), 133);
        PageFeeder y = Check.feeder("feeder 300 90;sheet 300 117 0 9 9;");
        Check.same("130 percent as it is", y.bestPercent(), 130);
    }

    // Promise 15

    private static void blankForOrMore() {
        PageFeeder x = Check.feeder(HEAD + "sheet 300 100 0 7 7;sheet 300 100 0 7 20;");
        Check.answers("blankFor", x::blankFor, 0, 8, 8, 8, 21, -1);
    }

    private static void blankForCounted() {
        PageFeeder x = Check.feeder(HEAD + "simplex;sheet 300 100 0 50 3;code 1 300 100 0;code 2 300 100 0;sheet 300 100 0 60 4;");
        Check.answers("blankFor", x::blankFor, 0, 4, 5, 51, 61, -1);
        Check.answers("blankFor of a code sheet", Check.feeder(HEAD + "code 1 300 100 0;")::blankFor, 0, -1, -1);
    }

    private static void blankForAll() {
        PageFeeder x = Check.feeder(HEAD + "sheet 300 100 0 1 2;sheet 300 70 0 3 4 stuck 0;sheet 300 70 0 5 6;sheet 300 200 0 7 8;sheet 300 200 0 9 10;"
                + "sheet 300 100 0 11 12;");
        for (int k = 0; k < 6; k++) {
            Check.answers("blankFor", x::blankFor, 0, 2, 3, 4, 5, 6, 7, 8, 9, 10, 11, 12, 13, -1);
            if (k == 3) {
                x.remove();
            } else if (x.size(3) == 0) {
                x.feed(1);
            }
        }
        Check.same("one is removed", x.sheetsAt(6), 1);
        Check.same("one is in the path", x.sheetsAt(1), 1);
        Check.same("one is hidden", x.sheetsAt(5), 1);
    }

    private static void blankForLowest() {
        Check.same("0 sides of none", Check.feeder(HEAD).blankFor(0), 0);
        Check.same("0 sides", Check.feeder(FULL).blankFor(0), 0);
        Check.same("80 sides", Check.feeder(FULL).blankFor(80), 10);
        Check.answers("blankFor of the inks 0 and 999", Check.feeder(HEAD + "sheet 300 100 0 0 999;")::blankFor, 0, 1, 1000);
        for (int ink = 0; ink < 1000; ink += 37) {
            PageFeeder x = Check.feeder(HEAD + "sheet 300 100 0 " + ink + " " + ink + ";again 39;");
            Check.same("blankFor(1) of the ink " + ink, x.blankFor(1), ink + 1);
            Check.same("blankFor(80) of the ink " + ink, x.blankFor(80), ink + 1);
        }
        // It is the one that picks go by, whatever the limit is now.
        PageFeeder y = Check.feeder(HEAD + "limits 150 20 30 900;sheet 300 100 0 40 41;");
        Check.same("whatever the limit is", y.blankFor(1), 41);
    }

    private static void blankForNone() {
        Check.same("1 side of none", Check.feeder(HEAD).blankFor(1), -1);
        Check.same("80 sides of none", Check.feeder(HEAD).blankFor(80), -1);
        Check.same("3 sides of a sheet", Check.feeder(HEAD + GOOD).blankFor(3), -1);
        Check.answers("blankFor of the ink 1000", Check.feeder(HEAD + "sheet 300 100 0 1000 999;")::blankFor, 0, 1000, -1);
        Check.same("80 sides of 39 sheets", Check.feeder(HEAD + GOOD + "again 38;").blankFor(80), -1);
        Check.same("79 sides of 39 sheets", Check.feeder(HEAD + GOOD + "again 38;").blankFor(79), -1);
        Check.same("78 sides of 39 sheets", Check.feeder(HEAD + GOOD + "again 38;").blankFor(78), 10);
    }

    // Promise 16

    private static void accountPicks() {
        PageFeeder x = Check.feeder(HEAD + GOOD + PAIR + THICK + LONG + SKEWED + "code 1 300 100 0;sheet 300 100 0 0 0;");
        Check.answers("account at first", x::account, 0, 0, 0, 0, 0, 0, 0, 0, 0);
        x.feed(2);
        Check.answers("account behind a pair", x::account, 2, 0, 0, 0, 1);
        x.feed(40);
        x.accept();
        Check.answers("account behind accept", x::account, 3, 1, 0, 0, 1);
        x.feed(40);
        x.remove();
        Check.answers("account behind remove", x::account, 4, 1, 1, 0, 1);
        x.feed(40);
        x.putBack();
        Check.answers("account behind putBack", x::account, 5, 1, 1, 1, 1);
        x.feed(40);
        Check.answers("account behind all", x::account, 8, 1, 1, 1, 4);
        x.feed(40);
        Check.answers("account behind a feed of nothing", x::account, 8, 1, 1, 1, 4, 1, 0, 1, 1);
    }

    private static void accountReplaced() {
        PageFeeder x = Check.feeder(HEAD + "limits 150 20 10 5;sheet 300 100 99 9 9;sheet 300 100 11 9 9;");
        for (int skew = 99; skew > 10; skew /= 2) {
            x.feed(1);
            Check.same("held in place of another", x.account(5), 0);
            x.putBack();
        }
        x.feed(1);
        Check.same("replaced once", x.account(5), 1);
        x.feed(1);
        x.remove();
        Check.same("removed", x.account(5), 1);
        x.undo();
        x.undo();
        x.undo();
        Check.same("undone", x.account(5), 0);
    }

    private static void accountRemoved() {
        PageFeeder x = Check.feeder(HEAD + "sheet 300 50 31 9 9 stuck 0;sheet 300 50 31 9 9;" + THICK + "code 1 300 100 31;sheet 310 100 40 9 9;");
        x.feed(1);
        x.remove();
        Check.same("one of two sheets was a half", x.account(6), 1);
        x.feed(1);
        x.remove();
        Check.same("a thick one is none", x.account(6), 1);
        x.feed(1);
        x.remove();
        Check.same("a code sheet is none", x.account(6), 1);
        x.feed(1);
        x.putBack();
        x.setLimit(1, 0);
        x.feed(1);
        Check.same("stopped for its length", x.size(3), 2);
        x.remove();
        Check.same("a half from an earlier stop", x.account(6), 2);
        Check.same("none was replaced", x.account(5), 0);
    }

    private static void accountCleared() {
        PageFeeder x = Check.feeder(HEAD + "sheet 300 60 0 9 9 stuck 0;again 2;" + THICK);
        x.feed(1);
        x.putBack();
        Check.same("all four were put back", x.account(7), 4);
        x.feed(4);
        Check.same("the last one stops", x.size(3), 1);
        x.putBack();
        Check.same("and one", x.account(7), 5);
        x.feed(1);
        Check.same("accepted", x.account(8), 0);
        x.accept();
        Check.same("accepted", x.account(8), 1);
        PageFeeder y = Check.feeder(HEAD + "sheet 300 100 0 9 9 stuck 0;again 39;");
        y.feed(1);
        y.accept();
        Check.same("a pick of 40 is one", y.account(8), 1);
        y.undo();
        y.putBack();
        Check.same("40 sheets put back", y.account(7), 40);
    }

    private static void accountSinceParse() {
        PageFeeder x = Check.feeder(HEAD + THICK + SKEWED);
        x.feed(1);
        x.accept();
        x.feed(1);
        x.putBack();
        Check.same("an error", Check.parse(x, "x"), Check.error(0, 1));
        Check.answers("account behind an error", x::account, 2, 1, 0, 1, 0, 0, 0, 1, 1);
        Check.parse(x, HEAD);
        Check.answers("account behind parse", x::account, 0, 0, 0, 0, 0, 0, 0, 0, 0);
    }

    // Promises 17 and 18

    private static void sheetsEverywhere() {
        PageFeeder full = Check.feeder(FULL);
        Check.answers("sheetsAt of 40", full::sheetsAt, 40, 0, 0, 0, 0, 0, 0);
        full.feed(40);
        Check.answers("sheetsAt of 40 that are out", full::sheetsAt, 0, 0, 40, 0, 0, 0, 0);
        PageFeeder x = Check.feeder(HEAD + GOOD + "sheet 300 100 0 0 0;again 1;code 1 300 100 0;again 2;sheet 300 30 0 9 9 stuck 0;again 3;" + THICK
                + "sheet 300 151 0 9 9 stuck 0;again 4;");
        x.feed(40);
        x.remove();
        x.feed(40);
        Check.answers("sheetsAt", x::sheetsAt, 0, 5, 1, 2, 3, 0, 5);
        x.putBack();
        Check.answers("sheetsAt put back", x::sheetsAt, 5, 0, 1, 2, 3, 0, 5);
        PageFeeder hidden = Check.feeder("feeder 300 500;limits 300 20 30 5;sheet 300 30 0 9 9 stuck 0;again 39;");
        hidden.feed(1);
        Check.answers("sheetsAt of 39 that are hidden", hidden::sheetsAt, 0, 0, 1, 0, 0, 39, 0);
    }

    private static void meanDivided() {
        PageFeeder x = Check.feeder(HEAD + "sheet 300 100 0 5 0;sheet 300 100 0 6 0;sheet 300 100 0 6 1000;");
        x.feed(1);
        Check.sameDouble("of 5", x.meanInk(), 5.0);
        x.feed(1);
        Check.sameDouble("of 5 and 6", x.meanInk(), 5.5);
        x.feed(1);
        Check.sameDouble("of 5, 6, 6 and 1000", x.meanInk(), 254.25);
        x.setLimit(3, 900);
        Check.sameDouble("whatever the limit is now", x.meanInk(), 254.25);
        PageFeeder third = Check.feeder(HEAD + "sheet 300 100 0 10 10;sheet 300 100 0 11 0;");
        third.feed(40);
        Check.sameDouble("of 10, 10 and 11", third.meanInk(), 31.0 / 3.0);
        PageFeeder most = Check.feeder(HEAD + "sheet 300 100 0 1000 1000;again 39;");
        most.feed(40);
        Check.sameDouble("of 80 pages with 1000", most.meanInk(), 1000.0);
        PageFeeder least = Check.feeder(HEAD + "limits 150 20 30 0;sheet 300 100 0 0 0;");
        least.feed(1);
        Check.sameDouble("of pages without ink", least.meanInk(), 0.0);
    }

    private static void meanOfNothing() {
        Check.sameDouble("of a new object", new PageFeeder().meanInk(), 0.0);
        PageFeeder x = Check.feeder(HEAD + "sheet 300 100 0 0 4;code 1 300 100 0;" + THICK + SKEWED);
        x.feed(40);
        Check.sameDouble("of dropped sheets and code sheets", x.meanInk(), 0.0);
        x.remove();
        x.feed(1);
        Check.sameDouble("of a half", x.meanInk(), 0.0);
    }
}
