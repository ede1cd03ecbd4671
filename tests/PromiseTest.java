/** Each promise of the document, one method each, with answers worked out by hand. */
public final class PromiseTest {
    private static final String HEAD = "feeder 50 30;";
    private static final String SHEET = "sheet 50 30 0 10 10;";
    /** The usual thickness is 100; a single, a stuck pair, a code sheet, a skewed sheet. */
    private static final String MIXED = "feeder 300 100;sheet 300 100 0 50 60;sheet 300 100 0 10 20 stuck 5;"
            + "sheet 300 100 3 30 40;code 7 300 100 0;sheet 300 100 -45 20 0;";

    public static void main(String[] args) {
        newObject();
        append();
        parseHeads();
        parseStatements();
        parseRanges();
        parseCounts();
        parseKeepsAndEmpties();
        size();
        limit();
        sheet();
        stackAndPath();
        page();
        job();
        isHalf();
        next();
        nextReasons();
        ahead();
        bestPercent();
        blankFor();
        account();
        sheetsAt();
        meanInk();
        feed();
        usualThickness();
        putBack();
        remove();
        accept();
        endJob();
        setLimit();
        setDuplex();
        undo();
        undoOfPutBack();
        snapshots();
        snapshotOfRows();
        fullRows();
        Check.finish();
    }

    // Promise 1
    private static void newObject() {
        PageFeeder x = new PageFeeder();
        Check.sameText("a new object", Check.all(x), Check.all(Check.feeder(HEAD)));
        int[] sizes = {0, 0, 0, 0, 0, 1, 1, 50, 30, 30, 0, 0};
        for (int what = 0; what < sizes.length; what++) {
            Check.same("size " + what + " of a new object", x.size(what), sizes[what]);
        }
        Check.throwsArgument("parse(1) of an empty buffer", () -> x.parse(1));
        Check.same("parse(0) of a new object", x.parse(0), Check.error(0, 1));
        Check.same("undo of a new object", x.undo(), -1);
        Check.same("snapshot 0 of a new object", x.restoreSnapshot(0), false);
        Check.same("snapshot 1 of a new object", x.restoreSnapshot(1), false);
    }

    // Promise 2
    private static void append() {
        PageFeeder x = new PageFeeder();
        // "feed", "er 5", "0 30", ";   ", "    "
        Check.same("append", x.append(0x66656564, 0x65722035, 0x30203330, 0x3b202020, 0x20202020), 20);
        Check.same("parse of the appended bytes", x.parse(20), 0);
        for (int k = 1; k <= 35; k++) {
            Check.same("append " + k, x.append(0x20202020, 0x0a0a0a0a, 0x20202020, 0x20202020, -1), 20 * k);
        }
        Check.same("append to a full buffer", x.append(0, 0, 0, 0, 0), -1);
        Check.throwsArgument("parse beyond a full buffer", () -> x.parse(701));
        Check.same("parse of a full buffer", x.parse(700), Check.error(16, 1));
        Check.same("append after a parse", x.append(0, 0, 0, 0, 0), 20);
        // The signs of all five numbers, each byte at its place.
        Check.parse(x, "");
        Check.append(x, "feeder 123 456;limits 101 23 45 678;");
        Check.same("parse of twenty bytes and more", x.parse(36), 0);
        Check.same("length", x.size(7), 123);
        Check.same("thick", x.size(8), 456);
        Check.same("blank", x.limit(3), 678);
    }

    // Promise 3
    private static void parseHeads() {
        Check.errorIn("", 0, 1);
        Check.errorIn("   \n", 4, 1);
        Check.errorIn("feed 50 30;", 0, 1);
        Check.errorIn("50 30;", 0, 1);
        Check.errorIn("feedez 50 30;", 0, 1);
        Check.errorIn("zeeder 50 30;", 0, 1);
        Check.errorIn("Feeder 50 30;", 0, 1);
        Check.errorIn("feederr 50 30;", 0, 1);
        Check.errorIn("feeder", 6, 1);
        Check.errorIn("feeder 50", 9, 1);
        Check.errorIn("feeder 50 30  ", 14, 1);
        Check.errorIn("feeder ;", 7, 1);
        Check.errorIn("feeder -50 30;", 7, 1);
        Check.errorIn("feeder 50 30;x", 13, 1);
        Check.errorIn("feeder 50 30;;", 13, 1);
        Check.errorIn("feeder 50 30;feeder 50 30;", 13, 1);
        Check.errorIn("feeder\t50 30;", 6, 1);
        Check.errorIn("feeder 50 30;" + (char) 0, 13, 1);
        Check.errorIn("feeder 50 30;" + (char) 233, 13, 1);
        Check.sheetsIn("feeder50 30;", 0);
        Check.sheetsIn("\n feeder \n 50\n30 \n;\n", 0);
        Check.sheetsIn("feeder 0500 0030;", 0);
        Check.errorIn("feeder 00050 30;", 7, 1);
        Check.errorIn("feeder 50 30;sheetsheet 50 30 0 0 0;", 13, 1);
        Check.errorIn("feeder 50 30;simplexs;", 13, 1);
    }

    private static void parseStatements() {
        Check.sheetsIn(HEAD + SHEET, 1);
        Check.sheetsIn(HEAD + "sheet50 30 0 0 0stuck0;", 1);
        Check.sheetsIn(HEAD + "code 0 50 30 -0;", 1);
        Check.sheetsIn(HEAD + "code 999 500 500 - 99 stuck 400;again 1;simplex;limits 300 200 99 1000;again 2;", 4);
        Check.sheetsIn(HEAD + "limits 101 0 0 0;simplex;" + SHEET, 1);
        // Each text may have a limits and a simplex of its own.
        PageFeeder x = Check.feeder(HEAD + "limits 101 0 0 0;simplex;");
        Check.same("parse once more", Check.parse(x, HEAD + "limits 102 0 0 0;simplex;"), 0);
        Check.same("and without them", Check.parse(x, HEAD), 0);
        Check.same("percent without limits", x.limit(0), 150);
        Check.same("mode without simplex", x.size(6), 1);
        Check.errorIn(HEAD + "sheet 50 30 0 0 0 5;", 31, 1);
        Check.errorIn(HEAD + "sheet 50 30 0 0;", 28, 1);
        Check.errorIn(HEAD + "sheet 50 30 - - 0 0 0;", 27, 1);
        Check.errorIn(HEAD + "sheet 50 30 0 -0 0;", 27, 1);
        Check.errorIn(HEAD + "sheet 50 30 0 0 0 stuck -1;", 37, 1);
        Check.errorIn(HEAD + "sheet 50 30 0 0 0 glue 1;", 31, 1);
        Check.errorIn(HEAD + "sheet 50 30 0 0 0 stuck 1 stuck 1;", 39, 1);
        Check.errorIn(HEAD + "code 1 50 30 0 0;", 28, 1);
        Check.errorIn(HEAD + "code -1 50 30 0;", 18, 1);
        Check.errorIn(HEAD + SHEET + "again;", 38, 1);
        Check.errorIn(HEAD + SHEET + "again 1", 40, 1);
        Check.errorIn(HEAD + "simplex 1;", 21, 1);
        Check.errorIn(HEAD + "limits 150 20 30;", 29, 1);
        Check.errorIn(HEAD + "limits 150 20 30 5 5;", 32, 1);
        Check.errorIn(HEAD + "simplex;limits 150 20 30 5;simplex", 40, 2);
        Check.errorIn(HEAD + "limits 150 20 30 5;simplex;limits", 40, 2);
        Check.errorIn(HEAD + "again", 13, 3);
        Check.errorIn(HEAD + "simplex;again 99;", 21, 3);
        Check.errorIn(HEAD + "simplex simplex;", 21, 1);
        // An error at a lower offset hides the later ones.
        Check.errorIn(HEAD + "sheet 49 30 0 0 A", 19, 4);
        Check.errorIn(HEAD + "limits 301 300 300 9999;#", 20, 4);
    }

    private static void parseRanges() {
        range("feeder ", 50, 500, " 30;", 0);
        range("feeder 50 ", 30, 500, ";", 0);
        range(HEAD + "sheet ", 50, 500, " 30 0 0 0;", 1);
        range(HEAD + "sheet 50 ", 30, 500, " 0 0 0;", 1);
        range(HEAD + "sheet 50 30 ", 0, 99, " 0 0;", 1);
        range(HEAD + "sheet 50 30 -", 0, 99, " 0 0;", 1);
        range(HEAD + "sheet 50 30 0 ", 0, 1000, " 0;", 1);
        range(HEAD + "sheet 50 30 0 0 ", 0, 1000, ";", 1);
        range(HEAD + "sheet 50 30 0 0 0 stuck ", 0, 400, ";", 1);
        range(HEAD + "code ", 0, 999, " 50 30 0;", 1);
        range(HEAD + "code 0 ", 50, 500, " 30 0;", 1);
        range(HEAD + "code 0 50 ", 30, 500, " 0;", 1);
        range(HEAD + "code 0 50 30 ", 0, 99, ";", 1);
        range(HEAD + "code 0 50 30 0 stuck ", 0, 400, ";", 1);
        range(HEAD + "limits ", 101, 300, " 0 0 0;", 0);
        range(HEAD + "limits 101 ", 0, 200, " 0 0;", 0);
        range(HEAD + "limits 101 0 ", 0, 99, " 0;", 0);
        range(HEAD + "limits 101 0 0 ", 0, 1000, ";", 0);
        Check.sheetsIn(HEAD + SHEET + "again 1;", 2);
        Check.sheetsIn(HEAD + SHEET + "again 39;", 40);
        Check.errorIn(HEAD + SHEET + "again 0;", 39, 4);
        Check.errorIn(HEAD + SHEET + "again 40;", 39, 4);
    }

    private static void range(String before, int least, int greatest, String behind, int sheets) {
        Check.sheetsIn(before + least + behind, sheets);
        Check.sheetsIn(before + greatest + behind, sheets);
        Check.errorIn(before + (greatest + 1) + behind, before.length(), 4);
        if (least > 0) {
            Check.errorIn(before + (least - 1) + behind, before.length(), 4);
        }
    }

    private static void parseCounts() {
        String forty = HEAD + SHEET + "again 39;";
        Check.sheetsIn(forty + "simplex;limits 101 0 0 0;", 40);
        Check.errorIn(forty + "sheet", 42, 5);
        Check.errorIn(forty + "code 1000", 42, 5);
        Check.errorIn(forty + "again 1;", 48, 5);
        // Out of range and too many at one offset: the lower kind.
        Check.errorIn(forty + "again 40;", 48, 4);
        Check.sheetsIn(HEAD + "code 1 50 30 0;again 9;" + SHEET + "again 29;", 40);
        Check.errorIn(HEAD + "code 1 50 30 0;again 9;" + SHEET + "again 30;", 62, 5);
    }

    private static void parseKeepsAndEmpties() {
        PageFeeder x = Check.feeder(MIXED);
        x.feed(2);
        x.saveSnapshot(1);
        String before = Check.all(x);
        Check.append(x, "feeder 50 30;simplex");
        Check.throwsArgument("parse(-1)", () -> x.parse(-1));
        Check.throwsArgument("parse(21)", () -> x.parse(21));
        Check.same("append after a refused parse", Check.append(x, "A"), 40);
        Check.same("parse of a syntax error", x.parse(20), Check.error(20, 1));
        Check.sameText("after a syntax error", Check.all(x), before);
        Check.same("append after a syntax error", Check.append(x, HEAD), 20);
        Check.same("snapshot 1 after a syntax error", x.restoreSnapshot(1), true);
        x.setDuplex(false);
        Check.same("parse anew", x.parse(13), 0);
        Check.sameText("after parse", Check.all(x), Check.all(new PageFeeder()));
        Check.same("snapshot 1 after parse", x.restoreSnapshot(1), false);
        Check.same("undo after parse", x.undo(), -1);
        Check.throwsArgument("parse of an emptied buffer", () -> x.parse(1));
        // The sheets of an earlier text must not shine through.
        Check.parse(x, HEAD + "code 3 60 40 -9 stuck 8;");
        Check.parse(x, HEAD + "sheet 50 30 0 0 0;");
        Check.parse(x, HEAD + "sheet 50 30 90 0 0;");
        x.feed(1);
        Check.parse(x, HEAD + "sheet 50 30 0 0 0;");
        Check.same("a half behind parse", x.isHalf(0), false);
        Check.same("halves behind parse", x.size(10), 0);
        int[] plain = {50, 30, 0, 0, 0, -1, -1, 0};
        for (int what = 0; what < plain.length; what++) {
            Check.same("sheet 0 what " + what, x.sheet(0, what), plain[what]);
        }
    }

    // Promise 4
    private static void size() {
        PageFeeder x = Check.feeder("feeder 300 100;limits 150 20 30 1;simplex;sheet 300 100 0 5 5;again 2;"
                + "code 4 300 110 0;sheet 300 120 31 5 5 stuck 1;sheet 300 30 0 0 0;");
        int[] first = {6, 6, 0, 0, 0, 1, 0, 300, 100, 100, 0, 0};
        x.size(0);
        sizes(x, first);
        x.feed(5);
        int[] stopped = {6, 0, 2, 3, 3, 2, 0, 300, 100, 102, 1, 1};
        sizes(x, stopped);
        Check.throwsArgument("size(-1)", () -> x.size(-1));
        Check.throwsArgument("size(12)", () -> x.size(12));
    }

    private static void sizes(PageFeeder x, int[] want) {
        for (int what = 0; what < want.length; what++) {
            Check.same("size(" + what + ")", x.size(what), want[what]);
        }
    }

    // Promise 5
    private static void limit() {
        PageFeeder x = new PageFeeder();
        int[] usual = {150, 20, 30, 5};
        PageFeeder y = Check.feeder(HEAD + "limits 111 22 33 44;");
        int[] told = {111, 22, 33, 44};
        for (int what = 0; what < 4; what++) {
            Check.same("limit " + what, x.limit(what), usual[what]);
            Check.same("limit " + what + " of the text", y.limit(what), told[what]);
        }
        Check.throwsArgument("limit(-1)", () -> x.limit(-1));
        Check.throwsArgument("limit(4)", () -> x.limit(4));
    }

    // Promise 6
    private static void sheet() {
        PageFeeder x = Check.feeder("feeder 300 100;sheet 310 101 -13 7 8 stuck 9;code 12 290 99 14 stuck 0;again 1;"
                + "sheet 300 100 0 1000 999;");
        int[][] want = {{310, 101, -13, 7, 8, -1, 9, 0}, {290, 99, 14, 0, 0, 12, 0, 0},
            {290, 99, 14, 0, 0, 12, 0, 0}, {300, 100, 0, 1000, 999, -1, -1, 0}};
        for (int s = 0; s < 4; s++) {
            for (int what = 0; what < 8; what++) {
                Check.same("sheet(" + s + ", " + what + ")", x.sheet(s, what), want[s][what]);
            }
        }
        Check.throwsIndex("sheet(-1, 0)", () -> x.sheet(-1, 0));
        Check.throwsIndex("sheet(4, 0)", () -> x.sheet(4, 0));
        Check.throwsIndex("sheet(4, 8)", () -> x.sheet(4, 8));
        Check.throwsArgument("sheet(0, -1)", () -> x.sheet(0, -1));
        Check.throwsArgument("sheet(3, 8)", () -> x.sheet(3, 8));
        PageFeeder y = Check.feeder(MIXED);
        y.setLimit(0, 300);
        y.feed(9);
        int[] where = {2, 2, 5, 4, 1};
        for (int s = 0; s < 5; s++) {
            Check.same("where " + s, y.sheet(s, 7), where[s]);
        }
        y.remove();
        Check.same("where a removed sheet is", y.sheet(4, 7), 6);
        Check.same("an offset behind a pick", y.sheet(1, 6), 5);
    }

    // Promises 7 and 8
    private static void stackAndPath() {
        PageFeeder x = Check.feeder(MIXED);
        Check.same("stack(0)", x.stack(0), 0);
        Check.same("stack(4)", x.stack(4), 4);
        Check.same("stack(5)", x.stack(5), -1);
        Check.same("stack(-1)", x.stack(-1), -1);
        Check.same("stack(least)", x.stack(Integer.MIN_VALUE), -1);
        Check.same("stack(greatest)", x.stack(Integer.MAX_VALUE), -1);
        Check.same("path(0) without a stop", x.path(0), -1);
        x.feed(9);
        Check.same("stack(0) behind a stop", x.stack(0), 3);
        Check.same("stack(2) behind a stop", x.stack(2), -1);
        Check.same("path(0)", x.path(0), 1);
        Check.same("path(1)", x.path(1), 2);
        Check.same("path(2)", x.path(2), -1);
        Check.same("path(-1)", x.path(-1), -1);
        Check.same("path(greatest)", x.path(Integer.MAX_VALUE), -1);
        x.putBack();
        Check.same("path(0) put back", x.path(0), -1);
        Check.same("stack(0) put back", x.stack(0), 1);
        Check.same("stack(1) put back", x.stack(1), 2);
    }

    // Promise 9
    private static void page() {
        PageFeeder x = Check.feeder(MIXED);
        Check.throwsIndex("page(0, 0) without pages", () -> x.page(0, 0));
        x.setLimit(0, 300);
        x.setLimit(2, 99);
        Check.same("feed(9)", x.feed(9), 4);
        int[][] want = {{0, 0, 0}, {0, 1, 0}, {1, 0, 0}, {1, 1, 0}, {4, 0, 1}};
        Check.same("pages", x.size(4), 5);
        for (int p = 0; p < 5; p++) {
            for (int what = 0; what < 3; what++) {
                Check.same("page(" + p + ", " + what + ")", x.page(p, what), want[p][what]);
            }
        }
        Check.throwsIndex("page(-1, 9)", () -> x.page(-1, 9));
        Check.throwsIndex("page(5, 9)", () -> x.page(5, 9));
        Check.throwsArgument("page(0, -1)", () -> x.page(0, -1));
        Check.throwsArgument("page(0, 3)", () -> x.page(0, 3));
        // An ink that is the blank is not blank.
        PageFeeder y = Check.feeder(HEAD + "sheet 50 30 0 4 5;sheet 50 30 0 5 4;sheet 50 30 0 4 4;");
        y.feed(9);
        Check.same("pages with the inks 4 and 5", y.size(4), 2);
        Check.same("side of page 0", y.page(0, 1), 1);
        Check.same("side of page 1", y.page(1, 1), 0);
        Check.same("the blank sheet is dropped", y.sheet(2, 7), 3);
    }

    // Promise 10
    private static void job() {
        PageFeeder x = Check.feeder(HEAD + "sheet 50 30 0 10 10;sheet 50 30 0 10 0;sheet 50 30 0 0 0;"
                + "code 5 50 30 0;code 6 50 30 0;sheet 50 30 0 9 9;again 2;");
        Check.same("job(0, 0)", x.job(0, 0), -1);
        Check.throwsIndex("job(1, 0) at first", () -> x.job(1, 0));
        x.feed(9);
        int[][] want = {{-1, 3, 0, 2}, {5, 0, -1, 0}, {6, 6, 3, 3}};
        for (int j = 0; j < 3; j++) {
            for (int what = 0; what < 4; what++) {
                Check.same("job(" + j + ", " + what + ")", x.job(j, what), want[j][what]);
            }
        }
        PageFeeder simplex = Check.feeder(HEAD + "simplex;sheet 50 30 0 10 10;again 2;");
        simplex.feed(9);
        Check.same("sheets of three pages in simplex", simplex.job(0, 3), 3);
        Check.throwsIndex("job(3, 9)", () -> x.job(3, 9));
        Check.throwsIndex("job(-1, 0)", () -> x.job(-1, 0));
        Check.throwsArgument("job(0, 4)", () -> x.job(0, 4));
        Check.throwsArgument("job(0, -1)", () -> x.job(0, -1));
    }

    // Promise 11
    private static void isHalf() {
        PageFeeder x = Check.feeder(HEAD + "sheet 50 30 31 0 0;code 1 50 30 31;");
        Check.same("isHalf ahead of the pick", x.isHalf(0), false);
        x.feed(1);
        Check.same("isHalf in the path", x.isHalf(0), true);
        Check.throwsIndex("isHalf(2)", () -> x.isHalf(2));
        Check.throwsIndex("isHalf(-1)", () -> x.isHalf(-1));
        x.putBack();
        Check.same("isHalf put back", x.isHalf(0), true);
        Check.same("it goes through", x.feed(2), 1);
        Check.same("isHalf gone through", x.isHalf(0), false);
        Check.same("a half that was replaced, though blank", x.account(5), 1);
        Check.same("a code sheet stops, too", x.size(3), 3);
        Check.same("a code sheet is no half", x.isHalf(1), false);
        Check.same("halves", x.size(10), 0);
        PageFeeder y = Check.feeder(HEAD + "sheet 50 90 31 9 9;");
        y.feed(1);
        Check.same("no half by another stop", y.isHalf(0), false);
    }

    // Promise 12
    private static void next() {
        PageFeeder x = Check.feeder("feeder 300 100;limits 300 200 30 5;sheet 300 50 31 9 9 stuck 40;"
                + "sheet 200 51 0 9 9 stuck 30;sheet 290 52 99 9 9;");
        int[] want = {3, 153, 360, 3, 2};
        for (int what = 0; what < 5; what++) {
            Check.same("next(" + what + ")", x.next(what), want[what]);
        }
        x.setDuplex(false);
        Check.same("next(4) in simplex", x.next(4), 1);
        x.setLimit(3, 10);
        Check.same("next(4) with blank sides", x.next(4), 0);
        Check.same("next changes nothing", x.size(1), 3);
        Check.throwsArgument("next(-1)", () -> x.next(-1));
        Check.throwsArgument("next(5)", () -> x.next(5));
        x.feed(1);
        Check.same("next(0) of an empty stack", x.next(0), -1);
        Check.same("next(3) of an empty stack", x.next(3), -1);
        Check.throwsArgument("next(5) of an empty stack", () -> x.next(5));
        // A sheet inside of the others does not make the pick longer; the last one may be stuck to nothing.
        PageFeeder y = Check.feeder("feeder 300 100;sheet 500 50 0 9 9 stuck 1;sheet 50 51 0 9 9 stuck 400;");
        Check.same("the sheets", y.next(0), 2);
        Check.same("the length is that of the first one", y.next(2), 500);
        // A code sheet has no pages, also with blank 0.
        PageFeeder z = Check.feeder(HEAD + "limits 150 20 30 0;sheet 50 90 0 0 0;code 1 50 30 0;");
        z.feed(1);
        Check.same("next(4) of a code sheet behind a stop", z.next(4), 0);
        Check.same("next(0) behind a stop", z.next(0), 1);
        Check.same("next(3) behind a stop", z.next(3), 0);
    }

    private static void reason(String sheet, int want) {
        PageFeeder x = Check.feeder("feeder 300 100;limits 150 20 30 5;" + sheet);
        Check.same("the reason for " + sheet, x.next(3), want);
        Check.same("going through of " + sheet, x.feed(1), want == 0 ? 1 : 0);
        Check.same("the stop for " + sheet, x.size(3), want);
    }

    private static void nextReasons() {
        reason("sheet 300 150 0 9 9;", 0);
        reason("sheet 300 151 0 9 9;", 1);
        reason("sheet 320 100 0 9 9;", 0);
        reason("sheet 321 100 0 9 9;", 2);
        reason("sheet 280 100 0 9 9;", 0);
        reason("sheet 279 100 0 9 9;", 2);
        reason("sheet 300 100 30 9 9;", 0);
        reason("sheet 300 100 31 9 9;", 3);
        reason("sheet 300 100 -30 9 9;", 0);
        reason("sheet 300 100 -31 9 9;", 3);
        reason("sheet 400 151 99 9 9;", 1);
        reason("sheet 400 150 99 9 9;", 2);
        reason("sheet 300 75 0 9 9 stuck 20;sheet 300 75 99 9 9;", 0);
        reason("sheet 300 75 0 9 9 stuck 21;sheet 300 75 99 9 9;", 2);
        reason("code 3 300 100 -31;", 3);
    }

    // Promise 13
    private static void ahead() {
        // 100 is usual: a pair of 101, a single of 130, a pair of 120 and a blank one, a skewed one.
        PageFeeder x = Check.feeder("feeder 300 100;sheet 300 50 0 9 9 stuck 0;sheet 300 51 0 9 9;sheet 300 130 0 9 9;"
                + "sheet 300 60 0 9 0 stuck 0;sheet 300 60 0 9 9;sheet 300 100 50 9 9;sheet 300 100 0 9 9;");
        // With 101 the single and the second pair stop; with 130 all go through but for the skewed one.
        aheadIs(x, 101, new int[] {2, 1, 1, 4, 4});
        aheadIs(x, 119, new int[] {2, 1, 1, 4, 4});
        aheadIs(x, 120, new int[] {1, 1, 2, 5, 2});
        aheadIs(x, 130, new int[] {0, 0, 2, 7, 1});
        aheadIs(x, 300, new int[] {0, 0, 2, 7, 1});
        Check.same("ahead changes nothing", x.size(1), 7);
        x.setLimit(0, 101);
        x.feed(9);
        Check.same("the single stops", x.path(0), 2);
        aheadIs(x, 101, new int[] {1, 0, 0, 2, 3});
        aheadIs(x, 200, new int[] {0, 0, 1, 3, 1});
        Check.same("it is stopped still", x.size(3), 1);
        x.setDuplex(false);
        aheadIs(x, 200, new int[] {0, 0, 1, 2, 1});
        Check.throwsArgument("ahead(100, 0)", () -> x.ahead(100, 0));
        Check.throwsArgument("ahead(301, 0)", () -> x.ahead(301, 0));
        Check.throwsArgument("ahead(101, -1)", () -> x.ahead(101, -1));
        Check.throwsArgument("ahead(101, 5)", () -> x.ahead(101, 5));
        aheadIs(new PageFeeder(), 101, new int[] {0, 0, 0, 0, 0});
        // Each good pick alters the usual thickness for those behind it.
        PageFeeder y = Check.feeder("feeder 300 100;sheet 300 120 0 9 9;sheet 300 132 0 9 9;sheet 300 150 0 9 9;");
        aheadIs(y, 120, new int[] {0, 0, 0, 6, 0});
        aheadIs(y, 119, new int[] {3, 3, 0, 0, 3});
    }

    private static void aheadIs(PageFeeder x, int percent, int[] want) {
        for (int what = 0; what < 5; what++) {
            Check.same("ahead(" + percent + ", " + what + ")", x.ahead(percent, what), want[what]);
        }
    }

    // Promise 14
    private static void bestPercent() {
        Check.same("of an empty stack", new PageFeeder().bestPercent(), 101);
        String single = "sheet 300 130 0 9 9;";
        String pair = "sheet 300 70 0 9 9 stuck 0;sheet 300 70 0 9 9;";
        Check.same("of a single of 130", Check.feeder("feeder 300 100;" + single).bestPercent(), 130);
        Check.same("of a pair of 140", Check.feeder("feeder 300 100;" + pair).bestPercent(), 101);
        Check.same("of both", Check.feeder("feeder 300 100;" + pair + single).bestPercent(), 130);
        Check.same("of 300", Check.feeder("feeder 300 100;sheet 300 300 0 9 9;").bestPercent(), 300);
        Check.same("of 301, which stops always", Check.feeder("feeder 300 100;sheet 300 301 0 9 9;").bestPercent(), 101);
        PageFeeder x = Check.feeder("feeder 300 100;sheet 300 110 0 9 9;sheet 300 124 9 9 9;sheet 300 119 0 9 9;" + pair
                + "sheet 300 90 0 9 9;sheet 300 177 0 9 9;" + pair + "sheet 300 133 0 9 9;");
        int best = 101;
        for (int percent = 101; percent <= 300; percent++) {
            if (mistakes(x, percent) < mistakes(x, best)) {
                best = percent;
            }
        }
        Check.same("of many", x.bestPercent(), best);
        // The mistakes are the fewest in the midst of the range, first at a percent that is rounded up.
        Check.same("of thirds", Check.feeder("feeder 300 90;sheet 300 60 0 9 9 stuck 1;"
                + "sheet 300 90 0 9 9;sheet 300 119 0 9 9;").bestPercent(), 133);
    }

    private static int mistakes(PageFeeder x, int percent) {
        return x.ahead(percent, 1) + x.ahead(percent, 2);
    }

    // Promise 15
    private static void blankFor() {
        PageFeeder x = Check.feeder(HEAD + "simplex;sheet 50 30 0 0 1000;sheet 50 30 0 7 7;code 5 50 30 0;sheet 50 30 0 999 3;");
        int[] want = {0, 1, 4, 8, 8, 1000, -1, -1};
        for (int sides = 0; sides < want.length; sides++) {
            Check.same("blankFor(" + sides + ")", x.blankFor(sides), want[sides]);
        }
        x.feed(9);
        Check.same("blankFor(2) of fed sheets", x.blankFor(2), 4);
        Check.same("blankFor(80)", x.blankFor(80), -1);
        Check.throwsArgument("blankFor(-1)", () -> x.blankFor(-1));
        Check.throwsArgument("blankFor(81)", () -> x.blankFor(81));
        PageFeeder full = Check.feeder(HEAD + "sheet 50 30 0 4 5;again 39;");
        Check.same("blankFor(80) of 40 sheets", full.blankFor(80), 6);
        Check.same("blankFor(40) of 40 sheets", full.blankFor(40), 5);
        Check.same("blankFor(0) of a new object", new PageFeeder().blankFor(0), 0);
        Check.same("blankFor(1) of a new object", new PageFeeder().blankFor(1), -1);
    }

    // Promise 16
    private static void account() {
        PageFeeder x = Check.feeder("feeder 300 100;limits 150 20 10 5;sheet 300 160 0 9 9;sheet 330 100 0 9 9;"
                + "sheet 300 100 44 9 9;sheet 300 50 0 9 9 stuck 2;sheet 300 50 0 9 9;sheet 300 100 11 9 9;code 1 300 100 0;");
        accounts(x, new int[] {0, 0, 0, 0, 0, 0, 0, 0, 0});
        x.feed(1);
        x.accept();
        accounts(x, new int[] {1, 1, 0, 0, 0, 0, 0, 0, 1});
        x.feed(1);
        x.remove();
        accounts(x, new int[] {2, 1, 1, 0, 0, 0, 0, 0, 1});
        x.feed(1);
        x.putBack();
        x.feed(1);
        x.putBack();
        // The skew is 44, 22, 11, 5: the third half is held in place of the second one.
        x.feed(1);
        x.putBack();
        accounts(x, new int[] {5, 1, 1, 3, 0, 0, 0, 3, 1});
        Check.same("it goes through now, and the pair", x.feed(2), 2);
        accounts(x, new int[] {7, 1, 1, 3, 1, 1, 0, 3, 1});
        Check.same("a half again", x.feed(3), 0);
        x.remove();
        accounts(x, new int[] {8, 1, 1, 4, 1, 1, 1, 3, 1});
        Check.same("the code sheet", x.feed(3), 1);
        accounts(x, new int[] {9, 1, 1, 4, 2, 1, 1, 3, 1});
        Check.throwsArgument("account(-1)", () -> x.account(-1));
        Check.throwsArgument("account(9)", () -> x.account(9));
        Check.parse(x, HEAD);
        accounts(x, new int[] {0, 0, 0, 0, 0, 0, 0, 0, 0});
    }

    private static void accounts(PageFeeder x, int[] want) {
        for (int what = 0; what < want.length; what++) {
            Check.same("account(" + what + ")", x.account(what), want[what]);
        }
    }

    // Promise 17
    private static void sheetsAt() {
        PageFeeder x = Check.feeder("feeder 300 100;limits 200 20 30 5;sheet 300 100 0 9 9;again 1;sheet 300 100 0 0 0;"
                + "code 3 300 100 0;sheet 300 90 0 9 9 stuck 3;sheet 300 100 0 9 9 stuck 3;sheet 300 100 0 9 9;"
                + "sheet 300 50 0 9 9 stuck 3;code 4 300 50 0;again 2;");
        x.feed(9);
        Check.same("the triple stops", x.size(2), 3);
        where(x, new int[] {4, 3, 2, 1, 1, 0, 0});
        x.remove();
        where(x, new int[] {4, 0, 2, 1, 1, 0, 3});
        x.feed(2);
        // The pair hides a code sheet, which then ends no job.
        where(x, new int[] {1, 0, 3, 1, 2, 1, 3});
        Check.same("jobs", x.size(5), 3);
        Check.throwsArgument("sheetsAt(-1)", () -> x.sheetsAt(-1));
        Check.throwsArgument("sheetsAt(7)", () -> x.sheetsAt(7));
    }

    private static void where(PageFeeder x, int[] want) {
        for (int where = 0; where < want.length; where++) {
            Check.same("sheetsAt(" + where + ")", x.sheetsAt(where), want[where]);
        }
    }

    // Promise 18
    private static void meanInk() {
        PageFeeder x = Check.feeder(HEAD + "sheet 50 30 0 10 4;sheet 50 30 0 6 1000;sheet 50 30 0 0 5;");
        Check.sameDouble("without pages", x.meanInk(), 0.0);
        x.feed(1);
        Check.sameDouble("of one page", x.meanInk(), 10.0);
        x.feed(1);
        Check.sameDouble("of three pages", x.meanInk(), 1016.0 / 3);
        x.feed(1);
        Check.sameDouble("of four pages", x.meanInk(), 1021.0 / 4);
    }

    // Promise 19
    private static void feed() {
        PageFeeder x = Check.feeder(MIXED);
        Check.throwsArgument("feed(0)", () -> x.feed(0));
        Check.throwsArgument("feed(41)", () -> x.feed(41));
        Check.throwsArgument("feed(-5)", () -> x.feed(-5));
        Check.same("a refused feed is no change", x.size(11), 0);
        Check.same("feed(1)", x.feed(1), 1);
        Check.same("feed(40) till the stop", x.feed(40), 0);
        Check.same("the reason", x.size(3), 1);
        String before = Check.all(x);
        Check.throwsState("feed while stopped", () -> x.feed(1));
        Check.throwsArgument("feed(41) while stopped", () -> x.feed(41));
        Check.sameText("after a refused feed", Check.all(x), before);
        x.remove();
        Check.same("feed(1) of a code sheet", x.feed(1), 1);
        Check.same("a job begins", x.size(5), 2);
        Check.same("feed(1) of the skewed one", x.feed(1), 0);
        x.remove();
        Check.same("feed of an empty stack", x.feed(40), 0);
        Check.same("changes", x.size(11), 7);
        Check.same("feed(40) of 40 sheets", Check.feeder(HEAD + SHEET + "again 39;").feed(40), 40);
        PageFeeder y = Check.feeder(HEAD + SHEET + "again 39;");
        Check.same("feed(3)", y.feed(3), 3);
        Check.same("three were picked", y.size(1), 37);
    }

    private static void usualThickness() {
        PageFeeder x = Check.feeder("feeder 300 100;limits 300 0 0 0;sheet 300 110 0 9 9;sheet 300 111 0 9 9;"
                + "sheet 300 60 0 9 9 stuck 0;sheet 300 60 0 9 9;sheet 300 99 0 9 9;code 1 300 33 0;sheet 300 200 0 9 9;"
                + "sheet 300 144 0 9 9;sheet 300 155 0 9 9;sheet 300 166 0 9 9;sheet 300 500 0 9 9;");
        int[] usual = {110, 110, 110, 106, 88, 110, 116, 123, 132};
        for (int k = 0; k < usual.length; k++) {
            x.feed(1);
            Check.same("usual thickness after pick " + k, x.size(9), usual[k]);
        }
        x.feed(1);
        Check.same("500 is more than 300 percent of 132", x.size(3), 1);
        x.accept();
        Check.same("an accepted pick is not good", x.size(9), 132);
    }

    // Promise 20
    private static void putBack() {
        PageFeeder x = Check.feeder("feeder 300 50;sheet 300 50 0 9 9;sheet 300 50 -45 9 9 stuck 3;"
                + "sheet 300 50 -77 9 9 stuck 4;code 8 300 50 9;again 1;");
        Check.throwsState("putBack without a stop", x::putBack);
        Check.same("a refused putBack is no change", x.size(11), 0);
        x.feed(2);
        Check.same("three in the path", x.size(2), 3);
        Check.same("putBack", x.putBack(), 4);
        Check.same("no stop", x.size(3), 0);
        int[][] want = {{-22, -1, 0}, {-77, -1, 0}, {9, -1, 0}};
        for (int s = 1; s <= 3; s++) {
            Check.same("skew of " + s, x.sheet(s, 2), want[s - 1][0]);
            Check.same("offset of " + s, x.sheet(s, 6), want[s - 1][1]);
            Check.same("where " + s + " is", x.sheet(s, 7), want[s - 1][2]);
            Check.same("stack", x.stack(s - 1), s);
        }
        Check.throwsState("putBack once more", x::putBack);
        Check.same("now it goes through alone", x.feed(1), 1);
        Check.same("the next is skewed", x.feed(1), 0);
        x.putBack();
        Check.same("-77 halved", x.sheet(2, 2), -38);
        x.feed(1);
        x.putBack();
        Check.same("-38 halved", x.sheet(2, 2), -19);
        Check.same("sheets that were put back", x.account(7), 5);
        // The last sheet of the stack is not stuck to anything after it was put back, either.
        PageFeeder y = Check.feeder(HEAD + "sheet 50 90 1 9 9 stuck 3;");
        y.feed(1);
        Check.same("putBack of the last sheet", y.putBack(), 1);
        Check.same("its offset", y.sheet(0, 6), -1);
        Check.same("its skew", y.sheet(0, 2), 0);
    }

    // Promise 21
    private static void remove() {
        PageFeeder x = Check.feeder("feeder 300 100;sheet 300 50 40 9 9 stuck 2;sheet 300 50 0 9 9;sheet 300 160 0 9 9;");
        Check.throwsState("remove without a stop", x::remove);
        x.feed(1);
        Check.same("a half", x.isHalf(0), true);
        Check.same("remove", x.remove(), 2);
        Check.same("no half", x.isHalf(0), false);
        Check.same("where 0 is", x.sheet(0, 7), 6);
        Check.same("where 1 is", x.sheet(1, 7), 6);
        Check.same("the path", x.path(0), -1);
        Check.same("thrown away", x.account(6), 1);
        Check.same("no stop", x.size(3), 0);
        Check.same("no pages", x.size(4), 0);
        Check.throwsState("remove once more", x::remove);
        x.feed(1);
        Check.same("remove of a thick one", x.remove(), 1);
        Check.same("nothing more thrown away", x.account(6), 1);
        Check.same("changes", x.size(11), 4);
    }

    // Promise 22
    private static void accept() {
        PageFeeder x = Check.feeder("feeder 300 100;sheet 300 160 99 9 9;sheet 340 100 0 0 9 stuck 1;code 9 300 50 0;"
                + "code 7 330 100 0;sheet 330 100 0 9 0;sheet 300 100 31 9 9;");
        Check.throwsState("accept without a stop", x::accept);
        x.feed(1);
        Check.same("accept of a thick and skewed one", x.accept(), 2);
        Check.same("it is out", x.sheet(0, 7), 2);
        Check.same("not good", x.account(4), 0);
        Check.same("not usual", x.size(9), 100);
        x.feed(1);
        Check.same("accept of a pair", x.accept(), 1);
        Check.same("its second one is hidden", x.sheet(2, 7), 5);
        Check.same("a hidden code sheet ends no job", x.size(5), 1);
        x.feed(1);
        Check.same("accept of a code sheet", x.accept(), 0);
        Check.same("it went through", x.sheet(3, 7), 4);
        Check.same("its code", x.job(1, 0), 7);
        x.feed(1);
        x.setLimit(3, 10);
        Check.same("accept of what is blank now", x.accept(), 0);
        Check.same("it is dropped", x.sheet(4, 7), 3);
        Check.same("accepted", x.account(8), 4);
        Check.same("picks", x.account(0), 4);
        x.feed(1);
        int changes = x.size(11);
        Check.throwsState("accept of a skewed one", x::accept);
        Check.same("changes", x.size(11), changes);
        Check.same("still stopped", x.size(3), 3);
        // A half is replaced when its sheet is accepted after another stop.
        x.putBack();
        x.setLimit(1, 0);
        x.setLimit(0, 101);
        Check.parse(x, "feeder 300 100;sheet 310 100 31 9 9;");
        x.feed(1);
        x.putBack();
        x.setLimit(1, 0);
        x.feed(1);
        Check.same("the stop for its length", x.size(3), 2);
        Check.same("the half is held still", x.size(10), 1);
        Check.same("accept", x.accept(), 2);
        Check.same("the half is replaced", x.account(5), 1);
        Check.same("no half", x.size(10), 0);
    }

    // Promise 23
    private static void endJob() {
        PageFeeder x = Check.feeder(HEAD + SHEET + "sheet 50 90 0 9 9;code 3 50 30 0;");
        Check.throwsArgument("endJob(-1)", () -> x.endJob(-1));
        Check.throwsArgument("endJob(1000)", () -> x.endJob(1000));
        Check.same("endJob(0)", x.endJob(0), 1);
        x.feed(2);
        Check.same("the job of the page", x.page(0, 2), 1);
        Check.same("endJob(999) while stopped", x.endJob(999), 2);
        Check.same("its code", x.job(2, 0), 999);
        x.accept();
        Check.same("the job of the accepted page", x.page(2, 2), 2);
        for (int job = 3; job <= 98; job++) {
            Check.same("endJob", x.endJob(job), job);
        }
        Check.throwsState("endJob with 99 jobs", () -> x.endJob(5));
        Check.throwsArgument("endJob(1000) with 99 jobs", () -> x.endJob(1000));
        Check.same("jobs", x.size(5), 99);
        // Only endJob is told to refuse; code sheets still begin jobs.
        x.feed(1);
        Check.same("jobs by a code sheet", x.size(5), 100);
        Check.throwsState("endJob with 100 jobs", () -> x.endJob(5));
        PageFeeder most = Check.feeder(HEAD + "code 3 50 30 0;again 39;");
        for (int job = 1; job <= 98; job++) {
            most.endJob(job);
        }
        Check.same("40 code sheets", most.feed(40), 40);
        Check.same("139 jobs", most.size(5), 139);
        Check.same("the last job's code", most.job(138, 0), 3);
    }

    // Promise 24
    private static void setLimit() {
        PageFeeder x = new PageFeeder();
        int[] usual = {150, 20, 30, 5};
        int[] least = {101, 0, 0, 0};
        int[] greatest = {300, 200, 99, 1000};
        for (int w = 0; w < 4; w++) {
            int what = w;
            Check.same("setLimit to the least", x.setLimit(what, least[what]), usual[what]);
            Check.same("setLimit to the greatest", x.setLimit(what, greatest[what]), least[what]);
            Check.throwsArgument("setLimit below", () -> x.setLimit(what, least[what] - 1));
            Check.throwsArgument("setLimit above", () -> x.setLimit(what, greatest[what] + 1));
            Check.same("limit", x.limit(what), greatest[what]);
        }
        Check.same("changes", x.size(11), 8);
        Check.throwsArgument("setLimit(-1, 101)", () -> x.setLimit(-1, 101));
        Check.throwsArgument("setLimit(4, 101)", () -> x.setLimit(4, 101));
        Check.same("changes after refused ones", x.size(11), 8);
    }

    // Promise 25
    private static void setDuplex() {
        PageFeeder x = Check.feeder(HEAD + SHEET + "again 2;");
        Check.same("setDuplex(true)", x.setDuplex(true), true);
        Check.same("a change that alters nothing", x.size(11), 1);
        x.feed(1);
        Check.same("setDuplex(false)", x.setDuplex(false), true);
        x.feed(1);
        Check.same("three pages", x.size(4), 3);
        Check.same("setDuplex(false) again", x.setDuplex(false), false);
        Check.same("setDuplex(true) again", x.setDuplex(true), false);
        x.feed(1);
        Check.same("five pages", x.size(4), 5);
        Check.same("duplex", x.size(6), 1);
    }

    // Promise 26
    private static void undo() {
        PageFeeder x = Check.feeder(MIXED);
        String[] states = new String[16];
        states[0] = Check.allButUndo(x);
        x.feed(1);
        states[1] = Check.allButUndo(x);
        x.feed(1);
        states[2] = Check.allButUndo(x);
        x.accept();
        states[3] = Check.allButUndo(x);
        x.endJob(17);
        states[4] = Check.allButUndo(x);
        x.feed(2);
        states[5] = Check.allButUndo(x);
        x.putBack();
        states[6] = Check.allButUndo(x);
        x.setLimit(2, 3);
        states[7] = Check.allButUndo(x);
        x.feed(40);
        states[8] = Check.allButUndo(x);
        x.remove();
        states[9] = Check.allButUndo(x);
        x.setDuplex(false);
        for (int k = 9; k >= 0; k--) {
            Check.same("undo", x.undo(), k);
            Check.sameText("the state after undo " + k, Check.allButUndo(x), states[k]);
        }
        Check.same("undo of nothing", x.undo(), -1);
        // Only the latest ten; new changes behind an undo push the older ones out again.
        for (int value = 101; value <= 113; value++) {
            x.setLimit(0, value);
        }
        Check.same("ten can be undone", x.size(11), 10);
        Check.same("undo", x.undo(), 9);
        Check.same("undo", x.undo(), 8);
        x.setLimit(0, 200);
        Check.same("nine can be undone", x.size(11), 9);
        for (int k = 8; k >= 0; k--) {
            Check.same("undo", x.undo(), k);
            Check.same("percent", x.limit(0), 103 + k);
        }
        Check.same("undo of nothing", x.undo(), -1);
        Check.same("percent", x.limit(0), 103);
    }

    private static void undoOfPutBack() {
        PageFeeder x = Check.feeder(MIXED);
        x.feed(9);
        String stopped = Check.allButUndo(x);
        x.putBack();
        Check.same("a sheet that was put back is not stuck", x.next(0), 1);
        x.undo();
        Check.sameText("behind the undo of putBack", Check.allButUndo(x), stopped);
        Check.same("it is stuck again", x.sheet(1, 6), 5);
        Check.same("remove of both", x.remove(), 2);
    }

    /** Restores a snapshot after what went on in another way than it does then. */
    private static void snapshotOfRows() {
        PageFeeder x = Check.feeder("feeder 300 100;limits 300 20 30 5;code 5 300 100 0;sheet 300 120 0 9 9;again 7;"
                + "sheet 300 70 0 9 9;again 6;sheet 300 200 40 9 9 stuck 7;sheet 300 150 0 9 9;");
        x.feed(8);
        x.saveSnapshot(0);
        x.setDuplex(false);
        x.feed(40);
        x.putBack();
        x.feed(1);
        x.saveSnapshot(1);
        String simplex = Check.allButUndo(x);
        x.restoreSnapshot(0);
        x.endJob(77);
        x.feed(40);
        x.restoreSnapshot(1);
        Check.sameText("the pages of simplex", Check.allButUndo(x), simplex);
        x.undo();
        String before = Check.allButUndo(x);
        x.setLimit(3, 1000);
        x.undo();
        Check.sameText("behind an undo", Check.allButUndo(x), before);
    }

    /** The greatest feeder: every row is full. */
    private static void fullRows() {
        PageFeeder x = Check.feeder("feeder 300 100;limits 101 20 30 5;sheet 300 100 99 9 9 stuck 400;again 39;");
        Check.same("sheets of the pick", x.next(0), 40);
        Check.same("its length", x.next(2), 39 * 400 + 300);
        Check.same("feed", x.feed(1), 0);
        Check.same("halves of 40", x.size(10), 0);
        Check.same("path(39)", x.path(39), 39);
        Check.same("path(40)", x.path(40), -1);
        Check.same("stopped with an empty stack", x.next(0), -1);
        Check.same("putBack", x.putBack(), 40);
        Check.same("stack(39)", x.stack(39), 39);
        Check.same("stack(40)", x.stack(40), -1);
        x.setLimit(2, 99);
        Check.same("feed of all", x.feed(40), 40);
        Check.same("pages", x.size(4), 80);
        Check.same("the last page", x.page(79, 0), 39);
        Check.throwsIndex("page(80, 0)", () -> x.page(80, 0));
        Check.same("sheets of the job", x.job(0, 3), 40);
        Check.same("out", x.sheetsAt(2), 40);
        Check.same("isHalf(39)", x.isHalf(39), false);
        Check.throwsIndex("isHalf(40)", () -> x.isHalf(40));
        Check.throwsIndex("sheet(40, 0)", () -> x.sheet(40, 0));
        Check.same("undo", x.undo(), 3);
        Check.same("ahead of all", x.ahead(101, 3), 80);
    }

    // Promises 27 and 28
    private static void snapshots() {
        PageFeeder x = Check.feeder(MIXED);
        Check.same("saveSnapshot(2)", x.saveSnapshot(2), false);
        Check.same("saveSnapshot(-1)", x.saveSnapshot(-1), false);
        Check.same("restoreSnapshot(2)", x.restoreSnapshot(2), false);
        Check.same("restoreSnapshot(-1)", x.restoreSnapshot(-1), false);
        Check.same("restoreSnapshot(0) of an empty slot", x.restoreSnapshot(0), false);
        x.feed(2);
        x.setLimit(2, 99);
        String first = Check.allButUndo(x);
        Check.same("saveSnapshot(0)", x.saveSnapshot(0), true);
        Check.same("a snapshot is no change", x.size(11), 2);
        Check.same("restoreSnapshot(1) of an empty slot", x.restoreSnapshot(1), false);
        Check.same("changes stay", x.size(11), 2);
        x.accept();
        x.setDuplex(false);
        x.feed(40);
        x.endJob(3);
        String second = Check.allButUndo(x);
        Check.same("saveSnapshot(1)", x.saveSnapshot(1), true);
        for (int round = 0; round < 2; round++) {
            Check.same("restoreSnapshot(0)", x.restoreSnapshot(0), true);
            Check.same("nothing to undo", x.size(11), 0);
            Check.sameText("the first snapshot", Check.allButUndo(x), first);
            x.remove();
            Check.same("restoreSnapshot(1)", x.restoreSnapshot(1), true);
            Check.same("nothing to undo", x.undo(), -1);
            Check.sameText("the second snapshot", Check.allButUndo(x), second);
        }
        Check.same("saveSnapshot(0) in place of the first", x.saveSnapshot(0), true);
        x.setLimit(3, 77);
        x.undo();
        x.restoreSnapshot(0);
        Check.sameText("the second in slot 0", Check.allButUndo(x), second);
    }
}
