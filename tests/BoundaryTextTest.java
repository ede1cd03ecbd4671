/** The boundary cases of the terms, of TEXT and of the promises 1 to 3: a test for each sentence that names one. */
public final class BoundaryTextTest {
    private static final String HEAD = "feeder 50 30;";
    private static final String SHEET = "sheet 50 30 0 9 9;";
    /** Every statement and every part that may be left out. */
    private static final String[] WHOLE = {"feeder", "50", "30", ";", "sheet", "50", "30", "-", "5", "0", "0", "stuck", "7", ";",
        "code", "5", "50", "30", "-", "5", "stuck", "7", ";", "again", "1", ";", "limits", "150", "20", "30", "5", ";", "simplex", ";"};
    /** What may stand there: f feeder, n a number, w the word of a statement, s stuck, and the signs. */
    private static final String[] MAY = {"f", "n", "n", ";", "w", "n", "n", "-n", "n", "n", "n", ";s", "n", ";",
        "w", "n", "n", "n", "-n", "n", ";s", "n", ";", "w", "n", ";", "w", "n", "n", "n", "n", ";", "w", ";"};

    public static void main(String[] args) {
        Check.about("An object is used for at most 512 calls after it has been made", BoundaryTextTest::call512);
        Check.about("divisions truncate toward zero", BoundaryTextTest::truncate);
        Check.about("Sheets, pages and jobs are numbered from 0", BoundaryTextTest::numberedFrom0);
        Check.about("The input buffer holds at most 700 bytes", BoundaryTextTest::bufferHolds700);
        Check.about("Bytes 32 (space) and 10 (line feed) are white space", BoundaryTextTest::whiteSpace);
        Check.about("they may stand between tokens and are otherwise ignored", BoundaryTextTest::betweenTokens);
        Check.about("a maximal run of lower-case letters a to z, 1 to 8 letters long", BoundaryTextTest::wordLengths);
        Check.about("a maximal run of digits, 1 to 4 digits long", BoundaryTextTest::numberLengths);
        Check.about("Any other byte [..] is an illegal token", BoundaryTextTest::otherBytes);
        Check.about("any longer run, is an illegal token that starts at its first byte", BoundaryTextTest::longerRuns);
        Check.about("\"feeder\" length thick \";\" { statement \";\" }", BoundaryTextTest::noStatements);
        Check.about("sheet\" shape ink ink [ glue ] [..] = length thick [ \"-\" ] skew", BoundaryTextTest::leftOut);
        Check.about("The sheets are put into the stack, each one below those before it", BoundaryTextTest::stackOrder);
        Check.about("\"again\" puts as many more sheets into it as it tells, each like the sheet before", BoundaryTextTest::againIsMore);
        Check.about("limits and simplex can occur once each", BoundaryTextTest::onceEach);
        Check.about("again only if there is a sheet or code somewhere before it (other statements can stand between)",
                BoundaryTextTest::againBehindSheet);
        Check.about("length 50 to 500", BoundaryTextTest::lengthRange);
        Check.about("thick 30 to 500", BoundaryTextTest::thickRange);
        Check.about("skew 0 to 99 (below 0 with the minus sign)", BoundaryTextTest::skewRange);
        Check.about("ink 0 to 1000 (of the front, then of the back)", BoundaryTextTest::inkRange);
        Check.about("number 0 to 999", BoundaryTextTest::codeRange);
        Check.about("offset 0 to 400", BoundaryTextTest::offsetRange);
        Check.about("times 1 to 39", BoundaryTextTest::timesRange);
        Check.about("percent 101 to 300 (150 without the statement)", () -> limitRange(0, 101, 300, 150));
        Check.about("tolerance 0 to 200 (20)", () -> limitRange(1, 0, 200, 20));
        Check.about("edge 0 to 99 (30)", () -> limitRange(2, 0, 99, 30));
        Check.about("blank 0 to 1000 (5)", () -> limitRange(3, 0, 1000, 5));
        Check.about("There are at most 40 sheets", BoundaryTextTest::fortySheets);
        Check.about("The parser reports the error with the lowest byte offset", BoundaryTextTest::lowestOffset);
        Check.about("of several kinds at one offset the lowest", BoundaryTextTest::lowestKind);
        Check.about("1 (syntax): an illegal token", BoundaryTextTest::illegalEverywhere);
        Check.about("a token that cannot continue a feeder", BoundaryTextTest::wrongTokenEverywhere);
        Check.about("if the text ends too early, the offset is the length of the text", BoundaryTextTest::endsEverywhere);
        Check.about("2 (repeated): the word of a second limits or simplex", BoundaryTextTest::repeated);
        Check.about("3 (nothing): the word again without a sheet before it", BoundaryTextTest::nothing);
        Check.about("4 (range): a number that is out of its range", BoundaryTextTest::rangeAtTheNumber);
        Check.about("5 (too many): the word of a 41st sheet (sheet or code)", BoundaryTextTest::word41);
        Check.about("the number of an again that would give more than 40", BoundaryTextTest::again41);
        Check.about("Promise 1: Creates a feeder as by the text \"feeder 50 30;\"", BoundaryTextTest::newObject);
        Check.about("Promise 1: with an empty input buffer", BoundaryTextTest::newBuffer);
        Check.about("Promise 2: each with the most significant byte first", BoundaryTextTest::byteOrder);
        Check.about("Promise 2: Returns the new length of the buffer", BoundaryTextTest::newLength);
        Check.about("Promise 2: NONE, with nothing appended, if the buffer would have more than 700 bytes",
                BoundaryTextTest::nothingAppended);
        Check.about("Promise 3: Parses the first length bytes of the input buffer", BoundaryTextTest::firstBytes);
        Check.about("Promise 3: replaces the current one by it", BoundaryTextTest::replaces);
        Check.about("Promise 3: number of bytes, 0 to the length of the buffer", BoundaryTextTest::parseLengths);
        Check.about("Promise 3: Returns the number of sheets", BoundaryTextTest::numberOfSheets);
        Check.about("Promise 3: -2 - (8 * offset + kind) for a syntax error", BoundaryTextTest::errorAnswers);
        Check.about("Promise 3: After a success or a syntax error the whole buffer is empty", BoundaryTextTest::bufferEmpty);
        Check.about("Promise 3: After a syntax error everything else stays as it is", BoundaryTextTest::errorKeeps);
        Check.about("Promise 3: if length is out of range (the buffer stays as it is)", BoundaryTextTest::bufferStays);
        Check.finish();
    }

    private static String spaces(int count) {
        return " ".repeat(count);
    }

    private static void call512() {
        PageFeeder x = new PageFeeder();
        int calls = 0;
        for (int job = 1; job <= 98; job++, calls++) {
            Check.same("endJob", x.endJob(job), job);
        }
        for (; calls < 508; calls++) {
            Check.same("setLimit", x.setLimit(3, 1000 - calls), calls == 98 ? 5 : 1001 - calls);
        }
        Check.same("call 509: size(11)", x.size(11), 10);
        Check.throwsState("call 510: endJob(0)", () -> x.endJob(0));
        Check.same("call 511: undo", x.undo(), 9);
        Check.same("call 512: limit(3)", x.limit(3), 494);
    }

    private static void truncate() {
        PageFeeder x = Check.feeder("feeder 300 100;sheet 300 100 0 9 9;sheet 300 105 0 9 9;sheet 300 100 -33 9 9;");
        x.feed(2);
        Check.same("the mean of 100 and 105", x.size(9), 102);
        x.feed(1);
        x.putBack();
        Check.same("half of -33", x.sheet(2, 2), -16);
    }

    private static void numberedFrom0() {
        PageFeeder x = Check.feeder(HEAD + SHEET + "code 1 50 30 0;");
        x.feed(40);
        Check.same("sheet 0", x.sheet(0, 5), -1);
        Check.same("sheet 1", x.sheet(1, 5), 1);
        Check.same("page 0 is the front", x.page(0, 1), 0);
        Check.same("page 1 is the back", x.page(1, 1), 1);
        Check.same("job 0", x.job(0, 0), -1);
        Check.same("job 1", x.job(1, 0), 1);
        Check.throwsIndex("sheet 2", () -> x.sheet(2, 0));
        Check.throwsIndex("page 2", () -> x.page(2, 0));
        Check.throwsIndex("job 2", () -> x.job(2, 0));
    }

    private static void bufferHolds700() {
        PageFeeder x = new PageFeeder();
        String text = HEAD + spaces(679) + "simplex;";
        Check.same("bytes of the text", text.length(), 700);
        Check.same("append of 700 bytes", Check.append(x, text), 700);
        Check.same("append of twenty more", x.append(-1, -1, -1, -1, -1), -1);
        Check.same("parse(700)", x.parse(700), 0);
        Check.same("its last word counts", x.size(6), 0);
        Check.same("an error in the last byte", Check.parse(new PageFeeder(), HEAD + spaces(686) + "x"), Check.error(699, 1));
        Check.same("the end of 700 bytes", Check.parse(new PageFeeder(), HEAD + "simplex" + spaces(680)), Check.error(700, 1));
    }

    private static void whiteSpace() {
        Check.sheetsIn(HEAD + " ", 0);
        Check.sheetsIn(HEAD + "\n", 0);
        int[] others = {0, 9, 11, 12, 13, 31, 33, 133, 160, 255};
        for (int other : others) {
            Check.errorIn(HEAD + (char) other, 13, 1);
            Check.errorIn("feeder" + (char) other + "50 30;", 6, 1);
            Check.errorIn((char) other + HEAD, 0, 1);
        }
    }

    private static void betweenTokens() {
        for (String white : new String[] {" ", "\n", "  ", " \n\n ", spaces(12)}) {
            StringBuilder text = new StringBuilder(white);
            for (String token : WHOLE) {
                text.append(token).append(white);
            }
            PageFeeder x = new PageFeeder();
            Check.same("parse with white space everywhere", Check.parse(x, text.toString()), 3);
            Check.same("skew of sheet 2", x.sheet(2, 2), -5);
        }
        // As little as can be: only between two tokens that would be one run.
        Check.sheetsIn("feeder50 30;sheet50 30-5 0 0stuck7;code5 50 30-5stuck7;again1;limits150 20 30 5;simplex;", 3);
        // It parts runs.
        Check.errorIn("fee der 50 30;", 0, 1);
        Check.errorIn("feeder 5 0 30;", 7, 4);
        Check.errorIn("feeder 50 3\n0;", 10, 4);
        Check.errorIn("feeder 50 30 0;", 13, 1);
        Check.errorIn(HEAD + "sim plex;", 13, 1);
        Check.errorIn("feeder 5030;", 7, 4);
    }

    private static void wordLengths() {
        Check.errorIn(HEAD + "a;", 13, 1);
        Check.errorIn(HEAD + "z;", 13, 1);
        // A word must be the whole run, not the beginning or the end of it.
        String words = "feeder sheet code again limits simplex";
        for (String word : words.split(" ")) {
            Check.errorIn(HEAD + SHEET + word + "s 1;", 31, 1);
            Check.errorIn(HEAD + SHEET + "a" + word + " 1;", 31, 1);
            Check.errorIn(HEAD + SHEET + word.substring(1) + " 1;", 31, 1);
            Check.errorIn(HEAD + SHEET + word.substring(0, word.length() - 1) + " 1;", 31, 1);
            Check.errorIn(HEAD + SHEET + word.toUpperCase() + " 1;", 31, 1);
        }
        // Each letter of each word counts.
        for (String word : words.split(" ")) {
            for (int k = 0; k < word.length(); k++) {
                String spoilt = word.substring(0, k) + "z" + word.substring(k + 1);
                boolean first = word.equals("feeder");
                String text = first ? spoilt + " 50 30;" : HEAD + "sheet 50 30 0 9 9;" + spoilt;
                Check.errorIn(text, first ? 0 : 31, 1);
            }
        }
        for (String stuck : new String[] {"ztuck", "szuck", "stzck", "stuzk", "stucz"}) {
            Check.errorIn(HEAD + "sheet 50 30 0 0 0 " + stuck + " 5;", 31, 1);
        }
        Check.errorIn("feede 50 30;", 0, 1);
        Check.errorIn("feeders 50 30;", 0, 1);
        Check.errorIn(HEAD + "sheet 50 30 0 0 0 stucks 5;", 31, 1);
        Check.errorIn(HEAD + "sheet 50 30 0 0 0 stuc 5;", 31, 1);
        // What begins like a repeated word is none: eight letters, nine and many.
        Check.errorIn(HEAD + "simplex;simplexs;", 21, 1);
        Check.errorIn(HEAD + "simplex;simplexss;", 21, 1);
        Check.errorIn(HEAD + "simplex;simplexsimplex;", 21, 1);
        Check.errorIn(HEAD + "againagain 1;", 13, 1);
        Check.errorIn(HEAD + SHEET + "again 39;sheetsheet 1;", 40, 1);
        Check.errorIn("a".repeat(700), 0, 1);
    }

    private static void numberLengths() {
        Check.sheetsIn("feeder 0050 0030;", 0);
        Check.sheetsIn("feeder 050 030;", 0);
        Check.sheetsIn(HEAD + "sheet 50 30 0000 1000 0;", 1);
        Check.errorIn("feeder 00050 30;", 7, 1);
        Check.errorIn("feeder 50 00030;", 10, 1);
        Check.errorIn(HEAD + "sheet 50 30 00000 0 0;", 25, 1);
        Check.errorIn(HEAD + "sheet 50 30 0 00000 0;", 27, 1);
        Check.errorIn(HEAD + "code 00000 50 30 0;", 18, 1);
        Check.errorIn("feeder " + "0".repeat(690) + "50;", 7, 1);
        // 2^32 + 50 and 2^31 must not come back as something else.
        Check.errorIn("feeder 4294967346 30;", 7, 1);
        Check.errorIn("feeder 2147483648 30;", 7, 1);
    }

    private static void otherBytes() {
        for (int b = 0; b < 256; b++) {
            boolean white = b == 32 || b == 10;
            PageFeeder x = new PageFeeder();
            int want = white ? 0 : Check.error(13, 1);
            Check.same("the byte " + b + " behind a feeder", Check.parse(x, HEAD + (char) b), want);
            boolean digit = b >= '0' && b <= '9';
            int inside = white || digit ? 0 : Check.error(b == ';' ? 13 : 12, 1);
            Check.same("the byte " + b + " behind a number", Check.parse(x, "feeder 50 30" + (char) b + ";"), inside);
            Check.same("the byte " + b + " ahead of a word", Check.parse(x, (char) b + HEAD), white ? 0 : Check.error(0, 1));
            // A letter makes the word longer, a digit makes 050 to 950 of the 50.
            boolean letter = b >= 'a' && b <= 'z';
            boolean inRange = b >= '0' && b <= '4';
            int behind = white || inRange ? 0 : digit ? Check.error(6, 4) : Check.error(letter ? 0 : 6, 1);
            Check.same("the byte " + b + " behind a word", Check.parse(x, "feeder" + (char) b + "50 30;"), behind);
        }
    }

    private static void longerRuns() {
        Check.errorIn("feederfee 50 30;", 0, 1);
        Check.errorIn(HEAD + "  simplexsi;", 15, 1);
        Check.errorIn(HEAD + "sheet 50 30 0 0 0 stuckstuck 5;", 31, 1);
        Check.errorIn("feeder  12345 30;", 8, 1);
        Check.errorIn("feeder 50 99999;", 10, 1);
        // Five digits are no number that is out of range, also where it ends there.
        Check.errorIn("feeder 50 12345", 10, 1);
        Check.errorIn("feeder 50 9999", 10, 4);
    }

    private static void noStatements() {
        Check.sheetsIn(HEAD, 0);
        Check.sheetsIn(HEAD + "simplex;", 0);
        Check.errorIn(HEAD + ";", 13, 1);
        Check.errorIn(HEAD + "simplex;;", 21, 1);
        Check.errorIn(HEAD + HEAD, 13, 1);
        Check.errorIn("", 0, 1);
        Check.errorIn(";", 0, 1);
        // As many statements as there is room for.
        Check.sheetsIn("feeder 50 30;sheet 50 30 0 0 0;" + "again 1;".repeat(39) + "simplex;limits 101 0 0 0;", 40);
    }

    private static void leftOut() {
        PageFeeder x = Check.feeder(HEAD + "sheet 50 30 1 2 3;sheet 50 30 -1 2 3;sheet 50 30 1 2 3 stuck 4;"
                + "sheet 50 30 -1 2 3 stuck 4;code 5 50 30 1;code 5 50 30 -1;code 5 50 30 1 stuck 4;code 5 50 30 -1 stuck 4;");
        for (int s = 0; s < 8; s++) {
            Check.same("skew of " + s, x.sheet(s, 2), s % 2 == 0 ? 1 : -1);
            Check.same("offset of " + s, x.sheet(s, 6), s % 4 < 2 ? -1 : 4);
            Check.same("code of " + s, x.sheet(s, 5), s < 4 ? -1 : 5);
        }
    }

    private static void stackOrder() {
        PageFeeder x = Check.feeder(HEAD + "sheet 50 30 0 1 0;sheet 50 30 0 2 0;again 1;code 3 50 30 0;sheet 50 30 0 4 0;");
        Check.answers("stack", x::stack, 0, 1, 2, 3, 4, -1);
        Check.answers("front", s -> x.sheet(s, 3), 1, 2, 2, 0, 4);
    }

    private static void againIsMore() {
        Check.sheetsIn(HEAD + SHEET + "again 1;", 2);
        Check.sheetsIn(HEAD + SHEET + "again 1;again 1;again 37;", 40);
        PageFeeder x = Check.feeder(HEAD + "sheet 50 30 0 1 2;sheet 77 44 -9 8 6 stuck 5;again 2;code 3 88 55 7 stuck 0;again 1;"
                + "sheet 50 30 0 1 2;again 1;");
        int[][] want = {{50, 30, 0, 1, 2, -1, -1}, {77, 44, -9, 8, 6, -1, 5}, {77, 44, -9, 8, 6, -1, 5}, {77, 44, -9, 8, 6, -1, 5},
            {88, 55, 7, 0, 0, 3, 0}, {88, 55, 7, 0, 0, 3, 0}, {50, 30, 0, 1, 2, -1, -1}, {50, 30, 0, 1, 2, -1, -1}};
        Check.same("sheets", x.size(0), want.length);
        for (int s = 0; s < want.length; s++) {
            int sheet = s;
            Check.answers("sheet " + s, what -> x.sheet(sheet, what), want[s]);
        }
    }

    private static void onceEach() {
        Check.sheetsIn(HEAD + "limits 150 20 30 5;simplex;", 0);
        Check.sheetsIn(HEAD + "simplex;" + SHEET + "limits 150 20 30 5;", 1);
        Check.errorIn(HEAD + "limits 150 20 30 5;limits 150 20 30 5;", 32, 2);
        Check.errorIn(HEAD + "simplex;simplex;", 21, 2);
        Check.errorIn(HEAD + "simplex;" + SHEET + "again 3;simplex;", 47, 2);
        Check.errorIn(HEAD + "limits 150 20 30 5;simplex;" + SHEET + "limits 101 0 0 0;", 58, 2);
        // Once in each text, also behind a text with an error.
        PageFeeder x = new PageFeeder();
        Check.same("an error behind both", Check.parse(x, HEAD + "limits 150 20 30 5;simplex;x"), Check.error(40, 1));
        Check.same("both", Check.parse(x, HEAD + "limits 150 20 30 5;simplex;"), 0);
        Check.same("both once more", Check.parse(x, HEAD + "limits 150 20 30 5;simplex;"), 0);
    }

    private static void againBehindSheet() {
        Check.sheetsIn(HEAD + SHEET + "again 1;", 2);
        Check.sheetsIn(HEAD + "code 1 50 30 0;again 1;", 2);
        Check.sheetsIn(HEAD + SHEET + "simplex;again 1;limits 150 20 30 5;again 1;", 3);
        Check.errorIn(HEAD + "again 1;" + SHEET, 13, 3);
        Check.errorIn(HEAD + "limits 150 20 30 5;simplex;again 1;", 40, 3);
        // The sheet of an earlier text does not count.
        PageFeeder x = Check.feeder(HEAD + SHEET);
        Check.same("again without a sheet of its own", Check.parse(x, HEAD + "again 1;"), Check.error(13, 3));
    }

    private static void ends(String before, int least, int greatest, String behind, int sheets) {
        Check.sheetsIn(before + least + behind, sheets);
        Check.sheetsIn(before + greatest + behind, sheets);
        Check.errorIn(before + (greatest + 1) + behind, before.length(), 4);
        Check.errorIn(before + 9999 + behind, before.length(), 4);
        if (least > 0) {
            Check.errorIn(before + (least - 1) + behind, before.length(), 4);
            Check.errorIn(before + 0 + behind, before.length(), 4);
        }
    }

    private static void lengthRange() {
        ends("feeder ", 50, 500, " 30;", 0);
        ends(HEAD + "sheet ", 50, 500, " 30 0 0 0;", 1);
        ends(HEAD + "code 5 ", 50, 500, " 30 0;", 1);
    }

    private static void thickRange() {
        ends("feeder 50 ", 30, 500, ";", 0);
        ends(HEAD + "sheet 50 ", 30, 500, " 0 0 0;", 1);
        ends(HEAD + "code 5 50 ", 30, 500, " 0;", 1);
    }

    private static void skewRange() {
        for (String minus : new String[] {"", "-", "- "}) {
            ends(HEAD + "sheet 50 30 " + minus, 0, 99, " 0 0;", 1);
            ends(HEAD + "code 5 50 30 " + minus, 0, 99, ";", 1);
        }
        PageFeeder x = Check.feeder(HEAD + "sheet 50 30 -99 0 0;sheet 50 30 99 0 0;sheet 50 30 -0 0 0;code 1 50 30 -99;");
        Check.answers("skew", s -> x.sheet(s, 2), -99, 99, 0, -99);
    }

    private static void inkRange() {
        ends(HEAD + "sheet 50 30 0 ", 0, 1000, " 0;", 1);
        ends(HEAD + "sheet 50 30 0 0 ", 0, 1000, ";", 1);
        PageFeeder x = Check.feeder(HEAD + "sheet 50 30 0 1000 0;sheet 50 30 0 0 1000;");
        Check.answers("front", s -> x.sheet(s, 3), 1000, 0);
        Check.answers("back", s -> x.sheet(s, 4), 0, 1000);
    }

    private static void codeRange() {
        ends(HEAD + "code ", 0, 999, " 50 30 0;", 1);
        PageFeeder x = Check.feeder(HEAD + "code 0 50 30 0;code 999 50 30 0;");
        Check.answers("code", s -> x.sheet(s, 5), 0, 999);
    }

    private static void offsetRange() {
        ends(HEAD + "sheet 50 30 0 0 0 stuck ", 0, 400, ";", 1);
        ends(HEAD + "code 5 50 30 0 stuck ", 0, 400, ";", 1);
        PageFeeder x = Check.feeder(HEAD + "sheet 50 30 0 0 0 stuck 0;code 5 50 30 0 stuck 400;");
        Check.answers("offset", s -> x.sheet(s, 6), 0, 400);
    }

    private static void timesRange() {
        Check.sheetsIn(HEAD + SHEET + "again 1;", 2);
        Check.sheetsIn(HEAD + SHEET + "again 39;", 40);
        Check.errorIn(HEAD + SHEET + "again 0;", 37, 4);
        Check.errorIn(HEAD + SHEET + "again 40;", 37, 4);
        Check.errorIn(HEAD + SHEET + "again 9999;", 37, 4);
    }

    private static void limitRange(int what, int least, int greatest, int without) {
        String[] ahead = {"", "101 ", "101 0 ", "101 0 0 "};
        String[] behindIt = {" 0 0 0;", " 0 0;", " 0;", ";"};
        String before = HEAD + "limits " + ahead[what];
        String behind = behindIt[what];
        ends(before, least, greatest, behind, 0);
        Check.same("the least", Check.feeder(before + least + behind).limit(what), least);
        Check.same("the greatest", Check.feeder(before + greatest + behind).limit(what), greatest);
        PageFeeder x = Check.feeder(before + least + behind);
        Check.parse(x, HEAD + "simplex;");
        Check.same("without the statement", x.limit(what), without);
    }

    private static void fortySheets() {
        Check.sheetsIn(HEAD + SHEET + "again 39;", 40);
        Check.sheetsIn(HEAD + "code 1 50 30 0;again 38;" + SHEET, 40);
        PageFeeder x = Check.feeder(HEAD + SHEET + "again 39;");
        Check.same("the last sheet", x.sheet(39, 3), 9);
        Check.throwsIndex("sheet 40", () -> x.sheet(40, 0));
        Check.errorIn(HEAD + SHEET + "again 39;" + SHEET, 40, 5);
    }

    private static void lowestOffset() {
        Check.errorIn("feeder 49 29;again 1;", 7, 4);
        Check.errorIn("feeder 50 29#", 10, 4);
        Check.errorIn(HEAD + "again 0;again;", 13, 3);
        Check.errorIn(HEAD + "sheet 50 30 0 0 1001 stuck 401;#", 29, 4);
        Check.errorIn(HEAD + "sheet 50 30 0 0 0 stuck 401#", 37, 4);
        Check.errorIn(HEAD + "limits 150 201 100;", 24, 4);
        Check.errorIn(HEAD + "simplex 1;simplex;", 21, 1);
        Check.errorIn(HEAD + "simplex;simplex 1#", 21, 2);
        Check.errorIn(HEAD + SHEET + "again 39;sheet 49", 40, 5);
        Check.errorIn(HEAD + SHEET + "again 40 again", 37, 4);
        Check.errorIn("#" + HEAD + "again 1;", 0, 1);
    }

    private static void lowestKind() {
        // Out of range and too many: 4. An illegal run where a number out of range would stand: 1.
        Check.errorIn(HEAD + SHEET + "again 39;again 40;", 46, 4);
        Check.errorIn(HEAD + SHEET + "again 39;again 0;", 46, 4);
        Check.errorIn(HEAD + SHEET + "again 39;again 39;", 46, 5);
        Check.errorIn(HEAD + SHEET + "again 39;again 00001;", 46, 1);
        Check.errorIn(HEAD + SHEET + "again 39;again 99999;", 46, 1);
        Check.errorIn(HEAD + SHEET + "again 39;again -1;", 46, 1);
    }

    private static void illegalEverywhere() {
        for (String illegal : new String[] {"#", "A", "\t", "12345", "abcdefghi", "" + (char) 0, "" + (char) 255}) {
            StringBuilder text = new StringBuilder();
            for (int k = 0; k <= WHOLE.length; k++) {
                Check.errorIn(text + illegal, text.length(), 1);
                text.append(k < WHOLE.length ? WHOLE[k] : "").append(' ');
            }
        }
    }

    private static void wrongTokenEverywhere() {
        String[] tokens = {"feeder", "5", ";", "-", "sheet", "code", "again", "limits", "simplex", "stuck", "glue"};
        String kinds = "fn;-wwwwwsx";
        StringBuilder text = new StringBuilder();
        for (int k = 0; k < WHOLE.length; k++) {
            for (int t = 0; t < tokens.length; t++) {
                if (MAY[k].indexOf(kinds.charAt(t)) < 0) {
                    Check.errorIn(text + tokens[t], text.length(), 1);
                    Check.errorIn(text + tokens[t] + " ;", text.length(), 1);
                }
            }
            text.append(WHOLE[k]).append(' ');
        }
    }

    private static void endsEverywhere() {
        StringBuilder text = new StringBuilder();
        for (int k = 0; k < WHOLE.length; k++) {
            boolean whole = k > 0 && WHOLE[k - 1].equals(";");
            if (!whole) {
                Check.errorIn(text.toString(), text.length(), 1);
                Check.errorIn(text + "  \n", text.length() + 3, 1);
            }
            text.append(WHOLE[k]);
            if (!whole && k > 0) {
                // Also without white space at the end, where this token is not the last one.
                Check.same("whole", WHOLE[k].equals(";"), Check.parse(new PageFeeder(), text.toString()) >= 0);
            }
            text.append(' ');
        }
        Check.errorIn("feeder", 6, 1);
        Check.errorIn("feeder 50 30", 12, 1);
        Check.errorIn(HEAD + "simplex", 20, 1);
        // The text that counts is as long as parse is told.
        PageFeeder x = new PageFeeder();
        Check.append(x, HEAD);
        Check.same("parse(12) of more", x.parse(12), Check.error(12, 1));
    }

    private static void repeated() {
        Check.errorIn(HEAD + "simplex;simplex", 21, 2);
        Check.errorIn(HEAD + "simplex;  simplex", 23, 2);
        Check.errorIn(HEAD + "limits 150 20 30 5;limits", 32, 2);
        Check.errorIn(HEAD + "limits 150 20 30 5;limits 0", 32, 2);
        Check.errorIn(HEAD + "simplex;limits 150 20 30 5;simplex;", 40, 2);
        // It is the second one, not a first one behind the other word.
        Check.sheetsIn(HEAD + "simplex;limits 150 20 30 5;", 0);
        Check.sheetsIn(HEAD + "limits 150 20 30 5;simplex;", 0);
    }

    private static void nothing() {
        Check.errorIn(HEAD + "again", 13, 3);
        Check.errorIn(HEAD + "again 0;", 13, 3);
        Check.errorIn(HEAD + "again #", 13, 3);
        Check.errorIn(HEAD + "\n again 1;", 15, 3);
        Check.sheetsIn(HEAD + "code 0 50 30 0;again 1;", 2);
    }

    private static void rangeAtTheNumber() {
        Check.errorIn(HEAD + "sheet 50 30 -100 0 0;", 26, 4);
        Check.errorIn(HEAD + "sheet 50 30 - 100 0 0;", 27, 4);
        Check.errorIn("feeder   49 30;", 9, 4);
        Check.errorIn("feeder 50\n501;", 10, 4);
        Check.errorIn("feeder 049 30;", 7, 4);
        Check.errorIn("feeder 0 30;", 7, 4);
    }

    private static void word41() {
        String forty = HEAD + SHEET + "again 39;";
        Check.errorIn(forty + "sheet", 40, 5);
        Check.errorIn(forty + "code", 40, 5);
        Check.errorIn(forty + " sheet 0", 41, 5);
        Check.errorIn(forty + "simplex;code #", 48, 5);
        String less = HEAD + SHEET + "again 38;";
        Check.sheetsIn(less + SHEET, 40);
        Check.sheetsIn(less + "code 1 50 30 0;", 40);
        Check.errorIn(less + "code 1 50 30 0;sheet", 55, 5);
        Check.errorIn(less + SHEET + "code", 58, 5);
    }

    private static void again41() {
        Check.errorIn(HEAD + SHEET + "again 39;again 1;", 46, 5);
        Check.sheetsIn(HEAD + SHEET + "again 38;again 1;", 40);
        Check.errorIn(HEAD + SHEET + "again 38;again 2;", 46, 5);
        Check.errorIn(HEAD + SHEET + SHEET + "again 39;", 55, 5);
        Check.errorIn(HEAD + SHEET + SHEET + "again 39", 55, 5);
        Check.errorIn(HEAD + SHEET + SHEET + "again   39 #", 57, 5);
        Check.sheetsIn(HEAD + SHEET + SHEET + "again 38;", 40);
        Check.errorIn(HEAD + SHEET + "again 20;again 20;", 46, 5);
        Check.sheetsIn(HEAD + SHEET + "again 20;again 19;", 40);
    }

    private static void newObject() {
        PageFeeder x = new PageFeeder();
        Check.answers("size", x::size, 0, 0, 0, 0, 0, 1, 1, 50, 30, 30, 0, 0);
        Check.answers("limit", x::limit, 150, 20, 30, 5);
        Check.answers("account", x::account, 0, 0, 0, 0, 0, 0, 0, 0, 0);
        Check.answers("sheetsAt", x::sheetsAt, 0, 0, 0, 0, 0, 0, 0);
        Check.answers("next", x::next, -1, -1, -1, -1, -1);
        Check.answers("job 0", what -> x.job(0, what), -1, 0, -1, 0);
        Check.same("feed", x.feed(1), 0);
        Check.throwsState("putBack", x::putBack);
        Check.same("undo of feed", x.undo(), 0);
        Check.same("undo", x.undo(), -1);
        Check.same("slot 0", x.restoreSnapshot(0), false);
        Check.same("slot 1", x.restoreSnapshot(1), false);
        Check.sameText("as by the text", Check.all(new PageFeeder()), Check.all(Check.feeder(HEAD)));
    }

    private static void newBuffer() {
        PageFeeder x = new PageFeeder();
        Check.throwsArgument("parse(1)", () -> x.parse(1));
        Check.throwsArgument("parse(13)", () -> x.parse(13));
        Check.same("parse(0)", x.parse(0), Check.error(0, 1));
        Check.same("append", x.append(0, 0, 0, 0, 0), 20);
    }

    private static void byteOrder() {
        // A byte that cannot stand there, at each place in turn: its offset tells the place.
        String text = HEAD + spaces(7);
        int[] offsets = {0, 0, 0, 0, 0, 0, 6, 7, 7, 9, 10, 10, 12, 13, 14, 15, 16, 17, 18, 19};
        for (int at = 0; at < 20; at++) {
            PageFeeder x = new PageFeeder();
            String spoilt = text.substring(0, at) + (char) 200 + text.substring(at + 1);
            int kind = at == 8 || at == 11 ? 4 : 1;
            Check.same("parse of a strange byte at " + at, Check.parse(x, spoilt), Check.error(offsets[at], kind));
        }
        PageFeeder x = new PageFeeder();
        // "feed" "er12" "3 04" "56;\n" " \n  "
        x.append(0x66656564, 0x65723132, 0x33203034, 0x35363b0a, 0x200a2020);
        Check.same("parse", x.parse(20), 0);
        Check.same("length", x.size(7), 123);
        Check.same("thick", x.size(8), 456);
    }

    private static void newLength() {
        PageFeeder x = new PageFeeder();
        for (int length = 20; length <= 700; length += 20) {
            Check.same("append", x.append(-1, 0, 1, Integer.MIN_VALUE, Integer.MAX_VALUE), length);
        }
    }

    private static void nothingAppended() {
        PageFeeder x = new PageFeeder();
        Check.append(x, HEAD + "simplex;" + spaces(660));
        Check.same("append to 700 bytes", Check.append(x, spaces(19)), -1);
        Check.same("append once more", x.append(0x23232323, 0x23232323, 0x23232323, 0x23232323, 0x23232323), -1);
        Check.throwsArgument("parse(701)", () -> x.parse(701));
        Check.throwsArgument("parse(720)", () -> x.parse(720));
        Check.same("parse(700)", x.parse(700), 0);
        Check.same("simplex", x.size(6), 0);
        Check.same("append to the empty buffer", x.append(0, 0, 0, 0, 0), 20);
        PageFeeder y = new PageFeeder();
        Check.same("append of 680 bytes", Check.append(y, spaces(680)), 680);
        Check.same("append up to 700", y.append(0, 0, 0, 0, 0), 700);
    }

    private static void firstBytes() {
        String text = "feeder 50 300;sheet 50 30 0 9 9;again 1;##";
        int[][] want = {{0, Check.error(0, 1)}, {5, Check.error(0, 1)}, {6, Check.error(6, 1)}, {8, Check.error(7, 4)}, {13, Check.error(13, 1)},
            {14, 0}, {18, Check.error(14, 1)}, {31, Check.error(31, 1)}, {32, 1}, {38, Check.error(38, 1)}, {40, 2}, {41, Check.error(40, 1)}};
        for (int[] row : want) {
            PageFeeder x = new PageFeeder();
            Check.append(x, text);
            Check.same("parse(" + row[0] + ")", x.parse(row[0]), row[1]);
        }
        // Runs that would be too long end with the text.
        PageFeeder x = new PageFeeder();
        Check.append(x, "feeder 50 300000;");
        Check.same("the end behind three digits", x.parse(13), Check.error(13, 1));
        Check.append(x, "feeder 50 300000;");
        Check.same("the end behind four digits", x.parse(14), Check.error(10, 4));
        Check.append(x, "feeder 50 300000;");
        Check.same("the end behind five digits", x.parse(15), Check.error(10, 1));
    }

    private static void replaces() {
        PageFeeder x = Check.feeder("feeder 400 200;limits 101 0 0 0;simplex;code 3 400 200 9 stuck 8;sheet 400 200 77 8 8;");
        x.feed(1);
        x.accept();
        x.feed(1);
        x.endJob(5);
        x.setLimit(3, 70);
        Check.same("parse of less", Check.parse(x, HEAD + "sheet 50 30 0 9 9;"), 1);
        Check.sameText("nothing is left", Check.all(x), Check.all(Check.feeder(HEAD + "sheet 50 30 0 9 9;")));
        Check.same("parse of nothing", Check.parse(x, HEAD), 0);
        Check.sameText("nothing is left", Check.all(x), Check.all(new PageFeeder()));
        Check.throwsIndex("sheet 0", () -> x.sheet(0, 0));
    }

    private static void parseLengths() {
        PageFeeder x = new PageFeeder();
        Check.append(x, HEAD);
        Check.range("parse", x, 0, 20, length -> length < 0 || length > 20 ? x.parse(length) : 0);
        Check.same("parse of all", x.parse(20), 0);
        Check.append(x, HEAD);
        Check.same("parse of nothing", x.parse(0), Check.error(0, 1));
        Check.refusesArgument("parse(1) of the empty buffer", x, () -> x.parse(1));
    }

    private static void numberOfSheets() {
        Check.sheetsIn(HEAD, 0);
        Check.sheetsIn(HEAD + SHEET, 1);
        Check.sheetsIn(HEAD + SHEET + "again 38;", 39);
        Check.sheetsIn(HEAD + SHEET + "again 39;", 40);
    }

    private static void errorAnswers() {
        PageFeeder x = new PageFeeder();
        Check.same("1 at 0", Check.parse(x, ""), -3);
        Check.same("1 at 6", Check.parse(x, "feeder"), -51);
        Check.same("2 at 21", Check.parse(x, HEAD + "simplex;simplex"), -172);
        Check.same("3 at 13", Check.parse(x, HEAD + "again"), -109);
        Check.same("4 at 7", Check.parse(x, "feeder 49"), -62);
        Check.same("5 at 40", Check.parse(x, HEAD + SHEET + "again 39;code"), -327);
        Check.same("1 at 700", Check.parse(x, spaces(700)), -5603);
    }

    private static void bufferEmpty() {
        PageFeeder x = new PageFeeder();
        Check.append(x, HEAD + spaces(200));
        Check.same("a success of a part", x.parse(13), 0);
        Check.throwsArgument("parse(1) behind it", () -> x.parse(1));
        Check.same("append behind it", Check.append(x, "x" + HEAD), 20);
        Check.same("an error of a part", x.parse(3), Check.error(0, 1));
        Check.throwsArgument("parse(1) behind it", () -> x.parse(1));
        Check.same("append behind it", Check.append(x, HEAD + spaces(687)), 700);
        Check.same("what is appended stands at the begin", x.parse(13), 0);
    }

    private static void errorKeeps() {
        PageFeeder x = Check.feeder(HEAD + "limits 150 20 30 7;" + SHEET + "sheet 50 90 0 9 9 stuck 3;again 1;" + SHEET);
        x.setDuplex(false);
        x.saveSnapshot(0);
        x.feed(9);
        x.saveSnapshot(1);
        String stopped = Check.all(x);
        String[] wrong = {"", "x", "feeder 60 40;x", "feeder 60 40;sheet 60 60 6 6 6 stuck 6;again 0;",
            "feeder 60 40;limits 200 1 1 1;simplex;simplex;", "feeder 60 40;again 1;", "feeder 60 40;code 1 60 60 6;again 39;code"};
        for (String text : wrong) {
            Check.same("an error in " + text, Check.parse(x, text) < -2, true);
            Check.sameText("everything behind the error in " + text, Check.all(x), stopped);
        }
        Check.same("undo of feed", x.undo(), 1);
        Check.same("all in the stack again", x.size(1), 4);
        Check.same("slot 1", x.restoreSnapshot(1), true);
        Check.sameText("what it held", Check.allButUndo(x), stopped.replaceFirst("(size( -?\\d+){11}) \\d+", "$1"));
        Check.same("slot 0", x.restoreSnapshot(0), true);
        Check.same("what it held", x.size(1), 4);
    }

    private static void bufferStays() {
        PageFeeder x = new PageFeeder();
        Check.append(x, HEAD);
        for (int length : new int[] {-1, 21, 700, Integer.MIN_VALUE, Integer.MAX_VALUE}) {
            Check.throwsArgument("parse(" + length + ")", () -> x.parse(length));
        }
        Check.same("append", Check.append(x, SHEET), 40);
        Check.same("parse of both", x.parse(38), 1);
    }
}
