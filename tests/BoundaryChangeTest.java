/** The boundary cases of CHANGES and of the promises 19 to 28: a test for each sentence that names one. */
public final class BoundaryChangeTest {
    private static final String HEAD = "feeder 300 100;";
    private static final String GOOD = "sheet 300 100 0 9 9;";
    private static final String THICK = "sheet 300 151 0 9 9;";
    private static final String LONG = "sheet 321 100 0 9 9;";
    private static final String SKEWED = "sheet 300 100 31 9 9;";
    private static final String PAIR = "sheet 300 60 0 9 9 stuck 0;sheet 300 60 0 9 9;";
    private static final String FULL = HEAD + GOOD + "again 39;";
    private static final String ALL_STUCK = HEAD + "sheet 300 100 0 9 9 stuck 400;again 39;";

    public static void main(String[] args) {
        Check.about("The methods from feed to setDuplex are changes if they succeed", BoundaryChangeTest::sevenChanges);
        Check.about("also if they alter nothing", BoundaryChangeTest::alterNothing);
        Check.about("The latest 10 changes can be undone, the latest first", BoundaryChangeTest::latestTen);
        Check.about("There are two snapshot slots, 0 and 1", BoundaryChangeTest::twoSlots);
        Check.about("a snapshot holds everything that changes can change, accounts and limits, too", BoundaryChangeTest::holdsEverything);
        Check.about("a snapshot holds everything that changes can change", BoundaryChangeTest::holdsPages);
        Check.about("A successful parse begins anew", BoundaryChangeTest::parseBeginsAnew);
        Check.about("A successful parse begins anew, clears the undo history and empties both slots", BoundaryChangeTest::parseClears);
        Check.about("A method that throws an exception changes nothing", BoundaryChangeTest::throwingChangesNothing);
        Check.about("Promise 19: until so many were made", BoundaryChangeTest::untilSoMany);
        Check.about("Promise 19: the feeder stops", BoundaryChangeTest::untilItStops);
        Check.about("Promise 19: or the stack is empty", BoundaryChangeTest::untilEmpty);
        Check.about("Promise 19: 1 to 40", BoundaryChangeTest::picksInRange);
        Check.about("Promise 19: Returns the number of picks that went through", BoundaryChangeTest::picksThrough);
        Check.about("Promise 19: if picks is out of range (checked first)", BoundaryChangeTest::picksCheckedFirst);
        Check.about("Promise 19: if the feeder is stopped already", BoundaryChangeTest::stoppedAlready);
        Check.about("Promise 20: Puts the sheets of the path back on the stack, in the same order", BoundaryChangeTest::sameOrder);
        Check.about("Promise 20: none of them is stuck any more", BoundaryChangeTest::notStuckAnyMore);
        Check.about("Promise 20: the skew of the first one becomes half of what it is", BoundaryChangeTest::halfOfSkew);
        Check.about("Promise 20: Returns the number of sheets in the stack then", BoundaryChangeTest::stackThen);
        Check.about("Promise 20: if the feeder is not stopped", () -> notStopped("putBack", PageFeeder::putBack));
        Check.about("Promise 20: The feeder is not stopped any more", () -> stoppedNoMore(PageFeeder::putBack));
        Check.about("Promise 21: halves of them that are held are thrown away", BoundaryChangeTest::halvesThrownAway);
        Check.about("Promise 21: Returns the number of sheets that were removed", BoundaryChangeTest::numberRemoved);
        Check.about("Promise 21: if the feeder is not stopped", () -> notStopped("remove", PageFeeder::remove));
        Check.about("Promise 21: The feeder is not stopped any more", () -> stoppedNoMore(PageFeeder::remove));
        Check.about("Promise 22: it goes through (it is not good by this)", BoundaryChangeTest::acceptedIsNotGood);
        Check.about("Promise 22: Returns the number of pages that came of it", BoundaryChangeTest::pagesOfAccepted);
        Check.about("Promise 22: if the feeder is not stopped", () -> notStopped("accept", PageFeeder::accept));
        Check.about("Promise 22: or for the reason 3", BoundaryChangeTest::acceptSkewed);
        Check.about("Promise 22: The feeder is not stopped any more", BoundaryChangeTest::acceptEndsStop);
        Check.about("Promise 23: Ends the job by hand and begins the next one", BoundaryChangeTest::nextJob);
        Check.about("Promise 23: Returns the number of the next job", BoundaryChangeTest::numberOfNextJob);
        Check.about("Promise 23: if code is out of range (checked first)", BoundaryChangeTest::codeCheckedFirst);
        Check.about("Promise 23: if there are 99 jobs", BoundaryChangeTest::jobs99);
        Check.about("Promise 24: in the range of the text", BoundaryChangeTest::limitsInRange);
        Check.about("Promise 24: Returns the previous one", BoundaryChangeTest::previousLimit);
        Check.about("Promise 24: if what or value is out of range", BoundaryChangeTest::limitsOutOfRange);
        Check.about("Promise 25: Returns whether it was duplex before", BoundaryChangeTest::duplexBefore);
        Check.about("Promise 26: Undoes the latest change that has not been undone", BoundaryChangeTest::undoesLatest);
        Check.about("Promise 26: Returns the number of changes that can still be undone", BoundaryChangeTest::stillUndoable);
        Check.about("Promise 26: NONE if there was none to undo", BoundaryChangeTest::noneToUndo);
        Check.about("Promise 27: in place of what the slot held before", BoundaryChangeTest::inPlaceOfOld);
        Check.about("Promise 27: Returns true; false if there is no such slot", BoundaryChangeTest::noSlotToSave);
        Check.about("Promise 28: Restores a snapshot and clears the undo history", BoundaryChangeTest::restoreClearsUndo);
        Check.about("Promise 28: The snapshot stays in its slot", BoundaryChangeTest::staysInSlot);
        Check.about("Promise 28: false, with nothing changed, if there is no such slot", BoundaryChangeTest::noSlotToRestore);
        Check.about("Promise 28: or it is empty", BoundaryChangeTest::emptySlot);
        Check.finish();
    }

    /** A call without arguments. */
    private interface Clearing {
        int make(PageFeeder x);
    }

    private static PageFeeder stopped(String text) {
        PageFeeder x = Check.feeder(text);
        x.feed(40);
        return x;
    }

    // CHANGES

    /** One of the seven changes by its number, each one allowed on a feeder that is stopped by a thick sheet. */
    private static void change(PageFeeder x, int number) {
        switch (number) {
            case 0 -> x.putBack();
            case 1 -> x.remove();
            case 2 -> x.accept();
            case 3 -> x.endJob(5);
            case 4 -> x.setLimit(1, 7);
            case 5 -> x.setDuplex(false);
            default -> x.feed(1);
        }
    }

    private static void sevenChanges() {
        for (int number = 0; number < 7; number++) {
            PageFeeder x = Check.feeder(HEAD + THICK + GOOD);
            if (number < 6) {
                x.feed(1);
            }
            int changes = x.size(11);
            String before = Check.allButUndo(x);
            change(x, number);
            Check.same("changes behind the change " + number, x.size(11), changes + 1);
            Check.same("it alters something", before.equals(Check.allButUndo(x)), false);
            Check.same("undo", x.undo(), changes);
            Check.sameText("everything behind the undo of the change " + number, Check.allButUndo(x), before);
        }
        PageFeeder y = stopped(HEAD + THICK);
        y.saveSnapshot(0);
        y.restoreSnapshot(1);
        y.bestPercent();
        y.ahead(150, 0);
        Check.append(y, "x");
        Check.same("snapshots and questions are none", y.size(11), 1);
        Check.parse(y, "x");
        Check.same("a parse with an error is none", y.size(11), 1);
    }

    private static void alterNothing() {
        PageFeeder x = Check.feeder(HEAD);
        String before = Check.allButUndo(x);
        x.feed(40);
        Check.same("a feed of nothing", x.size(11), 1);
        x.setLimit(0, 150);
        Check.same("a limit as it is", x.size(11), 2);
        x.setDuplex(true);
        Check.same("a mode as it is", x.size(11), 3);
        Check.sameText("everything", Check.allButUndo(x), before);
        Check.same("undo of the mode", x.undo(), 2);
        Check.same("undo of the limit", x.undo(), 1);
        Check.same("undo of the feed", x.undo(), 0);
        // They push others out, too.
        x.setLimit(0, 200);
        for (int k = 0; k < 10; k++) {
            x.feed(1);
        }
        for (int k = 0; k < 11; k++) {
            x.undo();
        }
        Check.same("the eleventh is not undone", x.limit(0), 200);
    }

    private static void latestTen() {
        for (int changes = 0; changes <= 25; changes++) {
            PageFeeder x = Check.feeder(HEAD);
            for (int k = 1; k <= changes; k++) {
                x.setLimit(3, k);
            }
            int undone = Math.min(changes, 10);
            for (int k = 1; k <= undone; k++) {
                Check.same("undo " + k + " of " + changes, x.undo(), undone - k);
                Check.same("blank behind it", x.limit(3), changes == k ? 5 : changes - k);
            }
            Check.same("undo of no more", x.undo(), -1);
            Check.same("blank", x.limit(3), changes == undone ? 5 : changes - undone);
        }
    }

    private static void twoSlots() {
        PageFeeder x = stopped(HEAD + GOOD + THICK + SKEWED);
        x.saveSnapshot(0);
        String first = Check.allButUndo(x);
        x.remove();
        x.feed(1);
        x.saveSnapshot(1);
        String second = Check.allButUndo(x);
        x.putBack();
        x.feed(40);
        for (int k = 0; k < 3; k++) {
            Check.same("slot 0", x.restoreSnapshot(0), true);
            Check.sameText("what slot 0 holds", Check.allButUndo(x), first);
            Check.same("slot 1", x.restoreSnapshot(1), true);
            Check.sameText("what slot 1 holds", Check.allButUndo(x), second);
        }
        Check.same("slot 2", x.saveSnapshot(2), false);
    }

    /** A feeder in which everything that changes can change is altered, and that is stopped. */
    private static PageFeeder altered() {
        PageFeeder x = Check.feeder(HEAD + "sheet 300 140 77 9 0;code 8 300 100 0;" + PAIR + "sheet 300 100 0 0 0;" + THICK + THICK
                + "sheet 300 60 33 9 9 stuck 3;sheet 300 60 0 9 9 stuck 3;" + GOOD);
        x.feed(1);
        x.putBack();
        x.setLimit(0, 149);
        x.setLimit(1, 19);
        x.setLimit(2, 29);
        x.feed(1);
        x.putBack();
        x.feed(40);
        x.setLimit(3, 4);
        x.endJob(12);
        return x;
    }

    private static void alterOtherwise(PageFeeder x) {
        x.remove();
        x.feed(1);
        if (x.size(3) > 0) {
            x.putBack();
        }
        x.setDuplex(false);
        x.setLimit(0, 300);
        x.setLimit(1, 200);
        x.setLimit(2, 99);
        x.setLimit(3, 0);
        x.endJob(3);
        x.feed(40);
    }

    private static void holdsEverything() {
        PageFeeder x = altered();
        String before = Check.allButUndo(x);
        Check.same("it is stopped", x.size(3) > 0, true);
        x.saveSnapshot(1);
        alterOtherwise(x);
        x.saveSnapshot(0);
        String other = Check.allButUndo(x);
        Check.answers("limit", x::limit, 300, 200, 99, 0);
        x.restoreSnapshot(1);
        Check.sameText("everything", Check.allButUndo(x), before);
        // What goes on from there goes as it went.
        alterOtherwise(x);
        Check.sameText("the same once more", Check.allButUndo(x), other);
        x.restoreSnapshot(1);
        x.restoreSnapshot(0);
        Check.sameText("the other one", Check.allButUndo(x), other);
        // The thicknesses of good picks that are not among the latest any more come back, too.
        PageFeeder y = Check.feeder(HEAD + "sheet 300 90 0 9 9;again 5;sheet 300 60 0 9 9;again 10;");
        y.feed(6);
        y.saveSnapshot(0);
        y.feed(4);
        Check.same("the usual thickness behind ten", y.size(9), 70);
        y.restoreSnapshot(0);
        Check.same("the usual thickness behind six", y.size(9), 90);
        y.feed(1);
        Check.same("the usual thickness behind seven", y.size(9), 85);
    }

    /** The pages and jobs of one slot are written over by others of the same numbers, and come back. */
    private static void holdsPages() {
        PageFeeder x = Check.feeder(HEAD + GOOD + THICK + GOOD + "code 8 300 100 0;" + THICK + GOOD + GOOD);
        x.saveSnapshot(0);
        x.feed(1);
        x.feed(1);
        x.accept();
        x.feed(40);
        x.endJob(9);
        x.accept();
        x.feed(40);
        x.saveSnapshot(1);
        String duplex = Check.allButUndo(x);
        x.restoreSnapshot(0);
        x.setDuplex(false);
        x.endJob(7);
        x.endJob(6);
        x.feed(40);
        x.remove();
        x.feed(40);
        x.accept();
        x.feed(40);
        x.saveSnapshot(0);
        String simplex = Check.allButUndo(x);
        x.restoreSnapshot(1);
        Check.sameText("the pages and jobs of duplex", Check.allButUndo(x), duplex);
        x.restoreSnapshot(0);
        Check.sameText("the pages and jobs of simplex", Check.allButUndo(x), simplex);
        x.restoreSnapshot(1);
        x.setDuplex(true);
        x.undo();
        Check.sameText("the pages and jobs of duplex behind undo", Check.allButUndo(x), duplex);
    }

    private static void parseClears() {
        PageFeeder x = altered();
        x.saveSnapshot(0);
        x.saveSnapshot(1);
        Check.same("parse", Check.parse(x, HEAD + GOOD), 1);
        Check.sameText("everything", Check.all(x), Check.all(Check.feeder(HEAD + GOOD)));
        Check.same("undo", x.undo(), -1);
        Check.same("slot 0", x.restoreSnapshot(0), false);
        Check.same("slot 1", x.restoreSnapshot(1), false);
        Check.sameText("everything", Check.all(x), Check.all(Check.feeder(HEAD + GOOD)));
    }

    private static void parseBeginsAnew() {
        // Behind each number of good picks the next text counts its own from the first one on.
        for (int picks = 0; picks <= 14; picks++) {
            PageFeeder x = Check.feeder(FULL);
            for (int k = 0; k < picks; k++) {
                x.feed(1);
            }
            Check.parse(x, HEAD + "limits 300 20 30 5;sheet 300 30 0 9 9;again 3;sheet 300 60 0 9 9;again 15;");
            int[] usual = {100, 30, 30, 30, 30, 36, 40, 45, 50, 55, 60, 60};
            for (int k = 0; k < usual.length; k++) {
                Check.same("the usual thickness behind " + k, x.size(9), usual[k]);
                x.feed(1);
            }
        }
        // Nothing of any sheet is left: halves, skews, offsets, places.
        PageFeeder y = Check.feeder(HEAD + "limits 150 20 0 5;sheet 300 50 60 9 9 stuck 0;again 39;");
        for (int s = 0; s < 20; s++) {
            y.feed(1);
            if (s % 2 == 0) {
                y.putBack();
            } else {
                y.remove();
            }
        }
        Check.parse(y, FULL);
        Check.sameText("everything of 40 sheets", Check.all(y), Check.all(Check.feeder(FULL)));
        PageFeeder z = Check.feeder(HEAD + SKEWED);
        z.feed(1);
        Check.same("a half", z.isHalf(0), true);
        Check.parse(z, FULL);
        Check.same("no half", z.isHalf(0), false);
        Check.same("halves", z.size(10), 0);
        Check.same("feed", z.feed(40), 40);
        Check.same("halves replaced", z.account(5), 0);
    }

    private static void throwingChangesNothing() {
        PageFeeder x = Check.feeder(HEAD + GOOD + SKEWED);
        x.saveSnapshot(0);
        x.setLimit(3, 6);
        refuseAll(x);
        Check.refusesState("putBack", x, x::putBack);
        Check.refusesState("remove", x, x::remove);
        Check.refusesState("accept", x, x::accept);
        x.feed(40);
        refuseAll(x);
        Check.refusesState("feed", x, () -> x.feed(1));
        Check.refusesState("accept of a skewed one", x, x::accept);
        x.putBack();
        x.feed(1);
        refuseAll(x);
        Check.refusesState("putBack", x, x::putBack);
        for (int jobs = 2; jobs <= 99; jobs++) {
            x.endJob(1);
        }
        refuseAll(x);
        Check.refusesState("endJob", x, () -> x.endJob(1));
        Check.same("the undo history is as it was", x.undo(), 9);
        Check.same("98 jobs", x.size(5), 98);
        Check.same("slot 0 is as it was", x.restoreSnapshot(0), true);
        Check.same("blank", x.limit(3), 5);
        Check.same("slot 1 is empty still", x.restoreSnapshot(1), false);
    }

    private static void refuseAll(PageFeeder x) {
        Check.refusesArgument("feed(0)", x, () -> x.feed(0));
        Check.refusesArgument("feed(41)", x, () -> x.feed(41));
        Check.refusesArgument("endJob(-1)", x, () -> x.endJob(-1));
        Check.refusesArgument("endJob(1000)", x, () -> x.endJob(1000));
        Check.refusesArgument("setLimit(4, 0)", x, () -> x.setLimit(4, 0));
        Check.refusesArgument("setLimit(0, 100)", x, () -> x.setLimit(0, 100));
        Check.refusesArgument("parse(1)", x, () -> x.parse(1));
        Check.refusesArgument("ahead(100, 0)", x, () -> x.ahead(100, 0));
        Check.refusesArgument("blankFor(81)", x, () -> x.blankFor(81));
        Check.refusesIndex("sheet(2, 0)", x, () -> x.sheet(2, 0));
    }

    // Promise 19

    private static void untilSoMany() {
        for (int picks = 1; picks <= 40; picks++) {
            PageFeeder x = Check.feeder(FULL);
            Check.same("feed", x.feed(picks), picks);
            Check.same("picks", x.account(0), picks);
            Check.same("sheets left", x.size(1), 40 - picks);
        }
        // Picks are counted, not sheets.
        PageFeeder y = Check.feeder(HEAD + PAIR + PAIR + PAIR);
        Check.same("feed of two pairs", y.feed(2), 2);
        Check.same("sheets left", y.size(1), 2);
        // A code sheet and one that is dropped are picks like others.
        PageFeeder z = Check.feeder(HEAD + "code 1 300 100 0;sheet 300 100 0 0 0;" + GOOD);
        Check.same("feed of two", z.feed(2), 2);
        Check.same("sheets left", z.size(1), 1);
    }

    private static void untilItStops() {
        String[] stopping = {THICK, LONG, SKEWED};
        for (String sheet : stopping) {
            PageFeeder x = Check.feeder(HEAD + GOOD + GOOD + sheet + GOOD);
            Check.same("feed", x.feed(40), 2);
            Check.same("picks", x.account(0), 3);
            Check.same("sheets left", x.size(1), 1);
            PageFeeder first = Check.feeder(HEAD + sheet + GOOD);
            Check.same("feed of the first one", first.feed(2), 0);
            Check.same("picks", first.account(0), 1);
            PageFeeder last = Check.feeder(HEAD + GOOD + sheet);
            Check.same("feed of the last one", last.feed(2), 1);
            Check.same("it is stopped", last.size(2), 1);
        }
    }

    private static void untilEmpty() {
        PageFeeder none = Check.feeder(HEAD);
        Check.same("feed(1) of none", none.feed(1), 0);
        Check.same("feed(40) of none", none.feed(40), 0);
        Check.same("picks", none.account(0), 0);
        PageFeeder x = Check.feeder(HEAD + GOOD + PAIR);
        Check.same("feed(40) of two picks", x.feed(40), 2);
        Check.same("feed(1) of what is left", x.feed(1), 0);
        Check.same("picks", x.account(0), 2);
        Check.same("it is not stopped", x.size(3), 0);
        Check.same("feed(40) of 40", Check.feeder(FULL).feed(40), 40);
    }

    private static void picksInRange() {
        Check.same("feed(1)", Check.feeder(FULL).feed(1), 1);
        Check.same("feed(40)", Check.feeder(FULL).feed(40), 40);
        PageFeeder x = Check.feeder(FULL);
        for (int picks : new int[] {0, 41, -1, -40, Integer.MIN_VALUE, Integer.MAX_VALUE}) {
            Check.refusesArgument("feed(" + picks + ")", x, () -> x.feed(picks));
        }
    }

    private static void picksThrough() {
        PageFeeder x = Check.feeder(HEAD + THICK + PAIR + GOOD + LONG);
        Check.same("none", x.feed(40), 0);
        x.accept();
        Check.same("a pair and a single", x.feed(40), 2);
        x.setLimit(1, 21);
        x.putBack();
        Check.same("the last one", x.feed(40), 1);
        Check.same("none is left", x.feed(40), 0);
    }

    private static void picksCheckedFirst() {
        PageFeeder x = stopped(HEAD + THICK + GOOD);
        for (int picks : new int[] {0, 41, -1, Integer.MIN_VALUE, Integer.MAX_VALUE}) {
            Check.refusesArgument("feed(" + picks + ") while stopped", x, () -> x.feed(picks));
        }
        PageFeeder none = Check.feeder(HEAD);
        Check.refusesArgument("feed(0) of none", none, () -> none.feed(0));
    }

    private static void stoppedAlready() {
        for (String sheet : new String[] {THICK, LONG, SKEWED}) {
            PageFeeder x = stopped(HEAD + sheet + GOOD);
            Check.refusesState("feed(1)", x, () -> x.feed(1));
            Check.refusesState("feed(40)", x, () -> x.feed(40));
            PageFeeder empty = stopped(HEAD + sheet);
            Check.refusesState("feed(1) with an empty stack", empty, () -> empty.feed(1));
            // Not what the limits would do now counts, but that it was stopped.
            x.setLimit(0, 300);
            x.setLimit(1, 200);
            x.setLimit(2, 99);
            Check.refusesState("feed(1) with other limits", x, () -> x.feed(1));
            x.undo();
            x.undo();
            x.undo();
            x.undo();
            Check.same("not stopped behind undo", x.feed(1), 0);
        }
    }

    // Promise 20

    private static void sameOrder() {
        PageFeeder x = stopped(HEAD + GOOD + "sheet 300 100 0 9 9 stuck 0;sheet 300 90 0 9 9 stuck 0;" + GOOD + GOOD);
        Check.answers("path", x::path, 1, 2, 3, -1);
        x.putBack();
        Check.answers("stack", x::stack, 1, 2, 3, 4, -1);
        Check.answers("where", s -> x.sheet(s, 7), 2, 0, 0, 0, 0);
        Check.same("the path is empty", x.path(0), -1);
        PageFeeder all = stopped(ALL_STUCK);
        all.putBack();
        Check.same("the top of 40", all.stack(0), 0);
        Check.same("the lowest of 40", all.stack(39), 39);
    }

    private static void notStuckAnyMore() {
        PageFeeder x = stopped(HEAD + "sheet 300 100 0 9 9 stuck 0;code 1 300 100 0 stuck 7;" + GOOD + PAIR);
        x.putBack();
        Check.answers("offset", s -> x.sheet(s, 6), -1, -1, -1, 0, -1);
        Check.same("sheets of the next pick", x.next(0), 1);
        Check.same("all singles, and the pair", x.feed(40), 4);
        Check.same("hidden", x.sheetsAt(5), 1);
        // The last one of the stack, which was stuck to nothing.
        PageFeeder last = stopped(HEAD + "sheet 300 151 0 9 9 stuck 9;");
        last.putBack();
        Check.same("offset of the last one", last.sheet(0, 6), -1);
        PageFeeder all = stopped(ALL_STUCK);
        all.putBack();
        for (int s = 0; s < 40; s++) {
            Check.same("offset", all.sheet(s, 6), -1);
        }
    }

    private static void halfOfSkew() {
        int[] skews = {0, 1, -1, 2, -2, 3, -3, 98, 99, -99};
        int[] halves = {0, 0, 0, 1, -1, 1, -1, 49, 49, -49};
        for (int k = 0; k < skews.length; k++) {
            PageFeeder x = stopped(HEAD + "sheet 300 100 " + skews[k] + " 9 9 stuck 0;sheet 300 100 " + skews[k] + " 9 9;");
            x.putBack();
            Check.same("skew of the first one", x.sheet(0, 2), halves[k]);
            Check.same("skew of the second one", x.sheet(1, 2), skews[k]);
        }
        // Whatever the reason was, and a code sheet, too.
        for (String sheet : new String[] {"sheet 300 151 20 9 9;", "sheet 321 100 20 9 9;", "sheet 300 100 40 9 9;", "code 1 300 100 40;"}) {
            PageFeeder x = stopped(HEAD + sheet);
            int before = x.sheet(0, 2);
            x.putBack();
            Check.same("skew", x.sheet(0, 2), before / 2);
        }
    }

    private static void stackThen() {
        PageFeeder x = Check.feeder(HEAD + GOOD + "sheet 300 100 0 9 9 stuck 0;" + GOOD + GOOD + THICK);
        x.feed(40);
        Check.same("putBack of two", x.putBack(), 4);
        x.feed(40);
        Check.same("putBack of the last one", x.putBack(), 1);
        Check.same("putBack of 40", stopped(ALL_STUCK).putBack(), 40);
    }

    /** A clearing of the path is refused when nothing is stopped: at first, behind feed, behind itself, behind undo. */
    private static void notStopped(String name, Clearing clearing) {
        PageFeeder none = new PageFeeder();
        Check.refusesState(name + " of a new object", none, () -> clearing.make(none));
        PageFeeder x = Check.feeder(HEAD + GOOD + THICK + GOOD);
        Check.refusesState(name + " at first", x, () -> clearing.make(x));
        x.feed(1);
        Check.refusesState(name + " behind feed", x, () -> clearing.make(x));
        x.feed(1);
        x.undo();
        Check.refusesState(name + " behind undo", x, () -> clearing.make(x));
        x.saveSnapshot(0);
        x.feed(1);
        clearing.make(x);
        Check.refusesState(name + " once more", x, () -> clearing.make(x));
        x.undo();
        Check.same("it is stopped again", x.size(3), 1);
        x.restoreSnapshot(0);
        Check.refusesState(name + " behind restoreSnapshot", x, () -> clearing.make(x));
    }

    private static void stoppedNoMore(Clearing clearing) {
        for (String sheet : new String[] {THICK, LONG, SKEWED}) {
            PageFeeder x = stopped(HEAD + sheet + GOOD);
            clearing.make(x);
            Check.answers("size", x::size, 2, 2 - x.sheetsAt(6), 0, 0);
            Check.same("path(0)", x.path(0), -1);
            Check.same("nothing in the path", x.sheetsAt(1), 0);
            Check.same("feed", x.feed(1) >= 0, true);
        }
    }

    // Promise 21

    private static void halvesThrownAway() {
        PageFeeder x = stopped(HEAD + "sheet 300 50 31 9 9 stuck 0;sheet 300 50 31 9 9;" + GOOD);
        Check.same("a half", x.isHalf(0), true);
        x.remove();
        Check.same("no half", x.isHalf(0), false);
        Check.same("halves", x.size(10), 0);
        Check.same("thrown away", x.account(6), 1);
        // A half from an earlier stop, too; without a half none is counted.
        PageFeeder y = stopped(HEAD + "sheet 310 100 40 9 9;" + THICK);
        y.putBack();
        y.setLimit(1, 0);
        y.feed(1);
        Check.same("stopped for its length", y.size(3), 2);
        y.remove();
        Check.same("halves", y.size(10), 0);
        Check.same("thrown away", y.account(6), 1);
        y.feed(1);
        y.remove();
        Check.same("thrown away", y.account(6), 1);
    }

    private static void numberRemoved() {
        PageFeeder x = stopped(HEAD + GOOD + THICK + "sheet 300 100 0 9 9 stuck 0;" + GOOD);
        Check.same("remove of one", x.remove(), 1);
        x.feed(1);
        Check.same("remove of two", x.remove(), 2);
        Check.answers("where", s -> x.sheet(s, 7), 2, 6, 6, 6);
        PageFeeder all = stopped(ALL_STUCK);
        Check.same("remove of 40", all.remove(), 40);
        Check.same("removed", all.sheetsAt(6), 40);
        Check.same("pages", all.size(4), 0);
    }

    // Promise 22

    private static void acceptedIsNotGood() {
        for (String sheet : new String[] {THICK, LONG}) {
            PageFeeder x = stopped(HEAD + "sheet 300 90 0 9 9;" + sheet);
            x.accept();
            Check.same("where it is", x.sheet(1, 7), 2);
            Check.same("pages", x.size(4), 4);
            Check.same("good picks", x.account(4), 1);
            Check.same("picks", x.account(0), 2);
            Check.same("accepted", x.account(8), 1);
            Check.same("the usual thickness", x.size(9), 90);
        }
    }

    private static void pagesOfAccepted() {
        String[] sheets = {"sheet 300 160 0 9 9;", "sheet 300 160 0 9 0;", "sheet 300 160 0 0 9;", "sheet 300 160 0 0 0;", "code 1 300 160 0;",
            "sheet 300 100 0 9 0 stuck 0;sheet 300 100 0 9 9;", "sheet 400 100 99 9 9;"};
        int[] pages = {2, 1, 1, 0, 0, 1, 2};
        for (int k = 0; k < sheets.length; k++) {
            PageFeeder x = stopped(HEAD + GOOD + sheets[k]);
            Check.same("accept of " + sheets[k], x.accept(), pages[k]);
            Check.same("all pages", x.size(4), 2 + pages[k]);
        }
        // By the mode and the blank at that time, not at that of the stop.
        PageFeeder x = stopped(HEAD + THICK);
        x.setDuplex(false);
        Check.same("accept in simplex", x.accept(), 1);
        x.undo();
        x.setLimit(3, 10);
        Check.same("accept of what is blank now", x.accept(), 0);
        Check.same("where it is", x.sheet(0, 7), 3);
        Check.same("accept of 40", stopped(ALL_STUCK).accept(), 2);
    }

    private static void acceptSkewed() {
        for (String sheet : new String[] {SKEWED, "code 1 300 100 -31;", "sheet 300 50 -99 9 9 stuck 0;sheet 300 50 0 9 9;"}) {
            PageFeeder x = stopped(HEAD + sheet + GOOD);
            Check.refusesState("accept", x, x::accept);
            x.setLimit(2, 99);
            Check.refusesState("accept with another edge", x, x::accept);
            Check.same("remove", x.remove() > 0, true);
        }
        // A skewed one that is stopped for another reason can be accepted.
        Check.same("accept of a thick and skewed one", stopped(HEAD + "sheet 300 151 99 9 9;").accept(), 2);
        Check.same("accept of a long and skewed one", stopped(HEAD + "sheet 321 100 99 9 9;").accept(), 2);
    }

    private static void acceptEndsStop() {
        for (String sheet : new String[] {THICK, LONG, "code 1 300 151 0;"}) {
            PageFeeder x = stopped(HEAD + sheet + GOOD);
            x.accept();
            Check.answers("size", x::size, 2, 1, 0, 0);
            Check.same("path(0)", x.path(0), -1);
            Check.same("nothing in the path", x.sheetsAt(1), 0);
            Check.same("feed", x.feed(40), 1);
        }
    }

    // Promise 23

    private static void nextJob() {
        PageFeeder x = Check.feeder(HEAD + GOOD + GOOD);
        x.feed(1);
        x.endJob(0);
        x.endJob(999);
        x.feed(1);
        Check.answers("job of page", p -> x.page(p, 2), 0, 0, 2, 2);
        Check.answers("code", job -> x.job(job, 0), -1, 0, 999);
        Check.answers("pages", job -> x.job(job, 1), 2, 0, 2);
    }

    private static void numberOfNextJob() {
        PageFeeder x = Check.feeder(HEAD + "code 3 300 100 0;" + THICK);
        Check.same("endJob", x.endJob(0), 1);
        x.feed(40);
        Check.same("endJob while stopped, behind a code sheet", x.endJob(999), 3);
        Check.same("it is stopped still", x.size(3), 1);
        x.undo();
        Check.same("endJob behind undo", x.endJob(0), 3);
        for (int job = 4; job <= 98; job++) {
            Check.same("endJob", x.endJob(job), job);
        }
    }

    private static void codeCheckedFirst() {
        PageFeeder x = new PageFeeder();
        Check.range("endJob", x, 0, 999, x::endJob);
        for (int job = 3; job <= 98; job++) {
            x.endJob(0);
        }
        Check.same("99 jobs", x.size(5), 99);
        for (int code : new int[] {-1, 1000, Integer.MIN_VALUE, Integer.MAX_VALUE}) {
            Check.refusesArgument("endJob(" + code + ") with 99 jobs", x, () -> x.endJob(code));
        }
    }

    private static void jobs99() {
        PageFeeder x = Check.feeder(HEAD + "code 3 300 100 0;again 39;");
        x.feed(39);
        for (int jobs = 41; jobs <= 99; jobs++) {
            Check.same("endJob", x.endJob(999), jobs - 1);
        }
        Check.refusesState("endJob(0) with 99 jobs", x, () -> x.endJob(0));
        Check.refusesState("endJob(999) with 99 jobs", x, () -> x.endJob(999));
        x.undo();
        Check.same("endJob with 98 jobs", x.endJob(7), 98);
        Check.same("its code", x.job(98, 0), 7);
        // Only endJob refuses: a code sheet begins the next job also then.
        Check.same("feed of a code sheet", x.feed(1), 1);
        Check.same("jobs", x.size(5), 100);
        Check.same("its code", x.job(99, 0), 3);
        Check.refusesState("endJob with 100 jobs", x, () -> x.endJob(0));
        PageFeeder most = Check.feeder(HEAD + "code 3 300 100 0;again 39;");
        for (int job = 1; job <= 98; job++) {
            most.endJob(job);
        }
        Check.same("40 code sheets behind 99 jobs", most.feed(40), 40);
        Check.same("jobs", most.size(5), 139);
        Check.answers("the last job", what -> most.job(138, what), 3, 0, -1, 0);
        Check.refusesState("endJob with 139 jobs", most, () -> most.endJob(0));
        Check.same("undo", most.undo(), 9);
        Check.refusesState("endJob with 99 jobs", most, () -> most.endJob(0));
    }

    // Promises 24 and 25

    private static final int[] LEAST = {101, 0, 0, 0};
    private static final int[] GREATEST = {300, 200, 99, 1000};

    private static void limitsInRange() {
        PageFeeder x = Check.feeder(HEAD);
        for (int w = 0; w < 4; w++) {
            int what = w;
            Check.range("setLimit of " + what, x, LEAST[what], GREATEST[what], value -> x.setLimit(what, value));
            Check.same("limit", x.limit(what), GREATEST[what]);
            x.setLimit(what, LEAST[what]);
            Check.same("limit", x.limit(what), LEAST[what]);
        }
        Check.answers("limit", x::limit, 101, 0, 0, 0);
    }

    private static void previousLimit() {
        PageFeeder x = Check.feeder(HEAD + "limits 170 40 50 60;");
        int[] before = {170, 40, 50, 60};
        for (int what = 0; what < 4; what++) {
            Check.same("the one of the text", x.setLimit(what, GREATEST[what]), before[what]);
            Check.same("the greatest", x.setLimit(what, LEAST[what]), GREATEST[what]);
            Check.same("the least", x.setLimit(what, LEAST[what]), LEAST[what]);
            x.undo();
            x.undo();
            x.undo();
            Check.same("the one of the text behind undo", x.setLimit(what, before[what]), before[what]);
        }
    }

    private static void limitsOutOfRange() {
        PageFeeder x = stopped(HEAD + THICK);
        for (int what : new int[] {-1, 4, Integer.MIN_VALUE, Integer.MAX_VALUE}) {
            Check.refusesArgument("setLimit(" + what + ", 101)", x, () -> x.setLimit(what, 101));
            Check.refusesArgument("setLimit(" + what + ", 5)", x, () -> x.setLimit(what, 5));
            Check.refusesArgument("setLimit(" + what + ", -1)", x, () -> x.setLimit(what, -1));
        }
        // Each limit has a range of its own.
        Check.refusesArgument("setLimit(0, 100)", x, () -> x.setLimit(0, 100));
        Check.refusesArgument("setLimit(1, 201)", x, () -> x.setLimit(1, 201));
        Check.refusesArgument("setLimit(2, 100)", x, () -> x.setLimit(2, 100));
        Check.refusesArgument("setLimit(3, 1001)", x, () -> x.setLimit(3, 1001));
        Check.same("setLimit(1, 100)", x.setLimit(1, 100), 20);
        Check.same("setLimit(3, 301)", x.setLimit(3, 301), 5);
        Check.same("it is stopped still", x.size(3), 1);
    }

    private static void duplexBefore() {
        PageFeeder x = Check.feeder(HEAD);
        Check.same("setDuplex(true)", x.setDuplex(true), true);
        Check.same("setDuplex(false)", x.setDuplex(false), true);
        Check.same("setDuplex(false)", x.setDuplex(false), false);
        Check.same("setDuplex(true)", x.setDuplex(true), false);
        Check.same("setDuplex(true)", x.setDuplex(true), true);
        PageFeeder y = Check.feeder(HEAD + "simplex;");
        Check.same("setDuplex(true) of simplex", y.setDuplex(true), false);
        y.undo();
        Check.same("setDuplex(false) behind undo", y.setDuplex(false), false);
    }

    // Promise 26

    private static void undoesLatest() {
        PageFeeder x = Check.feeder(HEAD);
        x.setLimit(3, 1);
        x.setLimit(3, 2);
        x.undo();
        Check.same("behind 1, 2, undo", x.limit(3), 1);
        x.setLimit(3, 3);
        x.setLimit(3, 4);
        x.undo();
        x.undo();
        Check.same("behind 1, 3, 4, undo, undo", x.limit(3), 1);
        x.undo();
        Check.same("behind one more", x.limit(3), 5);
        // Round the ten several times, always two on and one back.
        for (int k = 10; k < 40; k++) {
            x.setLimit(3, k);
            x.setLimit(3, 900);
            x.undo();
            Check.same("two on, one back", x.limit(3), k);
        }
        // One of the ten was given up for each change that came to ten others: nine are left behind the last undo.
        for (int k = 38; k >= 30; k--) {
            x.undo();
            Check.same("back", x.limit(3), k);
        }
        Check.same("no more", x.undo(), -1);
        Check.same("the limit", x.limit(3), 30);
        // A refused change is none.
        x.setLimit(3, 7);
        Check.refusesArgument("setLimit(3, 1001)", x, () -> x.setLimit(3, 1001));
        Check.refusesState("putBack", x, x::putBack);
        x.undo();
        Check.same("the limit", x.limit(3), 30);
    }

    private static void stillUndoable() {
        PageFeeder x = Check.feeder(FULL);
        for (int k = 0; k < 12; k++) {
            x.feed(1);
        }
        for (int left = 9; left >= 0; left--) {
            Check.same("undo", x.undo(), left);
            Check.same("as size tells", x.size(11), left);
            Check.same("pages", x.size(4), 2 * (2 + left));
        }
        x.feed(1);
        Check.same("undo of one", x.undo(), 0);
    }

    private static void noneToUndo() {
        PageFeeder x = new PageFeeder();
        Check.same("of a new object", x.undo(), -1);
        Check.same("once more", x.undo(), -1);
        Check.sameText("everything", Check.all(x), Check.all(new PageFeeder()));
        PageFeeder y = Check.feeder(HEAD + GOOD + THICK);
        y.feed(40);
        y.saveSnapshot(0);
        y.undo();
        String before = Check.all(y);
        Check.same("behind all", y.undo(), -1);
        Check.sameText("everything", Check.all(y), before);
        y.restoreSnapshot(0);
        before = Check.all(y);
        Check.same("behind restoreSnapshot", y.undo(), -1);
        Check.sameText("everything", Check.all(y), before);
        Check.parse(y, HEAD + GOOD);
        Check.same("behind parse", y.undo(), -1);
        Check.same("sheets", y.size(0), 1);
    }

    // Promises 27 and 28

    private static void inPlaceOfOld() {
        PageFeeder x = Check.feeder(FULL);
        for (int k = 1; k <= 3; k++) {
            x.feed(1);
            Check.same("saveSnapshot", x.saveSnapshot(k % 2), true);
        }
        x.feed(40);
        x.restoreSnapshot(1);
        Check.same("the later one in slot 1", x.account(0), 3);
        x.restoreSnapshot(0);
        Check.same("the one in slot 0", x.account(0), 2);
        // What is saved stands by itself: changes and undo behind it do not reach it.
        x.saveSnapshot(1);
        x.feed(5);
        x.undo();
        x.feed(7);
        x.restoreSnapshot(1);
        Check.same("the one in slot 1", x.account(0), 2);
    }

    private static void noSlotToSave() {
        PageFeeder x = stopped(HEAD + GOOD + THICK);
        String before = Check.all(x);
        for (int slot : new int[] {-1, 2, Integer.MIN_VALUE, Integer.MAX_VALUE}) {
            Check.same("saveSnapshot(" + slot + ")", x.saveSnapshot(slot), false);
        }
        Check.sameText("everything", Check.all(x), before);
        Check.same("slot 0 is empty still", x.restoreSnapshot(0), false);
        Check.same("slot 1 is empty still", x.restoreSnapshot(1), false);
        Check.same("saveSnapshot(0)", x.saveSnapshot(0), true);
        Check.same("saveSnapshot(1)", x.saveSnapshot(1), true);
        Check.sameText("everything", Check.all(x), before);
    }

    private static void restoreClearsUndo() {
        PageFeeder x = Check.feeder(FULL);
        x.feed(1);
        x.saveSnapshot(0);
        for (int k = 0; k < 12; k++) {
            x.feed(1);
        }
        Check.same("restoreSnapshot(0)", x.restoreSnapshot(0), true);
        Check.same("changes", x.size(11), 0);
        Check.same("undo", x.undo(), -1);
        Check.same("picks", x.account(0), 1);
        // Changes from there on can be undone, down to the snapshot and no further.
        x.feed(2);
        x.feed(2);
        Check.same("undo", x.undo(), 1);
        Check.same("undo", x.undo(), 0);
        Check.same("undo", x.undo(), -1);
        Check.same("picks", x.account(0), 1);
        // It is cleared also if the snapshot is as everything is.
        x.setDuplex(true);
        x.saveSnapshot(1);
        x.restoreSnapshot(1);
        Check.same("changes", x.size(11), 0);
    }

    private static void staysInSlot() {
        PageFeeder x = stopped(HEAD + GOOD + "sheet 300 100 0 9 9 stuck 0;" + GOOD);
        x.saveSnapshot(0);
        String saved = Check.allButUndo(x);
        for (int k = 0; k < 3; k++) {
            Check.same("restoreSnapshot(0)", x.restoreSnapshot(0), true);
            Check.sameText("everything", Check.allButUndo(x), saved);
            change(x, k);
            change(x, 3 + k);
            x.feed(40);
        }
        Check.parse(x, "x");
        Check.same("restoreSnapshot(0) behind an error", x.restoreSnapshot(0), true);
        Check.sameText("everything", Check.allButUndo(x), saved);
    }

    private static void noSlotToRestore() {
        PageFeeder x = stopped(HEAD + GOOD + THICK);
        x.saveSnapshot(0);
        x.saveSnapshot(1);
        x.setDuplex(false);
        String before = Check.all(x);
        for (int slot : new int[] {-1, 2, Integer.MIN_VALUE, Integer.MAX_VALUE}) {
            Check.same("restoreSnapshot(" + slot + ")", x.restoreSnapshot(slot), false);
            Check.sameText("everything", Check.all(x), before);
        }
        Check.same("undo", x.undo(), 1);
    }

    private static void emptySlot() {
        PageFeeder x = stopped(HEAD + GOOD + THICK);
        x.setDuplex(false);
        String before = Check.all(x);
        Check.same("slot 0", x.restoreSnapshot(0), false);
        Check.same("slot 1", x.restoreSnapshot(1), false);
        Check.sameText("everything", Check.all(x), before);
        x.saveSnapshot(0);
        Check.same("slot 1 with slot 0 full", x.restoreSnapshot(1), false);
        Check.sameText("everything", Check.all(x), before);
        Check.same("undo", x.undo(), 1);
        PageFeeder y = stopped(HEAD + GOOD + THICK);
        y.saveSnapshot(1);
        Check.same("slot 0 with slot 1 full", y.restoreSnapshot(0), false);
        Check.same("slot 1", y.restoreSnapshot(1), true);
    }
}
