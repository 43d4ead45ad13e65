/** The document's part 'Terms': each sentence that names a boundary case has a method here. */
public final class TermsBoundsTest {
    public static void main(String[] args) {
        constants();
        twelveCells();
        theMomentIsZeroAtFirst();
        eachCommitThatWritesMakesTheMomentGreaterByOne();
        aVersionIsAValueFrom0To9999();
        atFirstEachCellHasOneVersion();
        theNewestIsThatOfTheGreatestMoment();
        atMost40OldVersions();
        atMost40ReadersEver();
        atMost8Open();
        aPurseOf0To9999AtFirst();
        nobodyElseSeesWrites();
        aReaderIsOpenAtFirst();
        aReaderSeesTheGreatestMomentNotGreaterThanItsOwn();
        removedAsItBecomesOld();
        removedByAClose();
        removedByACommit();
        removedByAnEviction();
        keptWhileAnybodySeesIt();
        theRentIsFrom0To99AndAtFirst4();
        theShareIsRoundedUp();
        roundedUpForEachVersionByItself();
        ifThereAreNoneNobodyPays();
        aWidowHasNoDue();
        aWidowOnceForATermOf1To20();
        duesAreToldAsAtTheBeginningOfTheTick();
        atLeastItsDue();
        theEvictedKeepsItsCoins();
        aWidowNeitherPaysNorIsEvicted();
        theTermBecomesLessAfterThePaying();
        onlyOpenWidowsTermsBecomeLess();
        removedAfterThePaying();
        theNumberOfTheTickBecomesGreaterByOne();
        aConflictNeedsAGreaterMoment();
        aConflictNeedsAWriteOfTheCell();
        anyCellIsEnoughForAConflict();
        skewNeedsALesserMoment();
        skewNeedsReadsOfBoth();
        skewNeedsOtherCells();
        aCellCountsAsReadAsItCommits();
        skewWithAnyEarlierCommit();
        noSkewWithACommitThatWasUndone();
        skewIsNotForbiddenAtFirst();
        eachWriteIsAVersionOfThisMoment();
        aCommitWithoutWrites();
        theTextIsEmptyAtFirstAndHas60AtMost();
        aTextIsOneOrMoreWrites();
        historyIsOf4AtMost();
        theOldestIsDropped();
        errorsAndNoneRecordNothing();
        thereIsNoSnapshotAtFirst();
        aStateIsEverythingBut();
        noneIsReturnedOnlyIfNoErrorApplies();
        aRunOf512Calls();
        Due.end("TermsBoundsTest");
    }

    /** "UNKNOWN = -1", "BAD_VALUE = -2", "FULL = -3", "NOT_POSSIBLE = -4", "NONE = -5", "CONFLICT = -6" */
    private static void constants() {
        Due.is("UNKNOWN", RentedMoments.UNKNOWN, -1);
        Due.is("BAD_VALUE", RentedMoments.BAD_VALUE, -2);
        Due.is("FULL", RentedMoments.FULL, -3);
        Due.is("NOT_POSSIBLE", RentedMoments.NOT_POSSIBLE, -4);
        Due.is("NONE", RentedMoments.NONE, -5);
        Due.is("CONFLICT", RentedMoments.CONFLICT, -6);
    }

    // ---- cells and versions

    /** "There are 12 cells, numbered from 0." */
    private static void twelveCells() {
        RentedMoments x = Runs.withReaders(1, 0);
        for (int cell = 0; cell < 12; cell++) {
            Due.is("cell " + cell, x.cell(cell, 0), 0);
            Due.is("write cell " + cell, x.write(0, cell, cell + 1), cell + 1);
        }
        Due.is("no cell -1", x.cell(-1, 0), RentedMoments.UNKNOWN);
        Due.is("no cell 12", x.cell(12, 0), RentedMoments.UNKNOWN);
        x.commit(0);
        for (int cell = 0; cell < 12; cell++) {
            Due.is("each has its own value, cell " + cell, x.cell(cell, 0), cell + 1);
        }
        Due.is("twelve versions became old", x.count(8), 12);
    }

    /** "The moment is 0 at first" */
    private static void theMomentIsZeroAtFirst() {
        Due.is("the moment", new RentedMoments().count(0), 0);
        Due.is("the first reader's", Runs.withReaders(1, 0).reader(0, 1), 0);
    }

    /** "each commit that writes makes it greater by 1" */
    private static void eachCommitThatWritesMakesTheMomentGreaterByOne() {
        RentedMoments x = new RentedMoments();
        for (int i = 1; i <= 40; i++) {
            Due.is("a commit of one write", Runs.commitOne(x, 0, i), i);
        }
        x.tick(1);
        Due.is("the fortieth and a tick", x.count(0), 40);
        Due.is("are undone", x.undo() + x.undo(), 3 + 2);
        Due.is("the thirty-ninth", x.count(0), 39);
        RentedMoments y = new RentedMoments();
        Due.is("a commit of twelve writes", y.commit(Runs.openWithText(y, Runs.ALL_CELLS)), 1);
        Due.is("one of the value that was", Runs.commitOne(y, 0, 1), 2);
        Due.is("one without writes", y.commit(y.open(0)), 2);
    }

    /** "A version is a value (0 to 9999) of a cell from a moment on." */
    private static void aVersionIsAValueFrom0To9999() {
        RentedMoments x = new RentedMoments();
        Due.is("9999", Runs.commitOne(x, 0, 9999), 1);
        x.open(9);
        Due.is("0", Runs.commitOne(x, 0, 0), 2);
        Due.is("the newest", x.version(0, 0, 0), 0);
        Due.is("the old one", x.version(0, 1, 0), 9999);
    }

    /** "At first each cell has one version, of the value 0 and the moment 0." */
    private static void atFirstEachCellHasOneVersion() {
        RentedMoments x = new RentedMoments();
        for (int cell = 0; cell < 12; cell++) {
            Due.is("versions", x.cell(cell, 2), 1);
            Due.is("value", x.version(cell, 0, 0), 0);
            Due.is("moment", x.version(cell, 0, 1), 0);
            Due.is("no other", x.version(cell, 1, 0), RentedMoments.NONE);
        }
    }

    /** "The version of a cell with the greatest moment is its newest one; the others are old." */
    private static void theNewestIsThatOfTheGreatestMoment() {
        RentedMoments x = Runs.withReaders(1, 9);
        Due.is("the only one is not old", x.count(7), 0);
        Runs.commitOne(x, 0, 50);
        x.open(9);
        Runs.commitOne(x, 0, 1);
        Due.is("the newest", x.cell(0, 0), 1);
        Due.is("the others", x.count(7), 2);
        Due.is("an old one costs", x.version(0, 1, 4), 4);
        Due.is("the oldest too", x.version(0, 2, 4), 4);
        Due.is("the newest does not", x.version(0, 0, 4), 0);
    }

    private static RentedMoments with36OldVersions() {
        RentedMoments x = new RentedMoments();
        for (int i = 0; i < 3; i++) {
            x.open(9999);
            x.commit(Runs.openWithText(x, Runs.ALL_CELLS));
        }
        x.open(9999);
        return x;
    }

    /** "At most 40 old versions are kept." */
    private static void atMost40OldVersions() {
        RentedMoments x = with36OldVersions();
        Due.is("four more", x.commit(Runs.openWithText(x, "0=1;1=1;2=1;3=1")), 4);
        Due.is("forty", x.count(7), 40);
        RentedMoments y = with36OldVersions();
        Due.is("five more", y.commit(Runs.openWithText(y, "0=1;1=1;2=1;3=1;4=1")), RentedMoments.FULL);
        Due.is("thirty-six", y.count(7), 36);
    }

    // ---- readers

    /** "There are at most 40 readers ever, numbered from 0" */
    private static void atMost40ReadersEver() {
        RentedMoments x = new RentedMoments();
        for (int i = 0; i < 40; i++) {
            Due.is("a reader", x.open(0), i);
            x.commit(i);
        }
        Due.is("no more", x.open(0), RentedMoments.FULL);
        Due.is("the last one is there", x.reader(39, 0), 1);
        x.undo();
        x.undo();
        Due.is("one who was undone has not been", x.open(0), 39);
    }

    /** "at most 8 are open at a time" */
    private static void atMost8Open() {
        RentedMoments x = new RentedMoments();
        for (int i = 0; i < 8; i++) {
            Due.is("open", x.open(0), i);
        }
        Due.is("no ninth", x.open(0), RentedMoments.FULL);
        Due.is("eight are open", x.count(3), 8);
        x.close(0);
        Due.is("in place of the closed", x.open(0), 8);
        Due.is("no ninth then", x.open(0), RentedMoments.FULL);
    }

    /** "a purse of coins (0 to 9999 at first)" */
    private static void aPurseOf0To9999AtFirst() {
        RentedMoments x = new RentedMoments();
        x.open(0);
        x.open(9999);
        Due.is("an empty one", x.reader(0, 2), 0);
        Due.is("a full one", x.reader(1, 2), 9999);
        Due.is("less", x.open(-1), RentedMoments.BAD_VALUE);
        Due.is("more", x.open(10000), RentedMoments.BAD_VALUE);
    }

    /** "writes: values for cells, which nobody else sees" */
    private static void nobodyElseSeesWrites() {
        RentedMoments x = Runs.withReaders(2, 0);
        x.write(0, 3, 33);
        x.open(0);
        Due.is("not one of before", x.read(1, 3), 0);
        Due.is("not one of after", x.read(2, 3), 0);
        Due.is("not in a sum", x.reader(1, 9), 0);
        Due.is("not in its own sum", x.reader(0, 9), 0);
        Due.is("not as a value", x.cell(3, 0), 0);
        Due.is("not as a version", x.cell(3, 2), 1);
        Due.is("itself", x.read(0, 3), 33);
    }

    /** "It is open (at first), committed, closed or evicted." */
    private static void aReaderIsOpenAtFirst() {
        RentedMoments x = Runs.withReaders(1, 0);
        Due.is("its state", x.reader(0, 0), 0);
        Due.is("open readers", x.count(3), 1);
    }

    /** "of each cell, the version with the greatest moment that is not greater than its own" */
    private static void aReaderSeesTheGreatestMomentNotGreaterThanItsOwn() {
        RentedMoments x = Runs.withReaders(1, 0);
        for (int i = 1; i <= 4; i++) {
            // Cell 0 at each moment, cell 1 at the moments 1 and 3 only.
            x.commit(Runs.openWithText(x, i % 2 == 1 ? "0=1" + i + ";1=2" + i : "0=1" + i));
            x.open(0);
        }
        int[] ofCell0 = {0, 11, 12, 13, 14};
        int[] ofCell1 = {0, 21, 21, 23, 23};
        for (int moment = 0; moment <= 4; moment++) {
            int reader = moment * 2;
            Due.is("the reader's moment", x.reader(reader, 1), moment);
            Due.is("cell 0 at " + moment, x.read(reader, 0), ofCell0[moment]);
            Due.is("cell 1 at " + moment, x.read(reader, 1), ofCell1[moment]);
            Due.is("sum at " + moment, x.reader(reader, 9), ofCell0[moment] + ofCell1[moment]);
        }
    }

    /** "An old version is removed as soon as no open reader sees it": nobody saw it */
    private static void removedAsItBecomesOld() {
        RentedMoments x = new RentedMoments();
        Runs.commitOne(x, 0, 1);
        Due.is("none is kept", x.count(7), 0);
        Due.is("one is removed", x.count(8), 1);
        Due.is("no second version", x.version(0, 1, 0), RentedMoments.NONE);
        x.open(0);
        Runs.commitOne(x, 0, 2);
        Runs.commitOne(x, 0, 3);
        Due.is("the one that is seen is kept", x.count(7), 1);
        Due.is("the one between is removed", x.count(8), 2);
        Due.is("the seen one", x.version(0, 1, 0), 1);
    }

    /** The same: who saw it is closed */
    private static void removedByAClose() {
        RentedMoments x = Runs.withReaders(1, 0);
        Runs.commitOne(x, 0, 1);
        Due.is("kept", x.count(7), 1);
        Due.is("removed by that", x.close(0), 1);
        Due.is("none is kept", x.count(7), 0);
        Due.is("removed so far", x.count(8), 1);
    }

    /** The same: who saw it has committed, with writes or without */
    private static void removedByACommit() {
        RentedMoments x = Runs.withReaders(2, 0);
        x.write(1, 5, 5);
        Runs.commitOne(x, 0, 1);
        x.commit(0);
        Due.is("another one sees it still", x.count(7), 1);
        x.commit(1);
        Due.is("nobody sees it", x.count(7), 0);
        Due.is("with that of cell 5, which nobody saw", x.count(8), 2);
    }

    /** The same: who saw it is evicted */
    private static void removedByAnEviction() {
        RentedMoments x = Runs.withReaders(1, 4);
        Runs.commitOne(x, 0, 1);
        x.tick(1);
        Due.is("it pays", x.count(7), 1);
        x.tick(1);
        Due.is("it is evicted", x.count(7), 0);
        Due.is("removed so far", x.count(8), 1);
    }

    /** The same: any open reader, a widow and one with no coins too, keeps it */
    private static void keptWhileAnybodySeesIt() {
        RentedMoments x = Runs.withReaders(3, 0);
        Runs.commitOne(x, 0, 1);
        x.widow(0, 20);
        x.close(1);
        Due.is("two see it", x.count(7), 1);
        x.tick(1);
        Due.is("the widow sees it", x.count(7), 1);
        Due.is("she alone", x.version(0, 1, 2), 1);
        Due.is("nobody pays", x.version(0, 1, 3), 0);
    }

    // ---- rent

    /** "The rent is from 0 to 99 coins (at first 4)." */
    private static void theRentIsFrom0To99AndAtFirst4() {
        RentedMoments x = Runs.withReaders(1, 0);
        Runs.commitOne(x, 0, 1);
        Due.is("at first", x.reader(0, 3), 4);
        x.setRent(99);
        Due.is("the most", x.reader(0, 3), 99);
        x.setRent(0);
        Due.is("the least", x.reader(0, 3), 0);
        Due.is("less", x.setRent(-1), RentedMoments.BAD_VALUE);
        Due.is("more", x.setRent(100), RentedMoments.BAD_VALUE);
    }

    /** "rent / n each in a tick, rounded up" */
    private static void theShareIsRoundedUp() {
        int[] rents = {0, 1, 4, 7, 12, 98, 99};
        int[][] shares = {
            {0, 0, 0, 0, 0, 0, 0},
            {1, 1, 1, 1, 1, 1, 1},
            {4, 2, 2, 1, 1, 1, 1},
            {7, 4, 3, 2, 2, 2, 1},
            {12, 6, 4, 3, 3, 2, 2},
            {98, 49, 33, 25, 20, 17, 14},
            {99, 50, 33, 25, 20, 17, 15},
        };
        for (int i = 0; i < rents.length; i++) {
            for (int n = 1; n <= 7; n++) {
                RentedMoments x = Runs.withReaders(n, 99);
                x.setRent(rents[i]);
                Runs.commitOne(x, 0, 1);
                String label = rents[i] + " / " + n;
                Due.is(label, x.version(0, 1, 4), shares[i][n - 1]);
                Due.is("the due of " + label, x.reader(0, 3), shares[i][n - 1]);
                x.tick(1);
                Due.is("paid of " + label, x.count(10), n * shares[i][n - 1]);
            }
        }
    }

    /** "for each version by itself" */
    private static void roundedUpForEachVersionByItself() {
        RentedMoments x = Runs.withReaders(2, 100);
        x.setRent(5);
        Runs.commitOne(x, 0, 1);
        Runs.commitOne(x, 1, 1);
        x.open(100);
        Runs.commitOne(x, 2, 1);
        // Cells 0 and 1: 5 / 2 each. Cell 2: 5 / 3 for two of the moment 0 and one of the moment 2.
        Due.is("three of its own", x.reader(0, 3), 3 + 3 + 2);
        Due.is("one of its own", x.reader(4, 3), 2);
        x.tick(1);
        Due.is("all coins", x.count(10), 8 + 8 + 2);
    }

    /** "(if there are none, nobody pays)" */
    private static void ifThereAreNoneNobodyPays() {
        RentedMoments x = Runs.withReaders(2, 100);
        Runs.commitOne(x, 0, 1);
        x.widow(0, 3);
        x.widow(1, 3);
        Due.is("the share", x.version(0, 1, 4), 0);
        x.tick(3);
        Due.is("all coins", x.count(10), 0);
        Due.is("it is kept", x.count(7), 1);
    }

    /** "a widow has no due" */
    private static void aWidowHasNoDue() {
        RentedMoments x = Runs.withReaders(1, 0);
        Runs.commitOne(x, 0, 1);
        Due.is("before", x.reader(0, 3), 4);
        x.widow(0, 1);
        Due.is("as a widow", x.reader(0, 3), 0);
        x.tick(1);
        Due.is("after the term", x.reader(0, 3), 4);
        RentedMoments y = Runs.withReaders(2, 9);
        Runs.commitOne(y, 0, 1);
        y.widow(0, 1);
        Due.is("beside one who pays", y.reader(0, 3), 0);
        Due.is("the one who pays", y.reader(1, 3), 4);
        y.tick(1);
        Due.is("both share it then", y.reader(0, 3), 2);
    }

    /** "A reader can be made a widow once, for a term of 1 to 20 ticks." */
    private static void aWidowOnceForATermOf1To20() {
        RentedMoments x = Runs.withReaders(3, 0);
        Due.is("no term of 0", x.widow(0, 0), RentedMoments.BAD_VALUE);
        Due.is("no term of 21", x.widow(0, 21), RentedMoments.BAD_VALUE);
        Due.is("a term of 1", x.widow(0, 1), 0);
        Due.is("a term of 20", x.widow(1, 20), 0);
        x.tick(1);
        Due.is("over", x.reader(0, 6), 0);
        Due.is("not twice", x.widow(0, 1), RentedMoments.NOT_POSSIBLE);
        x.tick(18);
        Due.is("almost over", x.reader(1, 6), 1);
        x.tick(1);
        Due.is("over too", x.reader(1, 6), 0);
        Due.is("not twice either", x.widow(1, 1), RentedMoments.NOT_POSSIBLE);
        Due.is("another one", x.widow(2, 20), 0);
    }

    // ---- a tick

    /** "1. The due of each open reader is told, as it is at the beginning of the tick." */
    private static void duesAreToldAsAtTheBeginningOfTheTick() {
        RentedMoments x = new RentedMoments();
        x.setRent(10);
        x.open(3);
        x.open(4);
        x.open(100);
        Runs.commitOne(x, 0, 1);
        Due.is("the first can't pay a third", x.tick(1), 1);
        Due.is("the second pays a third", x.reader(1, 7), 4);
        Due.is("the last pays a third", x.reader(2, 7), 4);
        Due.is("then a half is due", x.reader(2, 3), 5);
        Due.is("the second can't pay that", x.tick(1), 1);
        Due.is("the last has paid it", x.reader(2, 7), 9);
        Due.is("then all is due", x.reader(2, 3), 10);
    }

    /** "2. .. if its purse has at least its due, it pays; otherwise it is evicted" */
    private static void atLeastItsDue() {
        RentedMoments x = Runs.withReaders(1, 4);
        Runs.commitOne(x, 0, 1);
        Due.is("just the due", x.tick(1), 0);
        Due.is("is paid", x.reader(0, 7), 4);
        Due.is("nothing is left", x.reader(0, 2), 0);
        RentedMoments y = Runs.withReaders(1, 3);
        Runs.commitOne(y, 0, 1);
        Due.is("one coin less", y.tick(1), 1);
        Due.is("is not paid", y.reader(0, 7), 0);
        RentedMoments z = Runs.withReaders(1, 0);
        Due.is("no coins, no due", z.tick(60), 0);
        Due.is("open still", z.reader(0, 0), 0);
    }

    /** "and keeps its coins" */
    private static void theEvictedKeepsItsCoins() {
        RentedMoments x = Runs.withReaders(1, 7);
        Runs.commitOne(x, 0, 1);
        x.tick(2);
        Due.is("evicted", x.reader(0, 0), 3);
        Due.is("its coins", x.reader(0, 2), 3);
        x.tick(5);
        Due.is("later on too", x.reader(0, 2), 3);
        Due.is("what it has paid", x.reader(0, 7), 4);
        Due.is("all coins", x.count(10), 4);
    }

    /** "2. Each open reader who is no widow" */
    private static void aWidowNeitherPaysNorIsEvicted() {
        RentedMoments x = new RentedMoments();
        x.open(0);
        x.open(9);
        Runs.commitOne(x, 0, 1);
        x.widow(0, 2);
        x.widow(1, 2);
        Due.is("nobody is evicted", x.tick(2), 0);
        Due.is("nobody pays", x.count(10), 0);
        Due.is("the one without coins is evicted then", x.tick(1), 1);
        Due.is("the other pays its half", x.reader(1, 7), 2);
    }

    /** "3. The term of each open widow becomes less by 1; when it is 0, the reader is no widow any more." */
    private static void theTermBecomesLessAfterThePaying() {
        RentedMoments x = Runs.withReaders(2, 50);
        Runs.commitOne(x, 0, 1);
        x.widow(0, 1);
        x.tick(1);
        Due.is("the other has paid alone", x.reader(1, 7), 4);
        Due.is("she has not", x.reader(0, 7), 0);
        Due.is("no widow any more", x.count(14), 0);
        Due.is("both pay from now on", x.version(0, 1, 3), 2);
        x.tick(1);
        Due.is("her half", x.reader(0, 7), 2);
        RentedMoments y = Runs.withReaders(1, 0);
        y.widow(0, 2);
        y.tick(1);
        Due.is("a widow still", y.count(14), 1);
        Due.is("one tick left", y.reader(0, 6), 1);
    }

    /** "of each open widow": those of others stay */
    private static void onlyOpenWidowsTermsBecomeLess() {
        RentedMoments x = Runs.withReaders(3, 0);
        x.widow(0, 5);
        x.widow(1, 5);
        x.close(0);
        x.commit(1);
        x.tick(2);
        Due.is("the closed one's", x.reader(0, 6), 5);
        Due.is("the committed one's", x.reader(1, 6), 5);
        Due.is("one who is no widow", x.reader(2, 6), 0);
        Due.is("open widows", x.count(14), 0);
    }

    /** "4. Old versions that no open reader sees any more are removed.": they cost in this tick still */
    private static void removedAfterThePaying() {
        RentedMoments x = new RentedMoments();
        x.open(0);
        x.open(50);
        Runs.commitOne(x, 0, 1);
        x.open(3);
        Runs.commitOne(x, 1, 1);
        // Cell 0: two of the moment 0. Cell 1: these and one of the moment 1, thus 4 / 3.
        Due.is("one of three goes", x.tick(1), 1);
        Due.is("the one who stays pays shares", x.reader(1, 7), 2 + 2);
        Due.is("what it sees is kept", x.count(7), 2);
        Due.is("the one of the moment 1 stays too", x.reader(3, 2), 1);
        Due.is("it goes then", x.tick(1), 1);
        Due.is("nothing is removed, the one who stays sees both", x.count(8), 0);
        Due.is("shared in that tick", x.reader(1, 7), 4 + 4 + 2);
        x.tick(60);
        Due.is("all are gone", x.count(3), 0);
        Due.is("both are removed", x.count(8), 2);
        Due.is("none is kept", x.count(7), 0);
    }

    /** "5. The number of the tick becomes greater by 1." */
    private static void theNumberOfTheTickBecomesGreaterByOne() {
        RentedMoments x = new RentedMoments();
        Due.is("at first", x.count(1), 0);
        x.tick(1);
        Due.is("one tick", x.count(1), 1);
        x.open(0);
        Runs.commitOne(x, 0, 1);
        x.tick(3);
        Due.is("three more, with an eviction", x.count(1), 4);
        x.lasts(0);
        Due.is("none by looking ahead", x.count(1), 4);
    }

    // ---- commits

    /** "has a version with a moment that is greater than the reader's" */
    private static void aConflictNeedsAGreaterMoment() {
        RentedMoments x = new RentedMoments();
        x.open(0);
        x.open(0);
        x.write(0, 0, 1);
        x.write(1, 0, 1);
        Due.is("the first moment", x.commit(0), 1);
        Due.is("greater by one", x.commit(1), RentedMoments.CONFLICT);
        x.open(0);
        x.write(2, 0, 1);
        Due.is("the same moment", x.commit(2), 2);
    }

    /** "any cell for which it has a write" */
    private static void aConflictNeedsAWriteOfTheCell() {
        RentedMoments x = Runs.withReaders(1, 0);
        Runs.commitOne(x, 0, 1);
        x.read(0, 0);
        x.write(0, 1, 1);
        Due.is("a cell that it has read only", x.reader(0, 10), 0);
        Due.is("the commit", x.commit(0), 2);
    }

    /** "if any cell" */
    private static void anyCellIsEnoughForAConflict() {
        for (int cell = 0; cell < 12; cell++) {
            RentedMoments x = Runs.withReaders(1, 0);
            Runs.typeText(x, Runs.ALL_CELLS);
            x.readWrites(0);
            Runs.commitOne(x, cell, 1);
            Due.is("a conflict of cell " + cell, x.commit(0), RentedMoments.CONFLICT);
        }
    }

    /** Two readers, each has read what the other writes; the second comes after a commit of the first or not. */
    private static int skewsIfTheSecondComes(boolean after) {
        RentedMoments x = Runs.withReaders(1, 0);
        x.read(0, 1);
        x.write(0, 2, 5);
        Runs.commitOne(x, 9, 1);
        if (after) {
            x.commit(0);
        }
        x.open(0);
        x.read(2, 2);
        x.write(2, 1, 6);
        if (!after) {
            x.commit(0);
        }
        return x.reader(2, 11);
    }

    /** "if the moment of the reader of each of them is less than the moment that the other one made" */
    private static void skewNeedsALesserMoment() {
        Due.is("a moment that is less by one", skewsIfTheSecondComes(false), 1);
        Due.is("the same moment", skewsIfTheSecondComes(true), 0);
    }

    private static int skews(String readByTheFirst, int writtenByTheFirst, String readByTheSecond, int... written) {
        RentedMoments x = Runs.withReaders(2, 0);
        for (char cell : readByTheFirst.toCharArray()) {
            x.read(0, cell - '0');
        }
        for (char cell : readByTheSecond.toCharArray()) {
            x.read(1, cell - '0');
        }
        x.write(0, writtenByTheFirst, 5);
        for (int cell : written) {
            x.write(1, cell, 6);
        }
        x.commit(0);
        return x.reader(1, 11);
    }

    /** "each of them has read a cell that the other one has written" */
    private static void skewNeedsReadsOfBoth() {
        Due.is("both", skews("1", 2, "2", 1), 1);
        Due.is("both, and more", skews("0123", 2, "4567289", 1), 1);
        Due.is("one of two cells", skews("1", 2, "2", 3, 1), 1);
        Due.is("the first alone", skews("1", 2, "3", 1), 0);
        Due.is("the second alone", skews("3", 2, "2", 1), 0);
        Due.is("none", skews("", 2, "", 1), 0);
        Due.is("their own cells", skews("2", 2, "1", 1), 0);
    }

    /** "and they have not written the same cell" */
    private static void skewNeedsOtherCells() {
        Due.is("the same cell too", skews("1", 2, "2", 1, 2), 0);
        Due.is("the same cell alone", skews("2", 2, "2", 2), 0);
    }

    /** "(A cell counts as read if the reader's set of read cells has it as it commits.)" */
    private static void aCellCountsAsReadAsItCommits() {
        RentedMoments x = Runs.withReaders(2, 0);
        x.read(0, 1);
        x.write(0, 2, 5);
        x.commit(0);
        x.write(1, 1, 6);
        Due.is("not read", x.reader(1, 11), 0);
        x.read(1, 2);
        Due.is("read after the other's commit", x.reader(1, 11), 1);
        RentedMoments y = Runs.withReaders(2, 0);
        y.write(0, 1, 5);
        y.read(0, 1);
        y.write(0, 2, 5);
        y.commit(0);
        y.read(1, 2);
        y.write(1, 1, 6);
        Due.is("its own write is not read", y.reader(1, 11), 0);
        RentedMoments z = Runs.withReaders(2, 0);
        z.read(0, 1);
        z.read(0, 2);
        z.write(0, 2, 5);
        z.commit(0);
        z.read(1, 2);
        z.read(1, 1);
        z.write(1, 1, 6);
        Due.is("read before it was written", z.reader(1, 11), 1);
        Due.is("told of the commit", z.committed(0, 4), 6);
    }

    /** "if it would be in skew with an earlier commit": with any of them */
    private static void skewWithAnyEarlierCommit() {
        RentedMoments x = Runs.inSkew(0);
        Runs.commitOne(x, 8, 1);
        Runs.commitOne(x, 9, 1);
        x.forbidSkew(true);
        Due.is("not the latest one", x.commit(1), RentedMoments.NOT_POSSIBLE);
    }

    /** The same: what was undone is no earlier commit */
    private static void noSkewWithACommitThatWasUndone() {
        RentedMoments x = Runs.inSkew(0);
        x.commit(1);
        Due.is("a pair", x.count(12), 1);
        x.undo();
        Due.is("no pair", x.count(12), 0);
        x.undo();
        x.forbidSkew(true);
        Due.is("no earlier commit", x.reader(1, 11), 0);
        Due.is("the other one is the first now", x.commit(1), 1);
        Due.is("then it is in skew with that", x.commit(0), RentedMoments.NOT_POSSIBLE);
    }

    /** "If the skew is forbidden (at first it is not)" */
    private static void skewIsNotForbiddenAtFirst() {
        Due.is("told", new RentedMoments().count(13), 0);
        RentedMoments x = Runs.inSkew(0);
        Due.is("a commit in skew", x.commit(1), 2);
        Due.is("a pair", x.count(12), 1);
    }

    /** "and each of its writes is a version of this moment" */
    private static void eachWriteIsAVersionOfThisMoment() {
        RentedMoments x = new RentedMoments();
        Runs.commitOne(x, 0, 1);
        x.commit(Runs.openWithText(x, Runs.ALL_CELLS));
        for (int cell = 0; cell < 12; cell++) {
            Due.is("the moment of cell " + cell, x.cell(cell, 1), 2);
            Due.is("the value of cell " + cell, x.cell(cell, 0), 1);
        }
    }

    /** "A reader without writes commits without any of that." */
    private static void aCommitWithoutWrites() {
        RentedMoments x = Runs.withReaders(3, 0);
        x.read(0, 1);
        x.read(2, 2);
        x.write(0, 2, 5);
        x.commit(0);
        x.forbidSkew(true);
        Due.is("the moment stays", x.commit(2), 1);
        Due.is("its state", x.reader(2, 0), 1);
        Due.is("commits that wrote", x.count(11), 1);
        Due.is("committed readers", x.count(4), 2);
        Due.is("no version", x.cell(2, 1), 1);
        RentedMoments y = Runs.withReaders(1, 0);
        Due.is("the first moment stays", y.commit(0), 0);
        Due.is("no commit that wrote", y.committed(0, 0), RentedMoments.UNKNOWN);
    }

    // ---- texts

    /** "There is a text of at most 60 characters, empty at first." */
    private static void theTextIsEmptyAtFirstAndHas60AtMost() {
        RentedMoments x = new RentedMoments();
        Due.is("empty", x.count(16), 0);
        for (int i = 1; i <= 60; i++) {
            Due.is("a character", x.type('1'), i);
        }
        Due.is("no more", x.type('1'), RentedMoments.FULL);
        Due.is("sixty", x.count(16), 60);
    }

    private static int writesOf(String text) {
        RentedMoments x = Runs.withReaders(1, 0);
        Runs.typeText(x, text);
        return x.readWrites(0);
    }

    /** "A text of writes is one or more writes with ";" between two" */
    private static void aTextIsOneOrMoreWrites() {
        Due.is("no write", writesOf(""), -100);
        Due.is("one write", writesOf("0=0"), 1);
        Due.is("two writes", writesOf("0=0;1=1"), 2);
        Due.is("twelve writes", writesOf(Runs.ALL_CELLS), 12);
        Due.is("no ; between two", writesOf("0=0 1=1"), -103);
        Due.is("a ; ahead", writesOf(";0=0"), -100);
        Due.is("a ; behind", writesOf("0=0;"), -104);
    }

    // ---- history

    /** "A history of at most 4 states is kept" */
    private static void historyIsOf4AtMost() {
        RentedMoments x = new RentedMoments();
        int[] states = {1, 2, 3, 4, 4, 4};
        for (int i = 0; i < states.length; i++) {
            x.open(0);
            Due.is("states after " + (i + 1) + " acts", x.count(15), states[i]);
        }
    }

    /** "when one more is recorded, the oldest one is dropped" */
    private static void theOldestIsDropped() {
        RentedMoments x = Runs.withReaders(5, 0);
        for (int left = 3; left >= 0; left--) {
            Due.is("undo", x.undo(), left);
        }
        Due.is("the first act is not undone", x.count(2), 1);
        Due.is("no more", x.undo(), RentedMoments.NONE);
        Runs.commitOne(x, 0, 1);
        x.undo();
        Due.is("what comes then is recorded as at first", x.count(15), 2);
    }

    /** "and returns no error and not NONE, records the state": others don't */
    private static void errorsAndNoneRecordNothing() {
        RentedMoments x = Runs.withReaders(1, 9999);
        x.open(10000);
        x.pay(0, 1);
        x.pay(0, 0);
        x.widow(0, 0);
        x.close(1);
        x.setRent(4);
        x.setRent(100);
        x.forbidSkew(false);
        x.tick(0);
        x.read(0, 12);
        x.write(0, 0, -1);
        x.commit(1);
        x.readWrites(0);
        x.restore();
        Due.is("one act", x.count(15), 1);
        Due.is("undo", x.undo(), 0);
        Due.is("that is undone", x.count(2), 0);
        Due.is("undo again", x.undo(), RentedMoments.NONE);
    }

    /** "There is one snapshot, empty at first." */
    private static void thereIsNoSnapshotAtFirst() {
        RentedMoments x = new RentedMoments();
        Due.is("none", x.restore(), RentedMoments.NONE);
        x.open(0);
        x.undo();
        Due.is("none by undo", x.restore(), RentedMoments.NONE);
        x.keep();
        Due.is("one", x.restore(), 0);
        x.open(0);
        x.keep();
        x.open(0);
        x.restore();
        Due.is("one only, the later", x.count(2), 1);
    }

    /** "A state is everything but the text, the history and the snapshot." */
    private static void aStateIsEverythingBut() {
        RentedMoments x = Bounds.busy();
        x.keep();
        x.commit(0);
        x.tick(5);
        x.setRent(0);
        x.clearText();
        x.type('7');
        x.restore();
        Due.isSame("everything", Runs.toldOfTheState(x), Runs.toldOfTheState(Bounds.busy()));
        Due.is("but the text", x.count(16), 1);
        Due.is("but the history", x.count(15), 4);
        x.undo();
        Due.is("the rent before", x.count(9), 0);
        Due.is("but the snapshot", x.restore(), 1);
        Due.is("the rent then", x.count(9), 4);
    }

    // ---- errors

    /** "NONE is no error; it is returned only if no error applies." */
    private static void noneIsReturnedOnlyIfNoErrorApplies() {
        RentedMoments x = Runs.withReaders(1, 0);
        x.close(0);
        Due.is("no such what of no version", x.version(0, 9, 5), RentedMoments.BAD_VALUE);
        Due.is("no such cell of no version", x.version(12, 9, 0), RentedMoments.UNKNOWN);
        Due.is("one who is closed is never evicted", x.lasts(0), RentedMoments.NOT_POSSIBLE);
        Due.is("no reader is never evicted", x.lasts(1), RentedMoments.UNKNOWN);
        Due.is("no version", x.version(0, 9, 0), RentedMoments.NONE);
    }

    /** "An object is used for at most 512 calls": the last ones are answered as the first ones */
    private static void aRunOf512Calls() {
        RentedMoments x = Runs.withReaders(1, 9999);
        Runs.commitOne(x, 0, 1);
        // Four calls so far: 500 acts, of which each is a read, and eight calls that look.
        for (int i = 0; i < 500; i++) {
            Due.is("a read", x.read(0, 0), 0);
        }
        Due.is("ticks", x.tick(60), 0);
        Due.is("coins", x.count(10), 240);
        Due.is("lasts", x.lasts(0), RentedMoments.NONE);
        Due.is("a due", x.reader(0, 3), 4);
        Due.is("states", x.count(15), 4);
        Due.is("undo", x.undo(), 3);
        Due.is("coins then", x.count(10), 0);
        Due.is("the last call", x.count(7), 1);
        RentedMoments y = new RentedMoments();
        for (int i = 1; i < 512; i++) {
            y.tick(60);
        }
        Due.is("the most ticks", y.count(1), 511 * 60);
    }
}
