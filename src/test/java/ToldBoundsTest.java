/** Promises 18 to 23: each sentence that names a boundary case has a method here, with its words above it. */
public final class ToldBoundsTest {
    /** busy() has the readers 0 to 2, and the commit 0. */
    private static final int[] NO_READERS = {-1, 3, 40, Bounds.LEAST, Bounds.MOST};
    private static final int[] NO_COMMITS = {-1, 1, 40, Bounds.LEAST, Bounds.MOST};
    private static final int[] NO_CELLS = {-1, 12, 32, Bounds.LEAST, Bounds.MOST};

    public static void main(String[] args) {
        cellUnknown();
        cellBadValue();
        cellOrder();
        cellOfItsNewestVersion();
        cellVersionsWithTheNewestOne();
        cellOpenReadersWhoSeeTheNewest();
        cellOpenReadersWithAWrite();
        versionUnknown();
        versionBadPlace();
        versionBadWhat();
        versionNone();
        versionOrder();
        versionPlacesFromTheNewestOn();
        versionOpenReadersWhoSeeIt();
        versionShareIs0ForTheNewest();
        versionShareIs0IfThereAreNone();
        readerUnknown();
        readerBadValue();
        readerOrder();
        readerStates();
        readerDueIs0IfNotOpen();
        readerBitsOfReadCells();
        readerBitsOfWrittenCells();
        readerTermIs0IfNoWidow();
        readerOldVersionsAre0IfNotOpen();
        readerSumIs0IfNotOpen();
        readerConflictIs0IfNotOpen();
        readerSkewWhetherItHasAConflictOrNot();
        readerSkewIs0IfNotOpenOrWithoutWrites();
        lastsUnknown();
        lastsIsForTheOpen();
        lastsOrder();
        lastsWithTheTickInWhichItIsEvicted();
        lastsNoneBeyond200();
        lastsNoneWithoutADue();
        lastsOfAWidow();
        lastsIfNothingElseHappens();
        committedUnknown();
        committedBadValue();
        committedOrder();
        committedTellsOnlyCommitsThatWrote();
        committedSkewWithEarlierOnes();
        countBadValue();
        countOfANewObject();
        countOfForbiddenSkew();
        countOfTheLimits();
        tellingChangesNothing();
        Due.end("ToldBoundsTest");
    }

    private static void refuseWhats(String call, int first, java.util.function.IntBinaryOperator told) {
        for (int what : new int[] {-1, first, first + 1, Bounds.LEAST, Bounds.MOST}) {
            Due.is(call + " " + what, told.applyAsInt(0, what), RentedMoments.BAD_VALUE);
        }
    }

    /** "cell: 0 to 11", "UNKNOWN" */
    private static void cellUnknown() {
        RentedMoments x = new RentedMoments();
        x.commit(Runs.openWithText(x, "0=100;11=111"));
        Due.is("18 cell(0, 0)", x.cell(0, 0), 100);
        Due.is("18 cell(11, 0)", x.cell(11, 0), 111);
        for (int cell : NO_CELLS) {
            for (int what = 0; what <= 4; what++) {
                Due.is("18 cell(" + cell + ", " + what + ")", x.cell(cell, what), RentedMoments.UNKNOWN);
            }
        }
    }

    /** "BAD_VALUE" */
    private static void cellBadValue() {
        RentedMoments x = Bounds.busy();
        refuseWhats("18 cell, what", 5, x::cell);
        Due.is("18 the last what", x.cell(5, 4), 0);
    }

    /** "UNKNOWN; BAD_VALUE", in this order */
    private static void cellOrder() {
        Due.is("18 no such cell, nor what", new RentedMoments().cell(12, 5), RentedMoments.UNKNOWN);
    }

    /** "0 for the value of its newest version, 1 for the moment of that" */
    private static void cellOfItsNewestVersion() {
        RentedMoments x = Runs.withReaders(1, 0);
        Runs.commitOne(x, 3, 33);
        Runs.commitOne(x, 4, 44);
        Runs.commitOne(x, 3, 0);
        Due.is("18 a newer value that is less", x.cell(3, 0), 0);
        Due.is("18 its moment", x.cell(3, 1), 3);
        Due.is("18 another cell's moment", x.cell(4, 1), 2);
        Due.is("18 a first version's moment", x.cell(5, 1), 0);
    }

    /** "2 for its versions that are kept (with the newest one)" */
    private static void cellVersionsWithTheNewestOne() {
        RentedMoments x = new RentedMoments();
        Due.is("18 the newest alone", x.cell(0, 2), 1);
        Runs.commitOne(x, 0, 1);
        Due.is("18 nobody saw the old one", x.cell(0, 2), 1);
        for (int i = 1; i <= 7; i++) {
            x.open(0);
            Runs.commitOne(x, 0, i);
            Due.is("18 with " + i + " old ones", x.cell(0, 2), i + 1);
        }
    }

    /** "3 for the open readers who see its newest version" */
    private static void cellOpenReadersWhoSeeTheNewest() {
        RentedMoments x = Runs.withReaders(2, 0);
        Due.is("18 both", x.cell(0, 3), 2);
        x.write(0, 0, 1);
        x.commit(0);
        Due.is("18 the other sees an old one", x.cell(0, 3), 0);
        Due.is("18 of another cell the newest", x.cell(1, 3), 1);
        x.open(9);
        Due.is("18 one who came then", x.cell(0, 3), 1);
        x.widow(2, 1);
        Due.is("18 also as a widow", x.cell(0, 3), 1);
        x.close(2);
        Due.is("18 not if it is closed", x.cell(0, 3), 0);
        RentedMoments full = Runs.withReaders(8, 0);
        Due.is("18 all eight", full.cell(11, 3), 8);
    }

    /** "4 for the open readers who have a write for it" */
    private static void cellOpenReadersWithAWrite() {
        RentedMoments x = Runs.withReaders(8, 0);
        for (int i = 0; i < 8; i++) {
            x.write(i, 11, i);
            Due.is("18 writers", x.cell(11, 4), i + 1);
        }
        Due.is("18 of another cell", x.cell(10, 4), 0);
        x.close(0);
        Due.is("18 without the closed", x.cell(11, 4), 7);
        x.commit(1);
        Due.is("18 without the committed", x.cell(11, 4), 6);
        x.tick(1);
        Due.is("18 without the evicted", x.cell(11, 4), 0);
    }

    /** "cell: 0 to 11", "UNKNOWN (cell)" */
    private static void versionUnknown() {
        RentedMoments x = new RentedMoments();
        x.commit(Runs.openWithText(x, "0=100;11=111"));
        Due.is("19 version(0, 0, 0)", x.version(0, 0, 0), 100);
        Due.is("19 version(11, 0, 0)", x.version(11, 0, 0), 111);
        for (int cell : NO_CELLS) {
            Due.is("19 version(" + cell + ", 0, 0)", x.version(cell, 0, 0), RentedMoments.UNKNOWN);
        }
    }

    /** "BAD_VALUE (place is negative ..)" */
    private static void versionBadPlace() {
        RentedMoments x = new RentedMoments();
        Due.is("19 place 0", x.version(0, 0, 1), 0);
        Due.is("19 place -1", x.version(0, -1, 1), RentedMoments.BAD_VALUE);
        Due.is("19 the least place", x.version(0, Bounds.LEAST, 1), RentedMoments.BAD_VALUE);
    }

    /** "BAD_VALUE (.. or what)" */
    private static void versionBadWhat() {
        RentedMoments x = Bounds.busy();
        refuseWhats("19 version, what", 5, (any, what) -> x.version(0, 0, what));
        refuseWhats("19 version of an old one, what", 5, (any, what) -> x.version(2, 1, what));
        Due.is("19 the last what", x.version(2, 1, 4), 4);
    }

    /** "NONE if there are not so many versions" */
    private static void versionNone() {
        RentedMoments x = Bounds.busy();
        Due.is("19 the only one", x.version(0, 0, 0), 0);
        Due.is("19 no second one", x.version(0, 1, 0), RentedMoments.NONE);
        Due.is("19 the second of two", x.version(2, 1, 0), 0);
        Due.is("19 no third one", x.version(2, 2, 0), RentedMoments.NONE);
        Due.is("19 the greatest place", x.version(2, Bounds.MOST, 4), RentedMoments.NONE);
        x.close(0);
        Due.is("19 removed", x.version(2, 1, 0), RentedMoments.NONE);
        for (int i = 0; i < 7; i++) {
            x.open(0);
            Runs.commitOne(x, 0, i);
        }
        Due.is("19 after seven old versions", x.version(0, x.cell(0, 2), 0), RentedMoments.NONE);
    }

    /** "UNKNOWN (cell); BAD_VALUE (place is negative, or what); NONE ..", in this order */
    private static void versionOrder() {
        RentedMoments x = new RentedMoments();
        Due.is("19 no such cell, nor place", x.version(12, -1, 0), RentedMoments.UNKNOWN);
        Due.is("19 no such cell, nor what", x.version(-1, 0, 5), RentedMoments.UNKNOWN);
        Due.is("19 no such cell, nor so many versions", x.version(12, 1, 0), RentedMoments.UNKNOWN);
        Due.is("19 not so many versions, no such what", x.version(0, 1, 5), RentedMoments.BAD_VALUE);
        Due.is("19 not so many versions, what -1", x.version(0, 1, -1), RentedMoments.BAD_VALUE);
    }

    /** "a place among its versions that are kept, from the newest one on, from 0" */
    private static void versionPlacesFromTheNewestOn() {
        RentedMoments x = Runs.withReaders(1, 0);
        Runs.commitOne(x, 3, 10);
        x.open(0);
        Runs.commitOne(x, 3, 20);
        Runs.commitOne(x, 3, 30);
        int[][] due = {{30, 3}, {10, 1}, {0, 0}};
        for (int place = 0; place < 3; place++) {
            Due.is("19 the value at " + place, x.version(3, place, 0), due[place][0]);
            Due.is("19 the moment at " + place, x.version(3, place, 1), due[place][1]);
        }
        x.close(2);
        Due.is("19 one is removed from between", x.version(3, 1, 0), 0);
        x.close(0);
        x.open(0);
        Runs.commitOne(x, 3, 40);
        Due.is("19 the oldest is not the first one", x.version(3, 1, 0), 30);
        Due.is("19 its moment", x.version(3, 1, 1), 3);
    }

    /** "2 for the open readers who see it, 3 for those of them who are no widows" */
    private static void versionOpenReadersWhoSeeIt() {
        RentedMoments x = Runs.withReaders(7, 9);
        Due.is("19 all seven see the newest", x.version(0, 0, 2), 7);
        Runs.commitOne(x, 0, 1);
        Due.is("19 nobody sees the newest", x.version(0, 0, 2), 0);
        Due.is("19 all seven see the old one", x.version(0, 1, 2), 7);
        x.widow(0, 1);
        x.widow(1, 2);
        Due.is("19 with the widows", x.version(0, 1, 2), 7);
        Due.is("19 without the widows", x.version(0, 1, 3), 5);
        x.close(6);
        Due.is("19 without the closed", x.version(0, 1, 2), 6);
        Due.is("19 without the closed and the widows", x.version(0, 1, 3), 4);
        x.tick(1);
        Due.is("19 with her whose term is over", x.version(0, 1, 3), 5);
        Due.is("19 the newest without widows", x.version(1, 0, 3), 5);
    }

    /** "4 for what each of these pays for it in a tick (0 for the newest one ..)" */
    private static void versionShareIs0ForTheNewest() {
        RentedMoments x = Runs.withReaders(2, 9);
        Due.is("19 the newest, which two see", x.version(0, 0, 4), 0);
        Runs.commitOne(x, 0, 1);
        Due.is("19 the newest, which nobody sees", x.version(0, 0, 4), 0);
        Due.is("19 the old one", x.version(0, 1, 4), 2);
    }

    /** "(.. and if there are none)" */
    private static void versionShareIs0IfThereAreNone() {
        RentedMoments x = Runs.withReaders(2, 9);
        Runs.commitOne(x, 0, 1);
        x.widow(0, 1);
        Due.is("19 one is no widow", x.version(0, 1, 4), 4);
        x.widow(1, 2);
        Due.is("19 there are none", x.version(0, 1, 4), 0);
        x.tick(1);
        Due.is("19 there is one", x.version(0, 1, 4), 4);
    }

    /** "UNKNOWN" */
    private static void readerUnknown() {
        RentedMoments x = Bounds.busy();
        for (int reader : NO_READERS) {
            for (int what = 0; what <= 11; what++) {
                Due.is("20 reader(" + reader + ", " + what + ")", x.reader(reader, what), RentedMoments.UNKNOWN);
            }
        }
        x.restore();
        Due.is("20 one who has not been then", x.reader(2, 0), RentedMoments.UNKNOWN);
    }

    /** "BAD_VALUE" */
    private static void readerBadValue() {
        RentedMoments x = Bounds.busy();
        refuseWhats("20 reader, what", 12, x::reader);
        for (int state = 1; state <= 3; state++) {
            RentedMoments y = Bounds.gone(state);
            refuseWhats("20 reader in the state " + state + ", what", 12, y::reader);
        }
        Due.is("20 the last what", x.reader(0, 11), 0);
    }

    /** "UNKNOWN; BAD_VALUE", in this order */
    private static void readerOrder() {
        Due.is("20 no such reader, nor what", Bounds.busy().reader(3, 12), RentedMoments.UNKNOWN);
        Due.is("20 no such reader, what -1", Bounds.busy().reader(-1, -1), RentedMoments.UNKNOWN);
    }

    /** "its state (0 open, 1 committed, 2 closed, 3 evicted)" */
    private static void readerStates() {
        Due.is("20 open", Runs.withReaders(1, 0).reader(0, 0), 0);
        for (int state = 1; state <= 3; state++) {
            Due.is("20 its state", Bounds.gone(state).reader(0, 0), state);
        }
        Due.is("20 a widow is open", Bounds.busy().reader(2, 0), 0);
    }

    /** What is told of a reader who has been with old versions, a conflict and a skew, and is gone. */
    private static int toldOfTheGone(int state, int what) {
        RentedMoments x = Runs.withReaders(2, 3);
        x.read(0, 1);
        x.read(1, 2);
        x.write(0, 2, 5);
        x.write(1, 1, 6);
        x.write(1, 3, 7);
        x.commit(0);
        Runs.commitOne(x, 3, 8);
        int[] whatsThatTell = {3, 8, 9, 10, 11};
        int[] told = {8, 2, 0, 1, 1};
        for (int i = 0; i < whatsThatTell.length; i++) {
            Due.is("20 of the open " + whatsThatTell[i], x.reader(1, whatsThatTell[i]), told[i]);
        }
        if (state == 1) {
            x.undo();
            x.undo();
            x.undo();
            Due.is("20 its commit", x.commit(1), 2);
        } else if (state == 2) {
            x.close(1);
        } else {
            x.tick(1);
        }
        Due.is("20 the state", x.reader(1, 0), state);
        return x.reader(1, what);
    }

    /** "its due now (0 if it is not open)" */
    private static void readerDueIs0IfNotOpen() {
        for (int state = 1; state <= 3; state++) {
            Due.is("20 the due in the state " + state, toldOfTheGone(state, 3), 0);
        }
        RentedMoments x = new RentedMoments();
        x.open(0);
        x.open(50);
        x.open(50);
        x.open(50);
        Runs.commitOne(x, 0, 1);
        Due.is("20 a quarter", x.reader(0, 3), 1);
        x.tick(1);
        x.close(1);
        x.commit(2);
        Due.is("20 the only one who is open", x.reader(3, 3), 4);
        for (int reader = 0; reader < 3; reader++) {
            Due.is("20 beside one who pays, the reader " + reader, x.reader(reader, 3), 0);
        }
    }

    /** "the cells that it has read (as bits)" */
    private static void readerBitsOfReadCells() {
        RentedMoments x = Runs.withReaders(2, 0);
        Due.is("20 none read", x.reader(0, 4), 0);
        x.read(0, 0);
        x.read(0, 11);
        Due.is("20 the first and the last", x.reader(0, 4), 2049);
        for (int state = 1; state <= 3; state++) {
            Due.is("20 read, in the state " + state, Bounds.gone(state).reader(0, 4), 64);
        }
    }

    /** "the cells for which it has writes (as bits; those that it had, if it is not open any more)" */
    private static void readerBitsOfWrittenCells() {
        RentedMoments x = Runs.withReaders(2, 0);
        Due.is("20 none written", x.reader(0, 5), 0);
        x.write(0, 0, 0);
        x.write(0, 11, 0);
        Due.is("20 the first and the last", x.reader(0, 5), 2049);
        for (int state = 1; state <= 3; state++) {
            Due.is("20 written, in the state " + state, Bounds.gone(state).reader(0, 5), 32);
        }
    }

    /** "the ticks left of its term (0 if it is no widow)" */
    private static void readerTermIs0IfNoWidow() {
        RentedMoments x = Runs.withReaders(1, 0);
        Due.is("20 no widow yet", x.reader(0, 6), 0);
        x.widow(0, 20);
        for (int left = 20; left > 0; left--) {
            Due.is("20 the term", x.reader(0, 6), left);
            x.tick(1);
        }
        Due.is("20 no widow any more", x.reader(0, 6), 0);
        x.tick(1);
        Due.is("20 nor after that", x.reader(0, 6), 0);
    }

    /** "8 for the old versions that it sees .. (8 and 9: 0 if it is not open)" */
    private static void readerOldVersionsAre0IfNotOpen() {
        for (int state = 1; state <= 3; state++) {
            Due.is("20 old versions in the state " + state, toldOfTheGone(state, 8), 0);
        }
        RentedMoments x = Runs.withReaders(1, 0);
        x.commit(Runs.openWithText(x, Runs.ALL_CELLS));
        Due.is("20 all twelve are old", x.reader(0, 8), 12);
        Due.is("20 none is old", x.reader(x.open(0), 8), 0);
    }

    /** "9 for the sum of the values that it sees of all cells, its own writes left aside (.. 0 if it is not open)" */
    private static void readerSumIs0IfNotOpen() {
        RentedMoments x = new RentedMoments();
        x.commit(Runs.openWithText(x, Runs.ALL_CELLS));
        x.open(0);
        x.open(9);
        x.write(2, 0, 9999);
        Due.is("20 its own writes left aside", x.reader(2, 9), 12);
        x.undo();
        x.close(1);
        Due.is("20 the sum of the closed", x.reader(1, 9), 0);
        x.commit(2);
        Due.is("20 the sum of the committed", x.reader(2, 9), 0);
        x.open(0);
        Runs.commitOne(x, 0, 1);
        Due.is("20 the sum of an old version too", x.reader(3, 9), 12);
        x.tick(1);
        Due.is("20 evicted", x.reader(3, 0), 3);
        Due.is("20 the sum of the evicted", x.reader(3, 9), 0);
    }

    /** "whether it would have a conflict now (1, otherwise 0; 0 if it is not open)" */
    private static void readerConflictIs0IfNotOpen() {
        for (int state = 1; state <= 3; state++) {
            Due.is("20 conflict in the state " + state, toldOfTheGone(state, 10), 0);
        }
        RentedMoments x = new RentedMoments();
        x.commit(Runs.openWithText(x, Runs.ALL_CELLS));
        x.open(0);
        x.write(1, 3, 3);
        Due.is("20 a version of its own moment", x.reader(1, 10), 0);
        Runs.commitOne(x, 4, 4);
        Due.is("20 a cell that it does not write", x.reader(1, 10), 0);
        Runs.commitOne(x, 3, 4);
        Due.is("20 a version of a greater moment", x.reader(1, 10), 1);
        x.commit(Runs.openWithText(x, Runs.ALL_CELLS));
        x.write(1, 4, 4);
        Due.is("20 two of them", x.reader(1, 10), 1);
    }

    /** "if it committed now, whether it has a conflict or not" */
    private static void readerSkewWhetherItHasAConflictOrNot() {
        RentedMoments x = Runs.withReaders(2, 0);
        x.read(0, 1);
        x.read(1, 2);
        x.write(0, 2, 5);
        x.write(1, 1, 6);
        Due.is("20 no earlier commit", x.reader(1, 11), 0);
        x.commit(0);
        Due.is("20 one", x.reader(1, 11), 1);
        x.forbidSkew(true);
        Due.is("20 also if it is forbidden", x.reader(1, 11), 1);
        x.write(1, 7, 7);
        Runs.commitOne(x, 7, 8);
        Due.is("20 a conflict", x.reader(1, 10), 1);
        Due.is("20 and a skew", x.reader(1, 11), 1);
        Due.is("20 whose commit is refused", x.commit(1), RentedMoments.CONFLICT);
        RentedMoments y = Runs.withReaders(8, 0);
        for (int i = 0; i < 8; i++) {
            Runs.typeText(y, i + "=1");
            y.readWrites(i);
            for (int k = 0; k < i; k++) {
                y.read(i, k);
                y.read(k, i);
            }
        }
        for (int i = 0; i < 7; i++) {
            y.commit(i);
        }
        Due.is("20 seven", y.reader(7, 11), 7);
    }

    /** "(0 if it is not open, or has no writes)" */
    private static void readerSkewIs0IfNotOpenOrWithoutWrites() {
        for (int state = 1; state <= 3; state++) {
            Due.is("20 skew in the state " + state, toldOfTheGone(state, 11), 0);
        }
        RentedMoments x = Runs.withReaders(2, 0);
        x.read(0, 1);
        x.read(1, 2);
        x.write(0, 2, 5);
        x.commit(0);
        Due.is("20 without writes", x.reader(1, 11), 0);
        x.write(1, 1, 1);
        Due.is("20 with one", x.reader(1, 11), 1);
    }

    /** "UNKNOWN" */
    private static void lastsUnknown() {
        for (int reader : NO_READERS) {
            Bounds.refused("21 lasts(" + reader + ")", Bounds::busy, x -> x.lasts(reader), RentedMoments.UNKNOWN);
        }
    }

    /** "NOT_POSSIBLE if it is not open" */
    private static void lastsIsForTheOpen() {
        for (int state = 1; state <= 3; state++) {
            int s = state;
            Bounds.refused("21 lasts in the state " + s, () -> Bounds.gone(s), x -> x.lasts(0),
                RentedMoments.NOT_POSSIBLE);
        }
        Due.is("21 a widow is open", Bounds.busy().lasts(2), RentedMoments.NONE);
    }

    /** "UNKNOWN; NOT_POSSIBLE ..; NONE ..", in this order: a closed reader is not evicted either */
    private static void lastsOrder() {
        RentedMoments x = Bounds.gone(2);
        Due.is("21 not open, and never evicted", x.lasts(0), RentedMoments.NOT_POSSIBLE);
        Due.is("21 no such reader", x.lasts(1), RentedMoments.UNKNOWN);
    }

    /** A reader 0 with one old version that it alone sees, and these coins. */
    private static RentedMoments withADue(int coins, int rent) {
        RentedMoments x = Runs.withReaders(1, coins);
        x.setRent(rent);
        Runs.commitOne(x, 0, 1);
        return x;
    }

    /** "Returns the ticks, with the one in which it is evicted" */
    private static void lastsWithTheTickInWhichItIsEvicted() {
        Due.is("21 nothing in the purse", withADue(0, 5).lasts(0), 1);
        Due.is("21 one coin less than a due", withADue(4, 5).lasts(0), 1);
        Due.is("21 just a due", withADue(5, 5).lasts(0), 2);
        Due.is("21 two dues but one coin", withADue(9, 5).lasts(0), 2);
        Due.is("21 two dues", withADue(10, 5).lasts(0), 3);
        RentedMoments x = withADue(10, 5);
        Due.is("21 it stays for two", x.tick(2), 0);
        Due.is("21 and goes in the third", x.tick(1), 1);
    }

    /** "NONE if it is not evicted within 200" */
    private static void lastsNoneBeyond200() {
        Due.is("21 in the tick 199", withADue(198 * 5, 5).lasts(0), 199);
        Due.is("21 in the tick 200", withADue(199 * 5, 5).lasts(0), 200);
        Due.is("21 one coin less than 200 dues", withADue(200 * 5 - 1, 5).lasts(0), 200);
        Due.is("21 in the tick 201", withADue(200 * 5, 5).lasts(0), RentedMoments.NONE);
        Due.is("21 a full purse", withADue(9999, 5).lasts(0), RentedMoments.NONE);
        RentedMoments x = withADue(200 * 5, 5);
        x.tick(1);
        Due.is("21 one tick later", x.lasts(0), 200);
        x.tick(60);
        Due.is("21 sixty ticks later", x.lasts(0), 140);
    }

    /** NONE also if it has nothing to pay */
    private static void lastsNoneWithoutADue() {
        Due.is("21 no old version", Runs.withReaders(1, 0).lasts(0), RentedMoments.NONE);
        Due.is("21 no rent", withADue(0, 0).lasts(0), RentedMoments.NONE);
        Due.is("21 whatever the purse", withADue(9999, 0).lasts(0), RentedMoments.NONE);
    }

    private static int lastsAsAWidow(int coins, int term) {
        RentedMoments x = withADue(coins, 5);
        x.widow(0, term);
        return x.lasts(0);
    }

    /** "if they pass now": a widow's term is over after so many ticks */
    private static void lastsOfAWidow() {
        Due.is("21 a widow for one tick", lastsAsAWidow(0, 1), 2);
        Due.is("21 a widow for twenty ticks", lastsAsAWidow(0, 20), 21);
        Due.is("21 a widow with 179 dues", lastsAsAWidow(179 * 5, 20), 200);
        Due.is("21 a widow with 180 dues", lastsAsAWidow(180 * 5, 20), RentedMoments.NONE);
    }

    /** "and nothing else happens": but evictions and terms of others do, with the ticks */
    private static void lastsIfNothingElseHappens() {
        RentedMoments x = Runs.withReaders(1, 10);
        x.open(30);
        x.open(0);
        Runs.commitOne(x, 0, 1);
        x.widow(2, 2);
        // The share is 2 for two payers and for three. The widow goes in her first tick without a term,
        // the first one after five shares; then the second one, who has 18 coins left, pays 4 alone.
        Due.is("21 the widow", x.lasts(2), 3);
        Due.is("21 the first", x.lasts(0), 6);
        Due.is("21 the second", x.lasts(1), 11);
        Due.is("21 as ticks tell", x.tick(10), 2);
        Due.is("21 two coins left", x.reader(1, 2), 2);
        Due.is("21 the last one", x.tick(1), 1);
    }

    /** "commit: a commit, from 0", "UNKNOWN" */
    private static void committedUnknown() {
        RentedMoments x = Bounds.busy();
        Due.is("22 the first commit", x.committed(0, 0), 1);
        for (int commit : NO_COMMITS) {
            for (int what = 0; what <= 5; what++) {
                Due.is("22 committed(" + commit + ", " + what + ")", x.committed(commit, what),
                    RentedMoments.UNKNOWN);
            }
        }
        x.restore();
        Due.is("22 one that has not been then", x.committed(0, 0), RentedMoments.UNKNOWN);
        Due.is("22 in a new object", new RentedMoments().committed(0, 0), RentedMoments.UNKNOWN);
    }

    /** "BAD_VALUE" */
    private static void committedBadValue() {
        RentedMoments x = Bounds.busy();
        refuseWhats("22 committed, what", 6, x::committed);
        Due.is("22 the last what", x.committed(0, 5), 0);
    }

    /** "UNKNOWN; BAD_VALUE", in this order */
    private static void committedOrder() {
        Due.is("22 no such commit, nor what", Bounds.busy().committed(1, 6), RentedMoments.UNKNOWN);
        Due.is("22 no such commit, what -1", Bounds.busy().committed(-1, -1), RentedMoments.UNKNOWN);
    }

    /** "Looks at a commit that wrote." */
    private static void committedTellsOnlyCommitsThatWrote() {
        RentedMoments x = Runs.withReaders(4, 0);
        x.commit(0);
        x.write(1, 4, 1);
        x.commit(1);
        x.commit(2);
        x.read(3, 6);
        x.write(3, 0, 1);
        x.write(3, 11, 1);
        x.commit(3);
        int[] first = {1, 0, 1, 16, 0, 0};
        int[] second = {3, 0, 2, 2049, 64, 0};
        x.open(0);
        x.write(4, 1, 1);
        x.commit(4);
        Due.is("22 the moment of a later reader", x.committed(2, 1), 2);
        Due.is("22 the moment that it made", x.committed(2, 2), 3);
        for (int what = 0; what <= 5; what++) {
            Due.is("22 the first, " + what, x.committed(0, what), first[what]);
            Due.is("22 the second, " + what, x.committed(1, what), second[what]);
        }
        Due.is("22 no fourth", x.committed(3, 0), RentedMoments.UNKNOWN);
    }

    /** "5 for the earlier commits with which it is in skew" */
    private static void committedSkewWithEarlierOnes() {
        RentedMoments x = Runs.withReaders(3, 0);
        for (int i = 0; i < 3; i++) {
            x.read(i, 0);
            x.read(i, 1);
            x.read(i, 2);
            x.write(i, i, 1);
        }
        for (int i = 0; i < 3; i++) {
            x.commit(i);
        }
        for (int i = 0; i < 3; i++) {
            Due.is("22 not later ones, of the commit " + i, x.committed(i, 5), i);
        }
        Due.is("22 pairs", x.count(12), 3);
    }

    /** "BAD_VALUE" */
    private static void countBadValue() {
        RentedMoments x = Bounds.busy();
        refuseWhats("23 count", 17, (any, what) -> x.count(what));
        Due.is("23 the last what", x.count(16), 7);
    }

    /** Counts at their least */
    private static void countOfANewObject() {
        RentedMoments x = new RentedMoments();
        for (int what = 0; what <= 16; what++) {
            Due.is("23 count " + what + " of a new object", x.count(what), what == 9 ? 4 : 0);
        }
    }

    /** "13 for whether skew is forbidden (1, otherwise 0)" */
    private static void countOfForbiddenSkew() {
        RentedMoments x = new RentedMoments();
        x.forbidSkew(true);
        Due.is("23 forbidden", x.count(13), 1);
        x.forbidSkew(false);
        Due.is("23 not any more", x.count(13), 0);
    }

    /** Counts at their greatest: 40 readers, 40 old versions, 99 coins of rent, 4 states, 60 characters */
    private static void countOfTheLimits() {
        RentedMoments x = new RentedMoments();
        for (int i = 0; i < 29; i++) {
            Runs.commitOne(x, 11, i);
        }
        for (int i = 0; i < 3; i++) {
            x.open(9999);
            x.commit(Runs.openWithText(x, Runs.ALL_CELLS));
        }
        x.open(9999);
        x.commit(Runs.openWithText(x, "0=1;1=1;2=1;3=1"));
        for (int i = 0; i < 3; i++) {
            x.widow(x.open(0), 20);
        }
        x.setRent(99);
        x.tick(1);
        Runs.typeText(x, "?".repeat(60));
        // Four payers see 12, 12, 12 and 4 old versions, each of them alone.
        int[] due = {33, 1, 40, 7, 33, 0, 0, 40, 29, 99, 40 * 99, 33, 0, 0, 3, 4, 60};
        for (int what = 0; what <= 16; what++) {
            Due.is("23 count " + what + " at the limits", x.count(what), due[what]);
        }
    }

    /** None of these calls is described as an act. */
    private static void tellingChangesNothing() {
        Bounds.refused("21 lasts", () -> withADue(10, 5), x -> x.lasts(0), 3);
        Bounds.refused("18 cell", Bounds::busy, x -> x.cell(2, 0), 22);
        Bounds.refused("19 version", Bounds::busy, x -> x.version(2, 1, 4), 4);
        Bounds.refused("20 reader", Bounds::busy, x -> x.reader(0, 11), 0);
        Bounds.refused("22 committed", Bounds::busy, x -> x.committed(0, 3), 4);
        Bounds.refused("23 count", Bounds::busy, x -> x.count(7), 1);
    }
}
