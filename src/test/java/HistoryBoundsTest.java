/** Promises 15 to 17: each sentence that names a boundary case has a method here, with its words above it. */
public final class HistoryBoundsTest {
    public static void main(String[] args) {
        undoNoneIfTheHistoryIsEmpty();
        undoTellsTheStatesThatAreLeft();
        undoRemovesTheLatest();
        undoBringsTheLatestBack();
        undoBringsValuesOfWritesBack();
        undoLeavesNothingOfAnUndoneReader();
        undoLeavesTheText();
        undoLeavesTheSnapshot();
        keepTellsTheMoment();
        keepInPlaceOfTheOneThatWas();
        keepIsNoAct();
        restoreNoneIfThereIsNoSnapshot();
        restoreTellsTheMomentThen();
        restoreBringsEverythingBack();
        restoreBringsCommitsAndReadersBackWhoseNumbersWereGivenAgain();
        restoreKeepsTheSnapshot();
        restoreIsAnAct();
        restoreLeavesTheText();
        restoreLeavesTheHistory();
        Due.end("HistoryBoundsTest");
    }

    /** "NONE if the history is empty" */
    private static void undoNoneIfTheHistoryIsEmpty() {
        Bounds.refused("15 a new object", RentedMoments::new, RentedMoments::undo, RentedMoments.NONE);
        Bounds.refused("15 all is undone", () -> {
            RentedMoments x = Bounds.busy();
            for (int i = 0; i < 4; i++) {
                x.undo();
            }
            return x;
        }, RentedMoments::undo, RentedMoments.NONE);
    }

    /** "Returns the number of states that are left" */
    private static void undoTellsTheStatesThatAreLeft() {
        Due.is("15 one state", Runs.withReaders(1, 0).undo(), 0);
        for (int readers = 4; readers < 7; readers++) {
            RentedMoments x = Runs.withReaders(readers, 0);
            for (int left = 3; left >= 0; left--) {
                Due.is("15 after " + readers + " acts", x.undo(), left);
                Due.is("15 told", x.count(15), left);
            }
        }
    }

    /** "Removes .. the latest state of the history." */
    private static void undoRemovesTheLatest() {
        RentedMoments x = new RentedMoments();
        x.setRent(10);
        x.setRent(20);
        x.undo();
        Due.is("15 the latest is removed", x.count(9), 10);
        x.undo();
        Due.is("15 then the one before", x.count(9), 4);
        Due.is("15 undo is no act", x.undo(), RentedMoments.NONE);
    }

    /** "and restores the latest state": of more than four acts, the last four are undone */
    private static void undoBringsTheLatestBack() {
        RentedMoments x = new RentedMoments();
        for (int rent = 10; rent < 16; rent++) {
            x.setRent(rent);
        }
        for (int rent = 14; rent >= 11; rent--) {
            x.undo();
            Due.is("15 the rent", x.count(9), rent);
        }
        Due.is("15 the oldest ones were dropped", x.undo(), RentedMoments.NONE);
        Due.is("15 the rent stays", x.count(9), 11);
    }

    /** "A state is everything but ..": also what a reader is about to write */
    private static void undoBringsValuesOfWritesBack() {
        RentedMoments x = Runs.withReaders(1, 0);
        x.write(0, 0, 1);
        x.write(0, 0, 2);
        x.undo();
        Due.is("15 the value of the write", x.read(0, 0), 1);
        x.commit(0);
        Due.is("15 as it is committed", x.cell(0, 0), 1);
    }

    /** The same: a number that is given again has no traces of the reader whose opening was undone */
    private static void undoLeavesNothingOfAnUndoneReader() {
        RentedMoments x = new RentedMoments();
        Runs.commitOne(x, 9, 9);
        x.keep();
        x.open(50);
        x.read(1, 3);
        x.write(1, 4, 4);
        Runs.commitOne(x, 8, 8);
        x.tick(1);
        x.widow(1, 20);
        x.close(1);
        x.restore();
        Due.is("15 the number again", x.open(6), 1);
        int[] due = {0, 1, 6, 0, 0, 0, 0, 0, 0, 9, 0, 0};
        for (int what = 0; what <= 11; what++) {
            Due.is("15 the new reader " + what, x.reader(1, what), due[what]);
        }
        Due.is("15 no write", x.read(1, 4), 0);
        Due.is("15 no widow before", x.widow(1, 20), 0);
    }

    /** "A state is everything but the text" */
    private static void undoLeavesTheText() {
        RentedMoments x = Runs.withReaders(1, 0);
        Runs.typeText(x, "1=1");
        x.write(0, 0, 0);
        Runs.typeText(x, "2=2;3=3");
        x.undo();
        Due.is("15 the text's length", x.count(16), 7);
        Due.is("15 the text", x.readWrites(0), 2);
    }

    /** "A state is everything but .. the snapshot" */
    private static void undoLeavesTheSnapshot() {
        RentedMoments x = new RentedMoments();
        x.setRent(10);
        x.keep();
        x.undo();
        Due.is("15 there is one", x.restore(), 0);
        Due.is("15 its rent", x.count(9), 10);
        RentedMoments y = new RentedMoments();
        y.keep();
        y.setRent(20);
        y.keep();
        y.undo();
        y.restore();
        Due.is("15 the later one", y.count(9), 20);
    }

    /** "Returns the moment." */
    private static void keepTellsTheMoment() {
        RentedMoments x = new RentedMoments();
        Due.is("16 the first moment", x.keep(), 0);
        Runs.commitOne(x, 0, 1);
        Due.is("16 the next moment", x.keep(), 1);
    }

    /** "in place of the one that was" */
    private static void keepInPlaceOfTheOneThatWas() {
        RentedMoments x = new RentedMoments();
        x.setRent(10);
        x.keep();
        x.setRent(20);
        x.keep();
        x.setRent(30);
        x.restore();
        Due.is("16 the later one", x.count(9), 20);
        x.undo();
        x.undo();
        x.restore();
        Due.is("16 the later one still", x.count(9), 20);
    }

    /** keep is not described as an act. */
    private static void keepIsNoAct() {
        Bounds.noAct("16 keep", Bounds::busy, RentedMoments::keep, 1);
        Bounds.noAct("16 keep of a new object", RentedMoments::new, RentedMoments::keep, 0);
    }

    /** "NONE if there is no snapshot" */
    private static void restoreNoneIfThereIsNoSnapshot() {
        Bounds.refused("17 a new object", RentedMoments::new, RentedMoments::restore, RentedMoments.NONE);
        Bounds.refused("17 after acts", () -> Runs.withReaders(6, 0), RentedMoments::restore, RentedMoments.NONE);
    }

    /** "Returns the moment then" */
    private static void restoreTellsTheMomentThen() {
        RentedMoments x = new RentedMoments();
        Runs.commitOne(x, 0, 1);
        x.keep();
        Runs.commitOne(x, 1, 1);
        Due.is("17 not the moment before", x.restore(), 1);
        Due.is("17 told", x.count(0), 1);
    }

    /** "Restores the state of the snapshot" */
    private static void restoreBringsEverythingBack() {
        RentedMoments x = Bounds.busy();
        x.keep();
        x.commit(2);
        x.close(0);
        x.setRent(50);
        x.forbidSkew(true);
        x.tick(3);
        x.open(1);
        x.restore();
        Due.isSame("17 the state", Runs.toldOfTheState(x), Runs.toldOfTheState(Bounds.busy()));
        RentedMoments y = Bounds.busy();
        y.restore();
        Due.isSame("17 two readers alone", Runs.toldOfTheState(y), Runs.toldOfTheState(Runs.withReaders(2, 9)));
    }

    /** Two commits in skew, a reader without coins, and a widow. */
    private static RentedMoments withTwoCommits() {
        RentedMoments x = Runs.withReaders(3, 0);
        x.read(0, 5);
        x.write(0, 6, 66);
        x.read(1, 6);
        x.write(1, 5, 55);
        x.commit(0);
        x.commit(1);
        x.open(77);
        x.widow(3, 7);
        return x;
    }

    /** The same: other commits and readers have had their numbers since */
    private static void restoreBringsCommitsAndReadersBackWhoseNumbersWereGivenAgain() {
        RentedMoments x = withTwoCommits();
        x.keep();
        for (int i = 0; i < 4; i++) {
            x.undo();
        }
        Due.is("17 no commit", x.count(11), 0);
        Due.is("17 another first commit", Runs.commitOne(x, 11, 1), 1);
        Due.is("17 another second commit", Runs.commitOne(x, 11, 2), 2);
        x.restore();
        Due.isSame("17 all is as it was kept", Runs.toldOfTheState(x), Runs.toldOfTheState(withTwoCommits()));
        Due.is("17 a widow that was", x.widow(3, 1), RentedMoments.NOT_POSSIBLE);
    }

    /** "which stays" */
    private static void restoreKeepsTheSnapshot() {
        RentedMoments x = new RentedMoments();
        x.setRent(10);
        x.keep();
        for (int i = 0; i < 3; i++) {
            x.setRent(20 + i);
            Due.is("17 restore", x.restore(), 0);
            Due.is("17 the rent", x.count(9), 10);
        }
    }

    /** "This is an act." */
    private static void restoreIsAnAct() {
        Bounds.act("17 restore", Bounds::busy, RentedMoments::restore, 0);
        Bounds.act("17 restore of what is", () -> {
            RentedMoments x = Runs.withReaders(1, 0);
            x.keep();
            return x;
        }, RentedMoments::restore, 0);
    }

    /** "A state is everything but the text" */
    private static void restoreLeavesTheText() {
        RentedMoments x = Runs.withReaders(1, 0);
        Runs.typeText(x, "1=1");
        x.keep();
        Runs.typeText(x, "2=2;3=3");
        x.restore();
        Due.is("17 the text's length", x.count(16), 7);
        Due.is("17 the text", x.readWrites(0), 2);
    }

    /** "A state is everything but .. the history" */
    private static void restoreLeavesTheHistory() {
        RentedMoments x = new RentedMoments();
        x.keep();
        x.setRent(10);
        x.setRent(20);
        x.restore();
        Due.is("17 one state more", x.count(15), 3);
        x.undo();
        Due.is("17 before the restore", x.count(9), 20);
        x.undo();
        Due.is("17 before that", x.count(9), 10);
        x.undo();
        Due.is("17 the first", x.count(9), 4);
    }
}
