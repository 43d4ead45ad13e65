/** Promises 15 to 17: each sentence that names a boundary case has a method here, with its words above it. */
public final class HistoryBoundsTest {
    public static void main(String[] args) {
        undoNoneIfTheHistoryIsEmpty();
        undoTellsTheStatesThatAreLeft();
        undoRemovesTheLatest();
        undoBringsTheLatestBack();
        undoLeavesTheText();
        undoLeavesTheSnapshot();
        keepTellsTheMoment();
        keepInPlaceOfTheOneThatWas();
        keepIsNoAct();
        restoreNoneIfThereIsNoSnapshot();
        restoreTellsTheMomentThen();
        restoreBringsEverythingBack();
        restoreKeepsTheSnapshot();
        restoreIsAnAct();
        restoreLeavesTheText();
        restoreLeavesTheHistory();
        Due.end("HistoryBoundsTest");
    }

    /** "NONE if the history is empty" */
    private static void undoNoneIfTheHistoryIsEmpty() {
        Bounds.refused("15 a new object", RentedMoments::new, RentedMoments::undo, RentedMoments.NONE);
        Bounds.refused("15 all is undone", () -> {
            RentedMoments x = Bounds.busy();
            for (int i = 0; i < 4; i++) {
                x.undo();
            }
            return x;
        }, RentedMoments::undo, RentedMoments.NONE);
    }

    /** "Returns the number of states that are left" */
    private static void undoTellsTheStatesThatAreLeft() {
        Due.is("15 one state", Runs.withReaders(1, 0).undo(), 0);
        for (int readers = 4; readers < 7; readers++) {
            RentedMoments x = Runs.withReaders(readers, 0);
            for (int left = 3; left >= 0; left--) {
                Due.is("15 after " + readers + " acts", x.undo(), left);
                Due.is("15 told", x.count(15), left);
            }
        }
    }

    /** "Removes .. the latest state of the history." */
    private static void undoRemovesTheLatest() {
        RentedMoments x = new RentedMoments();
        x.setRent(10);
        x.setRent(20);
        x.undo();
        Due.is("15 the latest is removed", x.count(9), 10);
        x.undo();
        Due.is("15 then the one before", x.count(9), 4);
        Due.is("15 undo is no act", x.undo(), RentedMoments.NONE);
    }

    /** "and restores the latest state": of more than four acts, the last four are undone */
    private static void undoBringsTheLatestBack() {
        RentedMoments x = new RentedMoments();
        for (int rent = 10; rent < 16; rent++) {
            x.setRent(rent);
        }
        for (int rent = 14; rent >= 11; rent--) {
            x.undo();
            Due.is("15 the rent", x.count(9), rent);
        }
        Due.is("15 the oldest ones were dropped", x.undo(), RentedMoments.NONE);
        Due.is("15 the rent stays", x.count(9), 11);
    }

    /** "A state is everything but the text" */
    private static void undoLeavesTheText() {
        RentedMoments x = Runs.withReaders(1, 0);
        Runs.typeText(x, "1=1");
        x.write(0, 0, 0);
        Runs.typeText(x, "2=2;3=3");
        x.undo();
        Due.is("15 the text's length", x.count(16), 7);
        Due.is("15 the text", x.readWrites(0), 2);
    }

    /** "A state is everything but .. the snapshot" */
    private static void undoLeavesTheSnapshot() {
        RentedMoments x = new RentedMoments();
        x.setRent(10);
        x.keep();
        x.undo();
        Due.is("15 there is one", x.restore(), 0);
        Due.is("15 its rent", x.count(9), 10);
        RentedMoments y = new RentedMoments();
        y.keep();
        y.setRent(20);
        y.keep();
        y.undo();
        y.restore();
        Due.is("15 the later one", y.count(9), 20);
    }

    /** "Returns the moment." */
    private static void keepTellsTheMoment() {
        RentedMoments x = new RentedMoments();
        Due.is("16 the first moment", x.keep(), 0);
        Runs.commitOne(x, 0, 1);
        Due.is("16 the next moment", x.keep(), 1);
    }

    /** "in place of the one that was" */
    private static void keepInPlaceOfTheOneThatWas() {
        RentedMoments x = new RentedMoments();
        x.setRent(10);
        x.keep();
        x.setRent(20);
        x.keep();
        x.setRent(30);
        x.restore();
        Due.is("16 the later one", x.count(9), 20);
        x.undo();
        x.undo();
        x.restore();
        Due.is("16 the later one still", x.count(9), 20);
    }

    /** keep is not described as an act. */
    private static void keepIsNoAct() {
        Bounds.noAct("16 keep", Bounds::busy, RentedMoments::keep, 1);
        Bounds.noAct("16 keep of a new object", RentedMoments::new, RentedMoments::keep, 0);
    }

    /** "NONE if there is no snapshot" */
    private static void restoreNoneIfThereIsNoSnapshot() {
        Bounds.refused("17 a new object", RentedMoments::new, RentedMoments::restore, RentedMoments.NONE);
        Bounds.refused("17 after acts", () -> Runs.withReaders(6, 0), RentedMoments::restore, RentedMoments.NONE);
    }

    /** "Returns the moment then" */
    private static void restoreTellsTheMomentThen() {
        RentedMoments x = new RentedMoments();
        Runs.commitOne(x, 0, 1);
        x.keep();
        Runs.commitOne(x, 1, 1);
        Due.is("17 not the moment before", x.restore(), 1);
        Due.is("17 told", x.count(0), 1);
    }

    /** "Restores the state of the snapshot" */
    private static void restoreBringsEverythingBack() {
        RentedMoments x = Bounds.busy();
        x.keep();
        x.commit(2);
        x.close(0);
        x.setRent(50);
        x.forbidSkew(true);
        x.tick(3);
        x.open(1);
        x.restore();
        Due.isSame("17 the state", Runs.toldOfTheState(x), Runs.toldOfTheState(Bounds.busy()));
        RentedMoments y = Bounds.busy();
        y.restore();
        Due.isSame("17 two readers alone", Runs.toldOfTheState(y), Runs.toldOfTheState(Runs.withReaders(2, 9)));
    }

    /** "which stays" */
    private static void restoreKeepsTheSnapshot() {
        RentedMoments x = new RentedMoments();
        x.setRent(10);
        x.keep();
        for (int i = 0; i < 3; i++) {
            x.setRent(20 + i);
            Due.is("17 restore", x.restore(), 0);
            Due.is("17 the rent", x.count(9), 10);
        }
    }

    /** "This is an act." */
    private static void restoreIsAnAct() {
        Bounds.act("17 restore", Bounds::busy, RentedMoments::restore, 0);
        Bounds.act("17 restore of what is", () -> {
            RentedMoments x = Runs.withReaders(1, 0);
            x.keep();
            return x;
        }, RentedMoments::restore, 0);
    }

    /** "A state is everything but the text" */
    private static void restoreLeavesTheText() {
        RentedMoments x = Runs.withReaders(1, 0);
        Runs.typeText(x, "1=1");
        x.keep();
        Runs.typeText(x, "2=2;3=3");
        x.restore();
        Due.is("17 the text's length", x.count(16), 7);
        Due.is("17 the text", x.readWrites(0), 2);
    }

    /** "A state is everything but .. the history" */
    private static void restoreLeavesTheHistory() {
        RentedMoments x = new RentedMoments();
        x.keep();
        x.setRent(10);
        x.setRent(20);
        x.restore();
        Due.is("17 one state more", x.count(15), 3);
        x.undo();
        Due.is("17 before the restore", x.count(9), 20);
        x.undo();
        Due.is("17 before that", x.count(9), 10);
        x.undo();
        Due.is("17 the first", x.count(9), 4);
    }
}
