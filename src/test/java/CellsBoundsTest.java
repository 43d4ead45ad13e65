/** Promises 9 to 11: each sentence that names a boundary case has a method here, with its words above it. */
public final class CellsBoundsTest {
    /** busy() has the readers 0 to 2. */
    private static final int[] NO_READERS = {-1, 3, 40, Bounds.LEAST, Bounds.MOST};
    private static final int[] NO_CELLS = {-1, 12, 32, Bounds.LEAST, Bounds.MOST};
    private static final int[] NO_VALUES = {-1, 10000, Bounds.LEAST, Bounds.MOST};

    public static void main(String[] args) {
        readUnknown();
        readTakesCellsFrom0To11();
        readIsForTheOpen();
        readOrder();
        readTellsTheOwnWrite();
        readTellsTheVersionThatItSees();
        readNotesTheCell();
        readIsAnAct();
        readIsAnActAlsoOfACellThatWasRead();
        writeUnknown();
        writeTakesCellsFrom0To11();
        writeTakesFrom0To9999();
        writeIsForTheOpen();
        writeOrder();
        writeTellsHowManyWrites();
        writeInPlaceOfAnother();
        writeIsAnAct();
        commitUnknown();
        commitIsForTheOpen();
        commitTellsTheMoment();
        commitConflict();
        commitInSkew();
        commitIsFullAbove40();
        commitIsNotFullAt40();
        commitCountsWhatWouldBeKept();
        commitOrder();
        commitIsAnAct();
        Due.end("CellsBoundsTest");
    }

    /** "UNKNOWN (reader ..)" */
    private static void readUnknown() {
        for (int reader : NO_READERS) {
            Bounds.refused("9 read(" + reader + ", 0)", Bounds::busy, x -> x.read(reader, 0),
                RentedMoments.UNKNOWN);
        }
    }

    /** "cell: 0 to 11", "UNKNOWN (.. cell)" */
    private static void readTakesCellsFrom0To11() {
        RentedMoments x = new RentedMoments();
        x.commit(Runs.openWithText(x, "0=100;11=111"));
        x.open(0);
        Due.is("9 read(1, 0)", x.read(1, 0), 100);
        Due.is("9 read(1, 11)", x.read(1, 11), 111);
        for (int cell : NO_CELLS) {
            Bounds.refused("9 read(0, " + cell + ")", Bounds::busy, y -> y.read(0, cell), RentedMoments.UNKNOWN);
        }
    }

    /** "NOT_POSSIBLE if the reader is not open" */
    private static void readIsForTheOpen() {
        for (int state = 1; state <= 3; state++) {
            int s = state;
            Bounds.refused("9 read in the state " + s, () -> Bounds.gone(s), x -> x.read(0, 1),
                RentedMoments.NOT_POSSIBLE);
            Bounds.refused("9 read of what it wrote in the state " + s, () -> Bounds.gone(s), x -> x.read(0, 5),
                RentedMoments.NOT_POSSIBLE);
        }
        Due.is("9 a widow is open", Bounds.busy().read(2, 2), 22);
    }

    /** "UNKNOWN (reader or cell); NOT_POSSIBLE ..", in this order */
    private static void readOrder() {
        Due.is("9 no such cell, and not open", Bounds.gone(1).read(0, 12), RentedMoments.UNKNOWN);
        Due.is("9 no such reader, nor cell", Bounds.gone(1).read(1, 12), RentedMoments.UNKNOWN);
    }

    /** "its own write if it has one for this cell; otherwise .." the cell is read */
    private static void readTellsTheOwnWrite() {
        RentedMoments x = Runs.withReaders(1, 0);
        x.write(0, 4, 0);
        x.write(0, 5, 9999);
        Runs.commitOne(x, 5, 1);
        Due.is("9 a write of 0", x.read(0, 4), 0);
        Due.is("9 a write of 9999", x.read(0, 5), 9999);
        Due.is("9 none of them is read", x.reader(0, 4), 0);
        RentedMoments y = new RentedMoments();
        Runs.commitOne(y, 4, 44);
        y.open(0);
        y.write(1, 4, 0);
        Due.is("9 a write of 0 over 44", y.read(1, 4), 0);
    }

    /** "otherwise the version that it sees" */
    private static void readTellsTheVersionThatItSees() {
        RentedMoments x = Runs.withReaders(1, 0);
        Runs.commitOne(x, 4, 44);
        x.open(0);
        Runs.commitOne(x, 4, 45);
        x.open(0);
        Due.is("9 of the moment 0", x.read(0, 4), 0);
        Due.is("9 of the moment 1", x.read(2, 4), 44);
        Due.is("9 of the moment 2", x.read(4, 4), 45);
    }

    /** "and the cell is one of those that it has read then" */
    private static void readNotesTheCell() {
        RentedMoments x = Runs.withReaders(2, 0);
        x.read(0, 0);
        Due.is("9 cell 0", x.reader(0, 4), 1);
        x.read(0, 0);
        Due.is("9 cell 0 again", x.reader(0, 4), 1);
        x.read(0, 11);
        Due.is("9 cell 11", x.reader(0, 4), 2049);
        Due.is("9 nobody else", x.reader(1, 4), 0);
        for (int cell = 0; cell < 12; cell++) {
            x.read(1, cell);
        }
        Due.is("9 all cells", x.reader(1, 4), 4095);
        x.write(1, 3, 3);
        Due.is("9 a write does not unread", x.reader(1, 4), 4095);
    }

    /** "This is an act" */
    private static void readIsAnAct() {
        Bounds.act("9 read", Bounds::busy, x -> x.read(0, 2), 0);
        Bounds.act("9 read of its own write", Bounds::busy, x -> x.read(2, 3), 33);
    }

    /** "also if the cell was read before" */
    private static void readIsAnActAlsoOfACellThatWasRead() {
        Bounds.act("9 read again", () -> {
            RentedMoments x = Runs.withReaders(1, 0);
            x.read(0, 2);
            return x;
        }, x -> x.read(0, 2), 0);
        RentedMoments x = Runs.withReaders(1, 0);
        x.read(0, 2);
        x.read(0, 2);
        Due.is("9 three acts", x.count(15), 3);
        x.undo();
        Due.is("9 read once still", x.reader(0, 4), 4);
        x.undo();
        Due.is("9 not read", x.reader(0, 4), 0);
    }

    /** "UNKNOWN (reader ..)" */
    private static void writeUnknown() {
        for (int reader : NO_READERS) {
            Bounds.refused("10 write(" + reader + ", 0, 0)", Bounds::busy, x -> x.write(reader, 0, 0),
                RentedMoments.UNKNOWN);
        }
    }

    /** "cell: 0 to 11", "UNKNOWN (.. cell)" */
    private static void writeTakesCellsFrom0To11() {
        RentedMoments x = Runs.withReaders(1, 0);
        Due.is("10 write(0, 0, 7)", x.write(0, 0, 7), 1);
        Due.is("10 write(0, 11, 8)", x.write(0, 11, 8), 2);
        Due.is("10 bits", x.reader(0, 5), 2049);
        for (int cell : NO_CELLS) {
            Bounds.refused("10 write(0, " + cell + ", 1)", Bounds::busy, y -> y.write(0, cell, 1),
                RentedMoments.UNKNOWN);
        }
    }

    /** "value: 0 to 9999", "BAD_VALUE" */
    private static void writeTakesFrom0To9999() {
        RentedMoments x = Runs.withReaders(1, 0);
        Due.is("10 write(0, 0, 0)", x.write(0, 0, 0), 1);
        Due.is("10 write(0, 1, 9999)", x.write(0, 1, 9999), 2);
        x.commit(0);
        Due.is("10 the least value", x.cell(0, 0), 0);
        Due.is("10 its moment", x.cell(0, 1), 1);
        Due.is("10 the greatest value", x.cell(1, 0), 9999);
        for (int value : NO_VALUES) {
            Bounds.refused("10 write(0, 0, " + value + ")", Bounds::busy, y -> y.write(0, 0, value),
                RentedMoments.BAD_VALUE);
        }
    }

    /** "NOT_POSSIBLE if the reader is not open" */
    private static void writeIsForTheOpen() {
        for (int state = 1; state <= 3; state++) {
            int s = state;
            Bounds.refused("10 write in the state " + s, () -> Bounds.gone(s), x -> x.write(0, 1, 1),
                RentedMoments.NOT_POSSIBLE);
        }
        Due.is("10 a widow is open", Bounds.busy().write(2, 2, 1), 2);
    }

    /** "UNKNOWN (reader or cell); BAD_VALUE; NOT_POSSIBLE ..", in this order */
    private static void writeOrder() {
        RentedMoments x = Bounds.gone(2);
        Due.is("10 no such reader, and no such value", x.write(1, 0, -1), RentedMoments.UNKNOWN);
        Due.is("10 no such cell, and no such value", x.write(0, 12, 10000), RentedMoments.UNKNOWN);
        Due.is("10 no such cell, and not open", x.write(0, -1, 0), RentedMoments.UNKNOWN);
        Due.is("10 no such value, and not open", x.write(0, 0, 10000), RentedMoments.BAD_VALUE);
    }

    /** "Returns how many writes the reader has then" */
    private static void writeTellsHowManyWrites() {
        RentedMoments x = Runs.withReaders(2, 0);
        for (int cell = 0; cell < 12; cell++) {
            Due.is("10 the write of cell " + cell, x.write(0, cell, 9), cell + 1);
        }
        Due.is("10 another reader's first", x.write(1, 0, 9), 1);
    }

    /** "in place of a write that it had for this cell" */
    private static void writeInPlaceOfAnother() {
        RentedMoments x = Runs.withReaders(1, 0);
        x.write(0, 6, 1);
        Due.is("10 the same cell", x.write(0, 6, 2), 1);
        Due.is("10 the later one", x.read(0, 6), 2);
        x.commit(0);
        Due.is("10 committed", x.cell(6, 0), 2);
        Due.is("10 the earlier one is no version", x.count(8), 1);
    }

    /** "This is an act." */
    private static void writeIsAnAct() {
        Bounds.act("10 write", Bounds::busy, x -> x.write(0, 0, 0), 1);
        Bounds.act("10 the same write again", Bounds::busy, x -> x.write(2, 3, 33), 1);
    }

    /** "UNKNOWN" */
    private static void commitUnknown() {
        for (int reader : NO_READERS) {
            Bounds.refused("11 commit(" + reader + ")", Bounds::busy, x -> x.commit(reader),
                RentedMoments.UNKNOWN);
        }
    }

    /** "NOT_POSSIBLE if the reader is not open" */
    private static void commitIsForTheOpen() {
        for (int state = 1; state <= 3; state++) {
            int s = state;
            Bounds.refused("11 commit in the state " + s, () -> Bounds.gone(s), x -> x.commit(0),
                RentedMoments.NOT_POSSIBLE);
        }
        Due.is("11 a widow is open", Bounds.busy().commit(2), 2);
    }

    /** "Returns the moment then" */
    private static void commitTellsTheMoment() {
        RentedMoments x = Runs.withReaders(4, 0);
        Due.is("11 without writes", x.commit(0), 0);
        x.write(1, 0, 1);
        Due.is("11 the first that writes", x.commit(1), 1);
        Due.is("11 without writes then", x.commit(2), 1);
        x.write(3, 1, 1);
        Due.is("11 the second that writes", x.commit(3), 2);
    }

    /** A reader 0 of the moment 0 with writes of the cells 3 and 6; cell 6 has a version of the moment 1. */
    private static RentedMoments inConflict() {
        RentedMoments x = Runs.withReaders(1, 20);
        x.write(0, 3, 1);
        x.write(0, 6, 1);
        Runs.commitOne(x, 6, 2);
        return x;
    }

    /** "CONFLICT" */
    private static void commitConflict() {
        Bounds.refused("11 a conflict", CellsBoundsTest::inConflict, x -> x.commit(0), RentedMoments.CONFLICT);
        RentedMoments x = Bounds.gone(1);
        x.open(0);
        x.write(1, 5, 56);
        Due.is("11 no conflict with what it sees", x.commit(1), 2);
    }

    private static RentedMoments inForbiddenSkew() {
        RentedMoments x = Runs.inSkew(20);
        x.forbidSkew(true);
        return x;
    }

    /** "NOT_POSSIBLE if it would be in skew, and this is forbidden" */
    private static void commitInSkew() {
        Bounds.refused("11 a forbidden skew", CellsBoundsTest::inForbiddenSkew, x -> x.commit(1),
            RentedMoments.NOT_POSSIBLE);
        Due.is("11 a skew that is not forbidden", Runs.inSkew(20).commit(1), 2);
        RentedMoments x = inForbiddenSkew();
        x.forbidSkew(false);
        Due.is("11 a skew that is forbidden no more", x.commit(1), 2);
        RentedMoments y = inForbiddenSkew();
        y.open(0);
        Due.is("11 no skew, while it is forbidden", Runs.commitOne(y, 1, 1), 2);
    }

    /** 36 old versions are kept for three readers; the reader 6 sees the newest, 7 is about to commit. */
    private static RentedMoments withOldVersions(String textOfTheLast) {
        RentedMoments x = new RentedMoments();
        for (int i = 0; i < 3; i++) {
            x.open(0);
            x.commit(Runs.openWithText(x, Runs.ALL_CELLS));
        }
        x.open(0);
        Runs.openWithText(x, textOfTheLast);
        return x;
    }

    /** "FULL if more than 40 old versions would have to be kept" */
    private static void commitIsFullAbove40() {
        Bounds.refused("11 forty-one", () -> withOldVersions("0=1;1=1;2=1;3=1;4=1"), x -> x.commit(7),
            RentedMoments.FULL);
        Bounds.refused("11 forty-eight", () -> withOldVersions(Runs.ALL_CELLS), x -> x.commit(7),
            RentedMoments.FULL);
    }

    /** The same, just below */
    private static void commitIsNotFullAt40() {
        RentedMoments x = withOldVersions("0=1;1=1;2=1;3=1");
        Due.is("11 forty", x.commit(7), 4);
        Due.is("11 kept", x.count(7), 40);
        x.open(0);
        Due.is("11 one without writes", x.commit(8), 4);
        x.open(0);
        Due.is("11 a forty-first", Runs.commitOne(x, 0, 1), RentedMoments.FULL);
        Due.is("11 forty still", x.count(7), 40);
    }

    /** 40 old versions are kept, one of cell 0 for the reader 8 alone; all see the newest of cell 11. */
    private static RentedMoments withOneOfFortyForTheCommitter() {
        RentedMoments x = new RentedMoments();
        for (int i = 0; i < 3; i++) {
            x.open(0);
            x.commit(Runs.openWithText(x, "0=1;1=1;2=1;3=1;4=1;5=1;6=1;7=1;8=1;9=1;10=1"));
        }
        x.open(0);
        x.commit(Runs.openWithText(x, "0=1;1=1;2=1;3=1;4=1;5=1"));
        x.open(0);
        Runs.commitOne(x, 0, 1);
        x.write(8, 11, 1);
        return x;
    }

    /** What "would have to be kept": neither what nobody sees, nor what the committer alone sees */
    private static void commitCountsWhatWouldBeKept() {
        RentedMoments x = withOldVersions("0=1;1=1;2=1;3=1");
        x.commit(7);
        Due.is("11 four that nobody sees", x.commit(Runs.openWithText(x, "0=2;1=2;2=2;3=2")), 5);
        Due.is("11 are not kept", x.count(7), 40);
        Due.is("11 cell 4 is seen", Runs.commitOne(x, 4, 2), RentedMoments.FULL);
        RentedMoments y = withOneOfFortyForTheCommitter();
        Due.is("11 forty before", y.count(7), 40);
        Due.is("11 one goes, one comes", y.commit(8), 6);
        Due.is("11 forty then", y.count(7), 40);
        Bounds.refused("11 one goes, two come", () -> {
            RentedMoments z = withOneOfFortyForTheCommitter();
            z.write(8, 10, 1);
            return z;
        }, z -> z.commit(8), RentedMoments.FULL);
    }

    /** "NOT_POSSIBLE if the reader is not open; CONFLICT; NOT_POSSIBLE if .. skew ..; FULL", in this order */
    private static void commitOrder() {
        RentedMoments x = inConflict();
        x.close(0);
        Due.is("11 not open, and a conflict", x.commit(0), RentedMoments.NOT_POSSIBLE);
        RentedMoments y = inForbiddenSkew();
        y.write(1, 7, 7);
        Runs.commitOne(y, 7, 1);
        Due.is("11 a conflict, and a skew", y.commit(1), RentedMoments.CONFLICT);
        RentedMoments z = withOldVersions(Runs.ALL_CELLS);
        Runs.commitOne(z, 0, 2);
        Due.is("11 a conflict, and full", z.commit(7), RentedMoments.CONFLICT);
        RentedMoments w = withOldVersions("0=1;1=1;2=1;3=1;4=1");
        w.read(7, 11);
        w.open(0);
        w.read(8, 0);
        w.write(8, 11, 2);
        w.commit(8);
        Due.is("11 full", w.commit(7), RentedMoments.FULL);
        w.forbidSkew(true);
        Due.is("11 a skew, and full", w.commit(7), RentedMoments.NOT_POSSIBLE);
    }

    /** "This is an act." */
    private static void commitIsAnAct() {
        Bounds.act("11 commit", Bounds::busy, x -> x.commit(2), 2);
        Bounds.act("11 commit without writes", Bounds::busy, x -> x.commit(0), 1);
    }
}
