/** Promises 9 to 11: read, write, commit. */
public final class CellsTest {
    public static void main(String[] args) {
        read();
        write();
        commitArguments();
        commitWithoutWrites();
        conflict();
        noConflictAtTheOwnMoment();
        skewForbidden();
        whatIsNoSkew();
        conflictComesBeforeSkew();
        tooManyOldVersions();
        theCommittersOwnVersionsGo();
        roomThatTheCommitterLeaves();
        Due.end("CellsTest");
    }

    private static void read() {
        RentedMoments x = new RentedMoments();
        x.open(9);
        Due.is("read no reader", x.read(1, 0), RentedMoments.UNKNOWN);
        Due.is("read cell 12", x.read(0, 12), RentedMoments.UNKNOWN);
        Due.is("read cell -1", x.read(0, -1), RentedMoments.UNKNOWN);
        Runs.commitOne(x, 3, 333);
        Due.is("as it was", x.read(0, 3), 0);
        Due.is("it has read it", x.reader(0, 4), 8);
        Due.is("acts", x.count(15), 4);
        x.write(0, 4, 44);
        Due.is("its own write", x.read(0, 4), 44);
        Due.is("that is not read", x.reader(0, 4), 8);
        x.open(9);
        Due.is("as it is", x.read(2, 3), 333);
        Due.is("cell 11", x.read(2, 11), 0);
        Due.is("what both bits tell", x.reader(2, 4), 8 + 2048);
        x.close(2);
        Due.is("read of the closed", x.read(2, 3), RentedMoments.NOT_POSSIBLE);
        Due.is("cell 12 of the closed", x.read(2, 12), RentedMoments.UNKNOWN);
        RentedMoments y = new RentedMoments();
        y.open(0);
        y.read(0, 0);
        y.read(0, 0);
        Due.is("an act each time", y.count(15), 3);
    }

    private static void write() {
        RentedMoments x = new RentedMoments();
        x.open(9);
        Due.is("write no reader", x.write(1, 0, -1), RentedMoments.UNKNOWN);
        Due.is("write cell 12", x.write(0, 12, -1), RentedMoments.UNKNOWN);
        Due.is("write cell -1", x.write(0, -1, 1), RentedMoments.UNKNOWN);
        Due.is("write -1", x.write(0, 0, -1), RentedMoments.BAD_VALUE);
        Due.is("write 10000", x.write(0, 0, 10000), RentedMoments.BAD_VALUE);
        Due.is("write 0", x.write(0, 0, 0), 1);
        Due.is("write 9999", x.write(0, 11, 9999), 2);
        Due.is("in place of it", x.write(0, 0, 7), 2);
        Due.is("read it", x.read(0, 0), 7);
        Due.is("nobody else sees it", x.read(x.open(1), 0), 0);
        Due.is("the cell neither", x.cell(0, 0), 0);
        Due.is("bits", x.reader(0, 5), 2049);
        Due.is("writers", x.cell(0, 4), 1);
        x.close(0);
        Due.is("write of the closed", x.write(0, 0, 7), RentedMoments.NOT_POSSIBLE);
        Due.is("10000 of the closed", x.write(0, 0, 10000), RentedMoments.BAD_VALUE);
    }

    private static void commitArguments() {
        RentedMoments x = new RentedMoments();
        Due.is("commit no reader", x.commit(0), RentedMoments.UNKNOWN);
        Due.is("commit -1", x.commit(-1), RentedMoments.UNKNOWN);
        x.open(1);
        x.write(0, 1, 11);
        x.write(0, 2, 22);
        Due.is("commit", x.commit(0), 1);
        Due.is("state", x.reader(0, 0), 1);
        Due.is("value 1", x.cell(1, 0), 11);
        Due.is("value 2", x.cell(2, 0), 22);
        Due.is("moment 2", x.cell(2, 1), 1);
        Due.is("nobody saw the old ones", x.count(8), 2);
        Due.is("commit again", x.commit(0), RentedMoments.NOT_POSSIBLE);
        x.open(1);
        x.close(1);
        Due.is("commit the closed", x.commit(1), RentedMoments.NOT_POSSIBLE);
    }

    private static void commitWithoutWrites() {
        RentedMoments x = new RentedMoments();
        x.open(1);
        x.read(0, 1);
        Runs.commitOne(x, 1, 5);
        Due.is("no new moment", x.commit(0), 1);
        Due.is("state", x.reader(0, 0), 1);
        Due.is("no commit that wrote", x.count(11), 1);
        Due.is("its old version goes", x.count(7), 0);
        Due.is("removed", x.count(8), 1);
    }

    private static void conflict() {
        RentedMoments x = new RentedMoments();
        x.open(1);
        x.write(0, 6, 1);
        Due.is("no conflict yet", x.reader(0, 10), 0);
        Runs.commitOne(x, 6, 2);
        Due.is("conflict", x.reader(0, 10), 1);
        int acts = x.count(15);
        Due.is("commit", x.commit(0), RentedMoments.CONFLICT);
        Due.is("it stays open", x.reader(0, 0), 0);
        Due.is("no act", x.count(15), acts);
        Due.is("no moment", x.count(0), 1);
        x.close(0);
        Due.is("the closed has none", x.reader(0, 10), 0);
    }

    private static void noConflictAtTheOwnMoment() {
        RentedMoments x = new RentedMoments();
        Runs.commitOne(x, 6, 2);
        x.open(1);
        x.write(1, 6, 1);
        Runs.commitOne(x, 7, 2);
        x.read(1, 7);
        Due.is("reading is no conflict", x.commit(1), 3);
    }

    private static void skewForbidden() {
        RentedMoments x = Runs.inSkew(0);
        Due.is("would be in skew", x.reader(1, 11), 1);
        Due.is("no conflict", x.reader(1, 10), 0);
        x.forbidSkew(true);
        Due.is("forbidden", x.commit(1), RentedMoments.NOT_POSSIBLE);
        Due.is("it stays open", x.reader(1, 0), 0);
        x.forbidSkew(false);
        Due.is("allowed", x.commit(1), 2);
        Due.is("pairs", x.count(12), 1);
        Due.is("told of the second", x.committed(1, 5), 1);
        Due.is("not of the first", x.committed(0, 5), 0);
        Due.is("committed ones would not be", x.reader(1, 11), 0);
    }

    private static void whatIsNoSkew() {
        RentedMoments x = Runs.inSkew(0);
        x.write(1, 2, 1);
        Due.is("the same cell is written", x.reader(1, 11), 0);
        x = Runs.inSkew(0);
        x.open(0);
        x.read(2, 2);
        x.write(2, 1, 1);
        Due.is("it has seen the first", x.reader(2, 11), 0);
        x.forbidSkew(true);
        Due.is("what is no skew is not forbidden", x.commit(2), 2);
        x = new RentedMoments();
        x.open(0);
        x.open(0);
        x.write(0, 2, 5);
        x.read(0, 2);
        x.write(1, 1, 6);
        x.read(1, 2);
        x.commit(0);
        Due.is("only one of them has read", x.reader(1, 11), 0);
        x = new RentedMoments();
        x.open(0);
        x.open(0);
        x.read(0, 1);
        x.read(1, 2);
        x.write(0, 2, 5);
        x.commit(0);
        Due.is("without writes", x.reader(1, 11), 0);
    }

    private static void conflictComesBeforeSkew() {
        RentedMoments x = Runs.inSkew(0);
        x.write(1, 7, 7);
        Runs.commitOne(x, 7, 1);
        x.forbidSkew(true);
        Due.is("skew is told with a conflict", x.reader(1, 11), 1);
        Due.is("conflict first", x.commit(1), RentedMoments.CONFLICT);
    }

    private static void tooManyOldVersions() {
        RentedMoments x = new RentedMoments();
        for (int i = 0; i < 3; i++) {
            x.open(0);
            x.commit(Runs.openWithText(x, Runs.ALL_CELLS));
        }
        Due.is("thirty-six", x.count(7), 36);
        x.open(0);
        int last = Runs.openWithText(x, "0=1;1=1;2=1;3=1;4=1");
        int acts = x.count(15);
        Due.is("five more", x.commit(last), RentedMoments.FULL);
        Due.is("it stays open", x.reader(last, 0), 0);
        Due.is("no act", x.count(15), acts);
        x.close(last);
        last = Runs.openWithText(x, "0=1;1=1;2=1;3=1");
        Due.is("four more", x.commit(last), 4);
        Due.is("forty", x.count(7), 40);
        Due.is("one unseen more", Runs.commitOne(x, 0, 5), 5);
        Due.is("is removed", x.count(7), 40);
        x.open(0);
        Due.is("one seen more", Runs.commitOne(x, 0, 5), RentedMoments.FULL);
    }

    private static void theCommittersOwnVersionsGo() {
        RentedMoments x = new RentedMoments();
        Runs.openWithText(x, "11=1");
        for (int i = 0; i < 3; i++) {
            Runs.commitOne(x, i, 9);
            x.open(0);
        }
        Due.is("old ones of cell 0, 1 and 2", x.count(7), 3);
        Due.is("the first sees that of cell 0 alone", x.commit(0), 4);
        // Those of cell 1 and 2 are seen by the later ones too, that of 11 is new.
        Due.is("old ones", x.count(7), 3);
        Due.is("removed", x.count(8), 1);
        Due.is("of cell 0", x.cell(0, 2), 1);
    }

    private static void roomThatTheCommitterLeaves() {
        RentedMoments x = new RentedMoments();
        Runs.openWithText(x, "11=1");
        for (int i = 0; i < 3; i++) {
            x.commit(Runs.openWithText(x, "0=1;1=1;2=1;3=1;4=1;5=1;6=1;7=1;8=1;9=1;10=1"));
            x.open(0);
        }
        x.commit(Runs.openWithText(x, "0=1;1=1;2=1;3=1;4=1;5=1;6=1"));
        Due.is("forty", x.count(7), 40);
        Due.is("eleven that it sees alone go, one comes", x.commit(0), 5);
        Due.is("thirty", x.count(7), 30);
    }
}
