/** Promises 15 to 17: undo, keep, restore. */
public final class HistoryTest {
    public static void main(String[] args) {
        undo();
        undoBringsEverythingBack();
        whatIsNoAct();
        keepAndRestore();
        snapshotIsNoState();
        anUndoneReaderLeavesNoTrace();
        readersAndCommitsComeBack();
        Due.end("HistoryTest");
    }

    private static void undo() {
        RentedMoments x = new RentedMoments();
        Due.is("undo nothing", x.undo(), RentedMoments.NONE);
        for (int i = 0; i < 6; i++) {
            x.open(i);
        }
        Due.is("four states", x.count(15), 4);
        Due.is("undo", x.undo(), 3);
        Due.is("readers", x.count(2), 5);
        Due.is("undo", x.undo(), 2);
        Due.is("undo", x.undo(), 1);
        Due.is("undo", x.undo(), 0);
        Due.is("the oldest ones were dropped", x.count(2), 2);
        Due.is("undo no more", x.undo(), RentedMoments.NONE);
        Due.is("open goes on from there", x.open(3), 2);
    }

    private static RentedMoments busy() {
        RentedMoments x = new RentedMoments();
        x.open(30);
        x.open(9);
        x.read(0, 1);
        x.read(1, 2);
        x.write(0, 2, 5);
        x.write(1, 1, 6);
        x.commit(0);
        x.open(20);
        x.write(2, 3, 3);
        x.widow(2, 4);
        return x;
    }

    private static void back(String act, RentedMoments x, String before) {
        Due.is(act + " undone", x.undo(), 3);
        Due.is(act + " brings all back", Runs.told(x).equals(before) ? 1 : 0, 1);
    }

    private static void undoBringsEverythingBack() {
        RentedMoments x = busy();
        // The fourth state is dropped when the next one is recorded: the count told of it is 3 then.
        x.undo();
        String before = Runs.told(x);
        x.open(1);
        back("open", x, before);
        x.pay(1, 1);
        back("pay", x, before);
        x.widow(1, 1);
        back("widow", x, before);
        x.close(1);
        back("close", x, before);
        x.setRent(0);
        back("setRent", x, before);
        x.forbidSkew(true);
        back("forbidSkew", x, before);
        x.tick(60);
        back("tick", x, before);
        x.read(1, 11);
        back("read", x, before);
        x.write(1, 1, 9);
        back("write", x, before);
        x.commit(1);
        back("commit", x, before);
        x.keep();
        x.commit(2);
        x.undo();
        x.restore();
        back("restore", x, before);
    }

    private static void whatIsNoAct() {
        RentedMoments x = new RentedMoments();
        x.open(5);
        x.type('1');
        x.clearText();
        x.keep();
        x.setRent(4);
        x.forbidSkew(false);
        x.readWrites(0);
        x.pay(0, 0);
        x.lasts(0);
        Runs.told(x);
        Due.is("one act", x.count(15), 1);
        x.restore();
        Due.is("two acts", x.count(15), 2);
    }

    private static void keepAndRestore() {
        RentedMoments x = new RentedMoments();
        Due.is("restore nothing", x.restore(), RentedMoments.NONE);
        Due.is("which is no act", x.count(15), 0);
        Due.is("keep", x.keep(), 0);
        Runs.commitOne(x, 4, 4);
        Due.is("restore", x.restore(), 0);
        Due.is("no readers", x.count(2), 0);
        Due.is("the cell", x.cell(4, 0), 0);
        Due.is("the history is no state", x.count(15), 4);
        Runs.commitOne(x, 4, 5);
        Due.is("the snapshot stays", x.restore(), 0);
        Due.is("undo the restore", x.undo(), 3);
        Due.is("as before", x.cell(4, 0), 5);
        Due.is("keep in its place", x.keep(), 1);
        x.open(3);
        Due.is("restore that", x.restore(), 1);
        Due.is("one reader", x.count(2), 1);
    }

    private static void snapshotIsNoState() {
        RentedMoments x = new RentedMoments();
        x.open(1);
        x.type('7');
        x.keep();
        x.undo();
        x.type('7');
        Due.is("restore what was undone", x.restore(), 0);
        Due.is("the reader is there", x.count(2), 1);
        Due.is("the text is no state", x.count(16), 2);
        x.write(0, 1, 9);
        Due.is("what is done then is not in the snapshot", x.restore(), 0);
        Due.is("no write", x.reader(0, 5), 0);
    }

    private static void anUndoneReaderLeavesNoTrace() {
        RentedMoments x = new RentedMoments();
        x.keep();
        x.open(5);
        x.read(0, 3);
        x.write(0, 4, 4);
        Runs.commitOne(x, 9, 9);
        x.widow(0, 1);
        x.tick(2);
        x.widow(0, 20);
        x.close(0);
        x.restore();
        Due.is("the number again", x.open(6), 0);
        int[] fresh = {0, 0, 6, 0, 0, 0, 0, 0, 0, 0, 0, 0};
        for (int what = 0; what < fresh.length; what++) {
            Due.is("fresh reader " + what, x.reader(0, what), fresh[what]);
        }
        Due.is("not read its write", x.read(0, 4), 0);
        Due.is("no widow before", x.widow(0, 20), 0);
        x.restore();
        x.open(6);
        Due.is("its term neither", x.reader(0, 6), 0);
    }

    private static void readersAndCommitsComeBack() {
        RentedMoments x = new RentedMoments();
        x.open(80);
        x.open(70);
        x.read(0, 5);
        x.write(0, 0, 11);
        x.read(1, 0);
        x.write(1, 5, 55);
        x.commit(0);
        x.open(60);
        x.read(2, 5);
        x.write(2, 6, 66);
        x.open(50);
        x.widow(3, 1);
        x.write(3, 8, 88);
        x.commit(2);
        x.keep();
        String before = Runs.told(x);
        for (int i = 0; i < 4; i++) {
            x.undo();
        }
        // Another reader and another commit take the places of those that are kept.
        Due.is("another commit", x.commit(1), 2);
        Due.is("another reader", x.open(1), 3);
        x.write(3, 8, 99);
        x.restore();
        Due.is("all is as it was kept", Runs.told(x).equals(before) ? 1 : 0, 1);
        Due.is("the write too", x.read(3, 8), 88);
        Due.is("a widow that was", x.widow(3, 1), RentedMoments.NOT_POSSIBLE);
    }
}
