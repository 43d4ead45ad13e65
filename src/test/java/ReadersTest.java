/** Promises 1 to 8: a new object, open, pay, widow, close, setRent, forbidSkew, tick. */
public final class ReadersTest {
    public static void main(String[] args) {
        newObject();
        openNumbersAndLimits();
        pay();
        widow();
        widowIsOnceOnly();
        close();
        setRent();
        forbidSkew();
        tickArguments();
        rentIsSharedAndRoundedUpForEachVersion();
        duesAreToldBeforeAnybodyIsEvicted();
        aTermEndsAndTheShareIsSmallerThen();
        evictionRemovesVersions();
        Due.end("ReadersTest");
    }

    private static void newObject() {
        RentedMoments x = new RentedMoments();
        for (int cell = 0; cell < 12; cell++) {
            Due.is("new cell value", x.cell(cell, 0), 0);
            Due.is("new cell moment", x.cell(cell, 1), 0);
            Due.is("new cell versions", x.cell(cell, 2), 1);
            Due.is("new cell seers", x.cell(cell, 3), 0);
            Due.is("new cell writers", x.cell(cell, 4), 0);
        }
        for (int what = 0; what <= 16; what++) {
            Due.is("new count " + what, x.count(what), what == 9 ? 4 : 0);
        }
        Due.is("no reader", x.reader(0, 0), RentedMoments.UNKNOWN);
        Due.is("no commit", x.committed(0, 0), RentedMoments.UNKNOWN);
        Due.is("no history", x.undo(), RentedMoments.NONE);
        Due.is("no snapshot", x.restore(), RentedMoments.NONE);
    }

    private static void openNumbersAndLimits() {
        RentedMoments x = new RentedMoments();
        Due.is("open -1", x.open(-1), RentedMoments.BAD_VALUE);
        Due.is("open 10000", x.open(10000), RentedMoments.BAD_VALUE);
        Due.is("open 0", x.open(0), 0);
        Due.is("open 9999", x.open(9999), 1);
        Due.is("purse", x.reader(1, 2), 9999);
        for (int i = 2; i < 8; i++) {
            Due.is("open", x.open(i), i);
        }
        Due.is("a ninth", x.open(5), RentedMoments.FULL);
        Due.is("a bad ninth", x.open(10000), RentedMoments.BAD_VALUE);
        Due.is("close", x.close(3), 0);
        Due.is("a ninth after a close", x.open(5), 8);
        for (int i = 9; i < 40; i++) {
            x.close(i - 1);
            Due.is("open to forty", x.open(1), i);
        }
        x.close(39);
        Due.is("seven are open", x.count(3), 7);
        Due.is("a forty-first", x.open(1), RentedMoments.FULL);
        Due.is("forty readers", x.count(2), 40);
        Due.is("the last known", x.reader(39, 0), 2);
        Due.is("beyond the last", x.reader(40, 0), RentedMoments.UNKNOWN);
        x.undo();
        x.undo();
        Due.is("the fortieth once more", x.open(77), 39);
        Due.is("with its own purse", x.reader(39, 2), 77);
    }

    private static void pay() {
        RentedMoments x = new RentedMoments();
        x.open(10);
        Due.is("pay", x.pay(0, 5), 15);
        Due.is("pay one", x.pay(0, 1), 16);
        Due.is("pay no reader", x.pay(1, 0), RentedMoments.UNKNOWN);
        Due.is("pay reader -1", x.pay(-1, 1), RentedMoments.UNKNOWN);
        Due.is("pay 0", x.pay(0, 0), RentedMoments.BAD_VALUE);
        Due.is("pay 10000", x.pay(0, 10000), RentedMoments.BAD_VALUE);
        Due.is("pay most", x.pay(0, 9999), RentedMoments.FULL);
        Due.is("pay to the brim", x.pay(0, 9983), 9999);
        Due.is("pay over it", x.pay(0, 1), RentedMoments.FULL);
        Due.is("nothing is paid of rent by that", x.reader(0, 7), 0);
        x.close(0);
        Due.is("pay 0 to the closed", x.pay(0, 0), RentedMoments.BAD_VALUE);
        Due.is("pay the closed", x.pay(0, 1), RentedMoments.NOT_POSSIBLE);
        Due.is("three acts", x.count(15), 4);
    }

    private static void widow() {
        RentedMoments x = new RentedMoments();
        x.open(100);
        x.open(100);
        Runs.commitOne(x, 2, 9);
        Due.is("widow no reader", x.widow(3, 0), RentedMoments.UNKNOWN);
        Due.is("widow 0", x.widow(0, 0), RentedMoments.BAD_VALUE);
        Due.is("widow 21", x.widow(0, 21), RentedMoments.BAD_VALUE);
        Due.is("widow the committed", x.widow(2, 1), RentedMoments.NOT_POSSIBLE);
        Due.is("half of the rent", x.reader(1, 3), 2);
        Due.is("widow", x.widow(0, 20), 2);
        Due.is("no due", x.reader(0, 3), 0);
        Due.is("term", x.reader(0, 6), 20);
        Due.is("all of the rent", x.reader(1, 3), 4);
        Due.is("widows", x.count(14), 1);
        Due.is("seers", x.version(2, 1, 2), 2);
        Due.is("payers", x.version(2, 1, 3), 1);
        Due.is("the other too", x.widow(1, 1), 4);
        Due.is("nobody pays", x.version(2, 1, 4), 0);
        x.tick(1);
        Due.is("the other's term is over", x.reader(1, 6), 0);
        Due.is("it has not paid", x.reader(1, 2), 100);
        Due.is("one widow is left", x.count(14), 1);
        x.tick(19);
        Due.is("the term is over", x.reader(0, 6), 0);
        Due.is("the other has paid alone", x.reader(1, 7), 19 * 4);
        Due.is("it has not", x.reader(0, 7), 0);
    }

    private static void widowIsOnceOnly() {
        RentedMoments x = new RentedMoments();
        x.open(1);
        Due.is("widow", x.widow(0, 2), 0);
        Due.is("while it is one", x.widow(0, 2), RentedMoments.NOT_POSSIBLE);
        x.tick(2);
        Due.is("after the term", x.widow(0, 2), RentedMoments.NOT_POSSIBLE);
        x.open(1);
        x.widow(1, 5);
        x.close(1);
        Due.is("a closed one is no open widow", x.count(14), 0);
        x.tick(3);
        Due.is("only open widows' terms become less", x.reader(1, 6), 5);
    }

    private static void close() {
        RentedMoments x = new RentedMoments();
        Due.is("close no reader", x.close(0), RentedMoments.UNKNOWN);
        x.open(1);
        x.open(1);
        x.write(0, 4, 44);
        Runs.commitOne(x, 2, 9);
        Runs.commitOne(x, 3, 9);
        Due.is("two old ones", x.count(7), 2);
        Due.is("close one of two", x.close(1), 0);
        Due.is("close the other", x.close(0), 2);
        Due.is("none is left", x.count(7), 0);
        Due.is("two are removed", x.count(8), 2);
        Due.is("its state", x.reader(0, 0), 2);
        Due.is("the write is lost", x.cell(4, 0), 0);
        Due.is("nobody writes", x.cell(4, 4), 0);
        Due.is("it had it", x.reader(0, 5), 16);
        Due.is("close it again", x.close(0), RentedMoments.NOT_POSSIBLE);
        Due.is("close the committed", x.close(2), RentedMoments.NOT_POSSIBLE);
        Due.is("close -1", x.close(-1), RentedMoments.UNKNOWN);
    }

    private static void setRent() {
        RentedMoments x = new RentedMoments();
        Due.is("rent -1", x.setRent(-1), RentedMoments.BAD_VALUE);
        Due.is("rent 100", x.setRent(100), RentedMoments.BAD_VALUE);
        Due.is("the same rent", x.setRent(4), RentedMoments.NONE);
        Due.is("no act", x.count(15), 0);
        Due.is("rent 99", x.setRent(99), 4);
        Due.is("rent 0", x.setRent(0), 99);
        Due.is("rent", x.count(9), 0);
    }

    private static void forbidSkew() {
        RentedMoments x = new RentedMoments();
        Due.is("it is not", x.forbidSkew(false), RentedMoments.NONE);
        Due.is("forbid", x.forbidSkew(true), 0);
        Due.is("told", x.count(13), 1);
        Due.is("it is so", x.forbidSkew(true), RentedMoments.NONE);
        Due.is("allow", x.forbidSkew(false), 0);
        Due.is("told not", x.count(13), 0);
        x.open(0);
        x.open(0);
        x.open(0);
        for (int i = 0; i < 3; i++) {
            x.read(i, 0);
            x.read(i, 1);
            x.read(i, 2);
            x.write(i, i, 5);
        }
        x.commit(0);
        x.commit(1);
        x.commit(2);
        Due.is("three pairs", x.forbidSkew(true), 3);
    }

    private static void tickArguments() {
        RentedMoments x = new RentedMoments();
        Due.is("tick 0", x.tick(0), RentedMoments.BAD_VALUE);
        Due.is("tick -1", x.tick(-1), RentedMoments.BAD_VALUE);
        Due.is("tick 61", x.tick(61), RentedMoments.BAD_VALUE);
        Due.is("tick 1", x.tick(1), 0);
        Due.is("tick 60", x.tick(60), 0);
        Due.is("number of the tick", x.count(1), 61);
        x.open(0);
        x.tick(60);
        Due.is("who has no due stays", x.reader(0, 0), 0);
    }

    private static void rentIsSharedAndRoundedUpForEachVersion() {
        RentedMoments x = new RentedMoments();
        x.setRent(7);
        x.open(100);
        x.open(100);
        x.open(100);
        Runs.commitOne(x, 0, 1);
        Runs.commitOne(x, 1, 1);
        Due.is("a third of seven, rounded up", x.version(0, 1, 4), 3);
        Due.is("for each version by itself", x.reader(1, 3), 6);
        x.tick(2);
        Due.is("purse", x.reader(1, 2), 88);
        Due.is("paid by all", x.count(10), 36);
        x.setRent(0);
        Due.is("no rent", x.reader(1, 3), 0);
        x.tick(60);
        Due.is("nothing more is paid", x.count(10), 36);
    }

    private static void duesAreToldBeforeAnybodyIsEvicted() {
        RentedMoments x = new RentedMoments();
        x.setRent(10);
        x.open(4);
        x.open(5);
        x.open(15);
        Runs.commitOne(x, 0, 1);
        // A third of 10, rounded up, is 4: all pay; then 4 again: the first has 0, the second 1.
        Due.is("the first tick", x.tick(1), 0);
        Due.is("two go, the third pays its third", x.tick(1), 2);
        Due.is("it keeps its coins", x.reader(1, 2), 1);
        Due.is("the third's purse", x.reader(2, 2), 7);
        Due.is("all of the rent is due now", x.reader(2, 3), 10);
        Due.is("which it has not", x.tick(5), 1);
        Due.is("states", x.count(6), 3);
        Due.is("the ticks pass nevertheless", x.count(1), 7);
    }

    private static void aTermEndsAndTheShareIsSmallerThen() {
        RentedMoments x = new RentedMoments();
        x.open(50);
        x.open(50);
        Runs.commitOne(x, 11, 1);
        x.widow(1, 3);
        x.tick(5);
        Due.is("three alone, two shared", x.reader(0, 7), 3 * 4 + 2 * 2);
        Due.is("two shared", x.reader(1, 7), 4);
        Due.is("told as the sum", x.count(10), 20);
    }

    private static void evictionRemovesVersions() {
        RentedMoments x = new RentedMoments();
        x.open(4);
        x.write(0, 5, 5);
        Runs.commitOne(x, 0, 1);
        Due.is("a purse that is just enough", x.tick(1), 0);
        Due.is("it is empty", x.reader(0, 2), 0);
        Due.is("it goes", x.tick(1), 1);
        Due.is("its state", x.reader(0, 0), 3);
        Due.is("removed", x.count(8), 1);
        Due.is("versions", x.cell(0, 2), 1);
        Due.is("due of the evicted", x.reader(0, 3), 0);
        Due.is("its writes as they were", x.reader(0, 5), 32);
        Due.is("it writes no more", x.cell(5, 4), 0);
        Due.is("it can't be closed", x.close(0), RentedMoments.NOT_POSSIBLE);
    }
}
