/** Promises 1 to 8: each sentence that names a boundary case has a method here, with its words above it. */
public final class ReadersBoundsTest {
    private static final int[] NO_COINS_FOR_A_PURSE = {-1, 10000, Bounds.LEAST, Bounds.MOST};
    private static final int[] NO_COINS_TO_PAY = {0, -1, 10000, Bounds.LEAST, Bounds.MOST};
    private static final int[] NO_TERMS = {0, -1, 21, Bounds.LEAST, Bounds.MOST};
    private static final int[] NO_RENTS = {-1, 100, Bounds.LEAST, Bounds.MOST};
    private static final int[] NO_TICKS = {0, -1, 61, Bounds.LEAST, Bounds.MOST};
    /** busy() has the readers 0 to 2. */
    private static final int[] NO_READERS = {-1, 3, 40, Bounds.LEAST, Bounds.MOST};

    public static void main(String[] args) {
        newCellsAreOfTheValueZero();
        aNewObjectIsWithoutReaders();
        openTakesFrom0To9999();
        openOpensAtThePresentMoment();
        openIsFullIf8AreOpen();
        openIsNotFullIfOneOf8IsOpenNoMore();
        openIsFullIfThereHaveBeen40();
        openTellsBadValueBeforeFull();
        openIsAnAct();
        payUnknown();
        payTakesFrom1To9999();
        payIsForTheOpen();
        payIsFullAbove9999();
        payOrder();
        payIsAnAct();
        widowUnknown();
        widowTakesFrom1To20();
        widowIsForTheOpen();
        widowOnlyOnce();
        widowTellsTheDueUntilNow();
        widowOrder();
        widowIsAnAct();
        closeUnknown();
        closeIsForTheOpen();
        closeTellsHowManyAreRemoved();
        closeLosesTheWrites();
        closeIsAnAct();
        setRentTakesFrom0To99();
        setRentTellsThePreviousOne();
        setRentNoneIfItIsSo();
        setRentIsAnAct();
        forbidSkewTellsThePairs();
        forbidSkewNoneIfItIsSo();
        forbidSkewIsAnAct();
        tickTakesFrom1To60();
        tickTellsHowManyAreEvicted();
        ticksPassOneAfterTheOther();
        tickIsOneAct();
        Due.end("ReadersBoundsTest");
    }

    /** "Creates cells of the value 0" */
    private static void newCellsAreOfTheValueZero() {
        RentedMoments x = new RentedMoments();
        for (int cell = 0; cell < 12; cell++) {
            Due.is("1 value of cell " + cell, x.cell(cell, 0), 0);
        }
        x.open(0);
        Due.is("1 sum of the values", x.reader(0, 9), 0);
    }

    /** "without readers" */
    private static void aNewObjectIsWithoutReaders() {
        RentedMoments x = new RentedMoments();
        Due.is("1 readers there have been", x.count(2), 0);
        Due.is("1 pay", x.pay(0, 1), RentedMoments.UNKNOWN);
        Due.is("1 widow", x.widow(0, 1), RentedMoments.UNKNOWN);
        Due.is("1 close", x.close(0), RentedMoments.UNKNOWN);
        Due.is("1 read", x.read(0, 0), RentedMoments.UNKNOWN);
        Due.is("1 write", x.write(0, 0, 0), RentedMoments.UNKNOWN);
        Due.is("1 commit", x.commit(0), RentedMoments.UNKNOWN);
        Due.is("1 readWrites", x.readWrites(0), RentedMoments.UNKNOWN);
        Due.is("1 reader", x.reader(0, 0), RentedMoments.UNKNOWN);
        Due.is("1 lasts", x.lasts(0), RentedMoments.UNKNOWN);
    }

    /** "coins: 0 to 9999", "BAD_VALUE" */
    private static void openTakesFrom0To9999() {
        RentedMoments x = new RentedMoments();
        Due.is("2 open(0)", x.open(0), 0);
        Due.is("2 open(9999)", x.open(9999), 1);
        Due.is("2 an empty purse", x.reader(0, 2), 0);
        Due.is("2 a full purse", x.reader(1, 2), 9999);
        for (int coins : NO_COINS_FOR_A_PURSE) {
            Bounds.refused("2 open(" + coins + ")", Bounds::busy, y -> y.open(coins), RentedMoments.BAD_VALUE);
        }
    }

    /** "Opens a reader at the present moment." */
    private static void openOpensAtThePresentMoment() {
        RentedMoments x = new RentedMoments();
        x.open(0);
        Due.is("2 the first moment", x.reader(0, 1), 0);
        Runs.commitOne(x, 0, 1);
        Due.is("2 the second reader's", x.reader(1, 1), 0);
        Due.is("2 its number", x.open(0), 2);
        Due.is("2 the moment after a commit", x.reader(2, 1), 1);
    }

    /** "FULL if 8 are open" */
    private static void openIsFullIf8AreOpen() {
        RentedMoments x = Runs.withReaders(7, 0);
        Due.is("2 the eighth", x.open(0), 7);
        Bounds.refused("2 the ninth", () -> Runs.withReaders(8, 0), y -> y.open(0), RentedMoments.FULL);
        Bounds.refused("2 the ninth of 10 ever", () -> {
            RentedMoments y = Runs.withReaders(2, 0);
            y.close(0);
            y.close(1);
            for (int i = 0; i < 8; i++) {
                y.open(0);
            }
            return y;
        }, y -> y.open(0), RentedMoments.FULL);
    }

    /** "at most 8 are open at a time" */
    private static void openIsNotFullIfOneOf8IsOpenNoMore() {
        RentedMoments x = Runs.withReaders(8, 0);
        x.close(7);
        Due.is("2 after a close", x.open(0), 8);
        x.commit(8);
        Due.is("2 after a commit", x.open(0), 9);
        Due.is("2 eight again", x.open(0), RentedMoments.FULL);
        x.write(0, 0, 1);
        x.commit(0);
        Due.is("2 seven are evicted", x.tick(1), 7);
        for (int i = 10; i < 18; i++) {
            Due.is("2 after evictions", x.open(0), i);
        }
        Due.is("2 and eight again", x.open(0), RentedMoments.FULL);
    }

    private static RentedMoments withReadersWhoAreClosed(int readers) {
        RentedMoments x = new RentedMoments();
        for (int i = 0; i < readers; i++) {
            x.open(0);
            x.close(i);
        }
        return x;
    }

    /** "or there have been 40" */
    private static void openIsFullIfThereHaveBeen40() {
        RentedMoments x = withReadersWhoAreClosed(39);
        Due.is("2 the fortieth", x.open(9999), 39);
        RentedMoments y = withReadersWhoAreClosed(40);
        int states = y.count(15);
        Due.is("2 the forty-first", y.open(0), RentedMoments.FULL);
        Due.is("2 there have been 40", y.count(2), 40);
        Due.is("2 none is open", y.count(3), 0);
        Due.is("2 no state more", y.count(15), states);
        Due.is("2 there is no forty-first", y.reader(40, 0), RentedMoments.UNKNOWN);
    }

    /** "BAD_VALUE; FULL", in this order */
    private static void openTellsBadValueBeforeFull() {
        RentedMoments x = Runs.withReaders(8, 0);
        Due.is("2 too many coins for a ninth", x.open(10000), RentedMoments.BAD_VALUE);
        Due.is("2 too few coins for a ninth", x.open(-1), RentedMoments.BAD_VALUE);
        RentedMoments y = withReadersWhoAreClosed(40);
        Due.is("2 too many coins for a forty-first", y.open(10000), RentedMoments.BAD_VALUE);
    }

    /** "This is an act." */
    private static void openIsAnAct() {
        Bounds.act("2 open", RentedMoments::new, x -> x.open(5), 0);
        Bounds.act("2 open with a full history", Bounds::busy, x -> x.open(5), 3);
    }

    /** "UNKNOWN" */
    private static void payUnknown() {
        for (int reader : NO_READERS) {
            Bounds.refused("3 pay(" + reader + ", 1)", Bounds::busy, x -> x.pay(reader, 1), RentedMoments.UNKNOWN);
        }
    }

    /** "coins: 1 to 9999", "BAD_VALUE" */
    private static void payTakesFrom1To9999() {
        RentedMoments x = Runs.withReaders(2, 0);
        Due.is("3 pay(0, 1)", x.pay(0, 1), 1);
        Due.is("3 pay(1, 9999)", x.pay(1, 9999), 9999);
        Due.is("3 the purse then", x.reader(1, 2), 9999);
        for (int coins : NO_COINS_TO_PAY) {
            Bounds.refused("3 pay(0, " + coins + ")", Bounds::busy, y -> y.pay(0, coins), RentedMoments.BAD_VALUE);
        }
    }

    /** "NOT_POSSIBLE if the reader is not open" */
    private static void payIsForTheOpen() {
        for (int state = 1; state <= 3; state++) {
            int s = state;
            Bounds.refused("3 pay in the state " + s, () -> Bounds.gone(s), x -> x.pay(0, 1),
                RentedMoments.NOT_POSSIBLE);
        }
        Due.is("3 a widow is open", Bounds.busy().pay(2, 1), 21);
    }

    /** "FULL if that would be more than 9999" */
    private static void payIsFullAbove9999() {
        Due.is("3 to 9999", Runs.withReaders(1, 9000).pay(0, 999), 9999);
        Bounds.refused("3 to 10000", () -> Runs.withReaders(1, 9000), x -> x.pay(0, 1000), RentedMoments.FULL);
        Bounds.refused("3 one more", () -> Runs.withReaders(1, 9999), x -> x.pay(0, 1), RentedMoments.FULL);
        Bounds.refused("3 to 19998", () -> Runs.withReaders(1, 9999), x -> x.pay(0, 9999), RentedMoments.FULL);
        Bounds.refused("3 one and 9999", () -> Runs.withReaders(1, 1), x -> x.pay(0, 9999), RentedMoments.FULL);
    }

    /** "UNKNOWN; BAD_VALUE; NOT_POSSIBLE ..; FULL ..", in this order */
    private static void payOrder() {
        RentedMoments x = Runs.withReaders(2, 9999);
        x.close(1);
        Due.is("3 unknown, and no such coins", x.pay(2, 0), RentedMoments.UNKNOWN);
        Due.is("3 no such coins, and not open", x.pay(1, 10000), RentedMoments.BAD_VALUE);
        Due.is("3 no such coins, and full", x.pay(0, 10000), RentedMoments.BAD_VALUE);
        Due.is("3 not open, and full", x.pay(1, 1), RentedMoments.NOT_POSSIBLE);
    }

    /** "This is an act." */
    private static void payIsAnAct() {
        Bounds.act("3 pay", () -> Runs.withReaders(1, 3), x -> x.pay(0, 4), 7);
    }

    /** "UNKNOWN" */
    private static void widowUnknown() {
        for (int reader : NO_READERS) {
            Bounds.refused("4 widow(" + reader + ", 1)", Bounds::busy, x -> x.widow(reader, 1),
                RentedMoments.UNKNOWN);
        }
    }

    /** "ticks: 1 to 20: the term", "BAD_VALUE" */
    private static void widowTakesFrom1To20() {
        RentedMoments x = Runs.withReaders(2, 0);
        Due.is("4 widow(0, 1)", x.widow(0, 1), 0);
        Due.is("4 widow(1, 20)", x.widow(1, 20), 0);
        Due.is("4 the least term", x.reader(0, 6), 1);
        Due.is("4 the longest term", x.reader(1, 6), 20);
        for (int ticks : NO_TERMS) {
            Bounds.refused("4 widow(0, " + ticks + ")", Bounds::busy, y -> y.widow(0, ticks),
                RentedMoments.BAD_VALUE);
        }
    }

    /** "NOT_POSSIBLE if the reader is not open" */
    private static void widowIsForTheOpen() {
        for (int state = 1; state <= 3; state++) {
            int s = state;
            Bounds.refused("4 widow in the state " + s, () -> Bounds.gone(s), x -> x.widow(0, 1),
                RentedMoments.NOT_POSSIBLE);
        }
    }

    /** "or has been a widow", "A reader can be made a widow once" */
    private static void widowOnlyOnce() {
        Bounds.refused("4 a widow", Bounds::busy, x -> x.widow(2, 20), RentedMoments.NOT_POSSIBLE);
        Bounds.refused("4 one that was", () -> {
            RentedMoments x = Runs.withReaders(1, 0);
            x.widow(0, 1);
            x.tick(1);
            return x;
        }, x -> x.widow(0, 1), RentedMoments.NOT_POSSIBLE);
        RentedMoments x = Runs.withReaders(1, 0);
        x.widow(0, 20);
        x.undo();
        Due.is("4 one that never was", x.widow(0, 7), 0);
        Due.is("4 its term", x.reader(0, 6), 7);
    }

    /** "Returns the due of the reader until now" */
    private static void widowTellsTheDueUntilNow() {
        RentedMoments x = Runs.withReaders(3, 50);
        Due.is("4 without old versions", x.widow(2, 1), 0);
        x.undo();
        Runs.commitOne(x, 0, 1);
        Runs.commitOne(x, 1, 1);
        Due.is("4 a third of two rents, rounded up", x.widow(0, 9), 4);
        Due.is("4 a half of two rents", x.widow(1, 9), 4);
        Due.is("4 two rents", x.widow(2, 9), 8);
    }

    /** "UNKNOWN; BAD_VALUE; NOT_POSSIBLE ..", in this order */
    private static void widowOrder() {
        RentedMoments x = Bounds.gone(2);
        Due.is("4 unknown, and no such term", x.widow(1, 0), RentedMoments.UNKNOWN);
        Due.is("4 no such term, and not open", x.widow(0, 0), RentedMoments.BAD_VALUE);
        Due.is("4 no such term, and a widow", Bounds.busy().widow(2, 21), RentedMoments.BAD_VALUE);
    }

    /** "This is an act." */
    private static void widowIsAnAct() {
        Bounds.act("4 widow", Bounds::busy, x -> x.widow(0, 1), 4);
    }

    /** "UNKNOWN" */
    private static void closeUnknown() {
        for (int reader : NO_READERS) {
            Bounds.refused("5 close(" + reader + ")", Bounds::busy, x -> x.close(reader), RentedMoments.UNKNOWN);
        }
    }

    /** "NOT_POSSIBLE if the reader is not open" */
    private static void closeIsForTheOpen() {
        for (int state = 1; state <= 3; state++) {
            int s = state;
            Bounds.refused("5 close in the state " + s, () -> Bounds.gone(s), x -> x.close(0),
                RentedMoments.NOT_POSSIBLE);
        }
        Due.is("5 a widow is open", Bounds.busy().close(2), 0);
    }

    /** "Returns how many old versions are removed by that" */
    private static void closeTellsHowManyAreRemoved() {
        RentedMoments x = Runs.withReaders(3, 0);
        Due.is("5 there are no old ones", x.close(2), 0);
        x.commit(Runs.openWithText(x, Runs.ALL_CELLS));
        Due.is("5 another one sees them", x.close(0), 0);
        Due.is("5 all twelve", x.close(1), 12);
        Due.is("5 removed so far", x.count(8), 12);
        Due.is("5 none is kept", x.count(7), 0);
    }

    /** "its writes are lost" */
    private static void closeLosesTheWrites() {
        RentedMoments x = Runs.withReaders(1, 0);
        x.write(0, 3, 33);
        x.close(0);
        Due.is("5 the cell", x.cell(3, 0), 0);
        Due.is("5 the moment", x.count(0), 0);
        Due.is("5 open readers with a write", x.cell(3, 4), 0);
        Due.is("5 the next one's", x.read(x.open(0), 3), 0);
    }

    /** "This is an act." */
    private static void closeIsAnAct() {
        Bounds.act("5 close", Bounds::busy, x -> x.close(0), 1);
    }

    /** "coins: 0 to 99", "BAD_VALUE" */
    private static void setRentTakesFrom0To99() {
        Due.is("6 setRent(0)", new RentedMoments().setRent(0), 4);
        Due.is("6 setRent(99)", new RentedMoments().setRent(99), 4);
        for (int coins : NO_RENTS) {
            Bounds.refused("6 setRent(" + coins + ")", Bounds::busy, x -> x.setRent(coins),
                RentedMoments.BAD_VALUE);
        }
    }

    /** "Returns the previous one" */
    private static void setRentTellsThePreviousOne() {
        RentedMoments x = new RentedMoments();
        x.setRent(0);
        Due.is("6 after 0", x.setRent(99), 0);
        Due.is("6 after 99", x.setRent(1), 99);
        Due.is("6 told", x.count(9), 1);
    }

    /** "NONE if it is so already" */
    private static void setRentNoneIfItIsSo() {
        Bounds.refused("6 4 at first", Bounds::busy, x -> x.setRent(4), RentedMoments.NONE);
        for (int rent : new int[] {0, 99}) {
            Bounds.refused("6 " + rent + " again", () -> {
                RentedMoments x = Bounds.busy();
                x.setRent(rent);
                return x;
            }, x -> x.setRent(rent), RentedMoments.NONE);
        }
    }

    /** "This is an act." */
    private static void setRentIsAnAct() {
        Bounds.act("6 setRent", Bounds::busy, x -> x.setRent(5), 4);
    }

    /** Readers of the moment 0, each of whom has read all cells and writes one of its own. */
    private static RentedMoments inSkew(int readers) {
        RentedMoments x = Runs.withReaders(readers, 0);
        for (int i = 0; i < readers; i++) {
            for (int cell = 0; cell < readers; cell++) {
                x.read(i, cell);
            }
            x.write(i, i, 1);
        }
        for (int i = 0; i < readers; i++) {
            x.commit(i);
        }
        return x;
    }

    /** "Returns how many pairs of commits are in skew so far" */
    private static void forbidSkewTellsThePairs() {
        Due.is("7 without commits", new RentedMoments().forbidSkew(true), 0);
        Due.is("7 one commit", inSkew(1).forbidSkew(true), 0);
        Due.is("7 two commits", inSkew(2).forbidSkew(true), 1);
        RentedMoments x = inSkew(8);
        Due.is("7 eight commits", x.forbidSkew(true), 28);
        Due.is("7 also as it is allowed again", x.forbidSkew(false), 28);
    }

    /** "NONE if it is so already" */
    private static void forbidSkewNoneIfItIsSo() {
        Bounds.refused("7 not forbidden at first", Bounds::busy, x -> x.forbidSkew(false), RentedMoments.NONE);
        Bounds.refused("7 forbidden already", () -> {
            RentedMoments x = Bounds.busy();
            x.forbidSkew(true);
            return x;
        }, x -> x.forbidSkew(true), RentedMoments.NONE);
    }

    /** "This is an act." */
    private static void forbidSkewIsAnAct() {
        Bounds.act("7 forbidSkew", Bounds::busy, x -> x.forbidSkew(true), 0);
    }

    /** "ticks: 1 to 60", "BAD_VALUE" */
    private static void tickTakesFrom1To60() {
        RentedMoments x = new RentedMoments();
        Due.is("8 tick(1)", x.tick(1), 0);
        Due.is("8 one has passed", x.count(1), 1);
        Due.is("8 tick(60)", x.tick(60), 0);
        Due.is("8 sixty more have passed", x.count(1), 61);
        for (int ticks : NO_TICKS) {
            Bounds.refused("8 tick(" + ticks + ")", Bounds::busy, y -> y.tick(ticks), RentedMoments.BAD_VALUE);
        }
    }

    /** "Returns how many readers are evicted in them" */
    private static void tickTellsHowManyAreEvicted() {
        RentedMoments x = Runs.withReaders(7, 0);
        Due.is("8 nobody has a due", x.tick(1), 0);
        Runs.commitOne(x, 0, 1);
        Due.is("8 all seven", x.tick(1), 7);
        Due.is("8 who was evicted before counts no more", x.tick(60), 0);
        RentedMoments y = Runs.withReaders(1, 2);
        y.open(9);
        y.open(50);
        Runs.commitOne(y, 0, 1);
        // The share is 2 for three and for two, then the last one pays 4 alone.
        Due.is("8 one in the second tick, one in the fifth", y.tick(9), 2);
        Due.is("8 the third stays", y.reader(2, 0), 0);
    }

    /** "Lets ticks pass, one after the other." */
    private static void ticksPassOneAfterTheOther() {
        RentedMoments x = Runs.withReaders(2, 100);
        x.open(2);
        Runs.commitOne(x, 0, 1);
        x.widow(0, 2);
        // The share is 2 for two payers: for the second and the third, who can't pay it twice, and from
        // the third tick on for the second and the first.
        Due.is("8 the third goes in the second tick", x.tick(4), 1);
        Due.is("8 a widow for two, then two shares", x.reader(0, 7), 4);
        Due.is("8 four shares", x.reader(1, 7), 8);
        Due.is("8 one share", x.reader(2, 7), 2);
    }

    /** "This is an act." */
    private static void tickIsOneAct() {
        Bounds.act("8 tick", Bounds::busy, x -> x.tick(60), 1);
    }
}
