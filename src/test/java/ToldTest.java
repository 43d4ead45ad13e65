/** Promises 18 to 23: cell, version, reader, lasts, committed, count. */
public final class ToldTest {
    public static void main(String[] args) {
        cell();
        version();
        sevenOldVersionsOfACell();
        reader();
        readerSumsAndOldVersions();
        lasts();
        lastsWithOthersWhoGo();
        lastsChangesNothing();
        fortyReaders();
        committed();
        committedByALaterReader();
        count();
        Due.end("ToldTest");
    }

    private static void cell() {
        RentedMoments x = new RentedMoments();
        x.open(1);
        x.write(0, 3, 9);
        Runs.commitOne(x, 3, 33);
        x.open(1);
        x.write(2, 3, 8);
        Due.is("value", x.cell(3, 0), 33);
        Due.is("moment", x.cell(3, 1), 1);
        Due.is("versions", x.cell(3, 2), 2);
        Due.is("seers of the newest", x.cell(3, 3), 1);
        Due.is("seers of another cell", x.cell(4, 3), 2);
        Due.is("writers", x.cell(3, 4), 2);
        Due.is("cell -1", x.cell(-1, 9), RentedMoments.UNKNOWN);
        Due.is("cell 12", x.cell(12, 0), RentedMoments.UNKNOWN);
        Due.is("what -1", x.cell(0, -1), RentedMoments.BAD_VALUE);
        Due.is("what 5", x.cell(0, 5), RentedMoments.BAD_VALUE);
    }

    private static void version() {
        RentedMoments x = new RentedMoments();
        x.open(100);
        Runs.commitOne(x, 3, 10);
        x.open(100);
        x.open(100);
        Runs.commitOne(x, 3, 20);
        Runs.commitOne(x, 3, 30);
        x.widow(3, 5);
        Due.is("three are kept", x.cell(3, 2), 3);
        Due.is("newest", x.version(3, 0, 0), 30);
        Due.is("its moment", x.version(3, 0, 1), 3);
        Due.is("its seers", x.version(3, 0, 2), 0);
        Due.is("it costs nothing", x.version(3, 0, 4), 0);
        Due.is("second", x.version(3, 1, 0), 10);
        Due.is("its moment", x.version(3, 1, 1), 1);
        Due.is("its seers", x.version(3, 1, 2), 2);
        Due.is("no widows", x.version(3, 1, 3), 1);
        Due.is("its rent", x.version(3, 1, 4), 4);
        Due.is("first", x.version(3, 2, 0), 0);
        Due.is("its moment", x.version(3, 2, 1), 0);
        Due.is("its seers", x.version(3, 2, 2), 1);
        Due.is("no fourth", x.version(3, 3, 0), RentedMoments.NONE);
        Due.is("far", x.version(3, Integer.MAX_VALUE, 4), RentedMoments.NONE);
        Due.is("cell 12", x.version(12, -1, 0), RentedMoments.UNKNOWN);
        Due.is("place -1", x.version(3, -1, 0), RentedMoments.BAD_VALUE);
        Due.is("what -1", x.version(3, 9, -1), RentedMoments.BAD_VALUE);
        Due.is("what 5", x.version(3, 9, 5), RentedMoments.BAD_VALUE);
        x.open(1);
        Due.is("the newest's seers who are no widows", x.version(3, 0, 3), 1);
        Due.is("it costs nothing still", x.version(3, 0, 4), 0);
    }

    private static void sevenOldVersionsOfACell() {
        RentedMoments x = new RentedMoments();
        for (int i = 1; i <= 7; i++) {
            x.open(9);
            Due.is("commit", Runs.commitOne(x, 5, i * 10), i);
        }
        Due.is("one more", Runs.commitOne(x, 5, 80), 8);
        Due.is("the seven that are seen, and the newest", x.cell(5, 2), 8);
        Due.is("newest", x.version(5, 0, 0), 80);
        for (int place = 1; place < 8; place++) {
            Due.is("value at " + place, x.version(5, place, 0), 70 - place * 10);
            Due.is("moment at " + place, x.version(5, place, 1), 7 - place);
        }
        Due.is("close one in the middle", x.close(6), 1);
        Due.is("the others stay in order", x.version(5, 4, 0), 20);
        x.open(0);
        x.open(0);
        Due.is("eight are open", x.open(0), RentedMoments.FULL);
        x.write(15, 5, 1);
        Due.is("the committed leaves no old one", x.commit(15), 9);
        Due.is("eight versions", x.cell(5, 2), 8);
    }

    private static void reader() {
        RentedMoments x = new RentedMoments();
        Runs.commitOne(x, 0, 5);
        x.open(60);
        x.read(1, 2);
        x.write(1, 7, 1);
        x.write(1, 1, 1);
        Runs.commitOne(x, 0, 6);
        x.tick(2);
        Due.is("state", x.reader(1, 0), 0);
        Due.is("moment", x.reader(1, 1), 1);
        Due.is("purse", x.reader(1, 2), 52);
        Due.is("due", x.reader(1, 3), 4);
        Due.is("read", x.reader(1, 4), 4);
        Due.is("writes", x.reader(1, 5), 130);
        Due.is("term", x.reader(1, 6), 0);
        Due.is("paid", x.reader(1, 7), 8);
        Due.is("old versions", x.reader(1, 8), 1);
        Due.is("sum", x.reader(1, 9), 5);
        Due.is("conflict", x.reader(1, 10), 0);
        Due.is("skew", x.reader(1, 11), 0);
        Due.is("what -1", x.reader(1, -1), RentedMoments.BAD_VALUE);
        Due.is("what 12", x.reader(1, 12), RentedMoments.BAD_VALUE);
        Due.is("reader 3", x.reader(3, 12), RentedMoments.UNKNOWN);
        Due.is("reader -1", x.reader(-1, 0), RentedMoments.UNKNOWN);
        x.close(1);
        int[] closed = {2, 1, 52, 0, 4, 130, 0, 8, 0, 0, 0, 0};
        for (int what = 0; what < closed.length; what++) {
            Due.is("closed reader " + what, x.reader(1, what), closed[what]);
        }
    }

    private static void readerSumsAndOldVersions() {
        RentedMoments x = new RentedMoments();
        for (int i = 0; i < 12; i++) {
            Runs.commitOne(x, i, 9999);
        }
        x.open(0);
        x.write(12, 0, 1);
        Runs.commitOne(x, 11, 1);
        Runs.commitOne(x, 10, 1);
        Runs.commitOne(x, 10, 2);
        Due.is("the sum leaves its writes aside", x.reader(12, 9), 12 * 9999);
        Due.is("old versions", x.reader(12, 8), 2);
        Due.is("the one between is removed", x.cell(10, 2), 2);
    }

    private static void lasts() {
        RentedMoments x = new RentedMoments();
        Due.is("no reader", x.lasts(0), RentedMoments.UNKNOWN);
        x.open(9999);
        Due.is("no due", x.lasts(0), RentedMoments.NONE);
        x.open(0);
        x.open(796);
        x.open(796);
        Runs.commitOne(x, 0, 1);
        x.close(0);
        x.close(3);
        Due.is("nothing in the purse", x.lasts(1), 1);
        // The first tick costs it 2, as the other one is there at its beginning.
        Due.is("796 coins", x.lasts(2), 200);
        x.pay(2, 2);
        Due.is("798 coins", x.lasts(2), RentedMoments.NONE);
        x.widow(1, 20);
        Due.is("a widow's term", x.lasts(1), 21);
        x.close(1);
        Due.is("the closed", x.lasts(1), RentedMoments.NOT_POSSIBLE);
        Due.is("798 coins alone", x.lasts(2), 200);
    }

    private static void lastsWithOthersWhoGo() {
        RentedMoments x = new RentedMoments();
        x.setRent(10);
        x.open(20);
        x.open(60);
        Runs.commitOne(x, 0, 1);
        Due.is("four shared ticks and a fifth", x.lasts(0), 5);
        // 5 coins in each of five ticks, then 10 in each of three, and 5 are left.
        Due.is("until the other is alone", x.lasts(1), 9);
        x.tick(1);
        Due.is("one less after a tick", x.lasts(1), 8);
        Due.is("as a tick tells", x.tick(7), 1);
        Due.is("left", x.reader(1, 2), 5);
        Due.is("then", x.tick(1), 1);
    }

    private static void lastsChangesNothing() {
        RentedMoments x = new RentedMoments();
        x.open(20);
        x.open(60);
        Runs.commitOne(x, 0, 1);
        x.widow(0, 3);
        String before = Runs.told(x);
        x.lasts(0);
        x.lasts(1);
        Due.is("lasts changes nothing", before.equals(Runs.told(x)) ? 1 : 0, 1);
    }

    private static void fortyReaders() {
        RentedMoments x = new RentedMoments();
        for (int i = 0; i < 39; i++) {
            Due.is("forty commits", Runs.commitOne(x, i % 12, i), i + 1);
        }
        x.open(9);
        x.write(39, 0, 4);
        x.read(39, 3);
        Due.is("ticks", x.tick(60), 0);
        Due.is("it lasts", x.lasts(39), RentedMoments.NONE);
        Due.is("writers", x.cell(0, 4), 1);
        Due.is("seers", x.cell(0, 3), 1);
        Due.is("the fortieth", x.commit(39), 40);
        Due.is("forty commits that wrote", x.count(11), 40);
        Due.is("the last one's reader", x.committed(39, 0), 39);
        Due.is("no forty-first", x.committed(40, 0), RentedMoments.UNKNOWN);
        int[] due = {40, 60, 40, 0, 40, 0, 0, 0, 40, 4, 0, 40, 0, 0, 0, 4, 0};
        for (int what = 0; what < due.length; what++) {
            Due.is("count " + what, x.count(what), due[what]);
        }
    }

    private static void committedByALaterReader() {
        RentedMoments x = new RentedMoments();
        Runs.commitOne(x, 1, 1);
        Runs.commitOne(x, 2, 1);
        x.open(0);
        x.write(2, 9, 9);
        Runs.commitOne(x, 3, 1);
        Due.is("commit", x.commit(2), 4);
        Due.is("moment of the reader", x.committed(3, 1), 2);
        Due.is("moment that it made", x.committed(3, 2), 4);
    }

    private static void committed() {
        RentedMoments x = new RentedMoments();
        x.open(0);
        x.open(0);
        x.open(0);
        x.read(1, 5);
        x.read(1, 6);
        x.write(1, 7, 1);
        x.commit(0);
        x.commit(1);
        x.write(2, 6, 1);
        x.write(2, 5, 1);
        x.read(2, 7);
        x.commit(2);
        int[] first = {1, 0, 1, 128, 96, 0};
        int[] second = {2, 0, 2, 96, 128, 1};
        for (int what = 0; what < 6; what++) {
            Due.is("first commit " + what, x.committed(0, what), first[what]);
            Due.is("second commit " + what, x.committed(1, what), second[what]);
        }
        Due.is("commit 2", x.committed(2, 9), RentedMoments.UNKNOWN);
        Due.is("commit -1", x.committed(-1, 0), RentedMoments.UNKNOWN);
        Due.is("what -1", x.committed(0, -1), RentedMoments.BAD_VALUE);
        Due.is("what 6", x.committed(0, 6), RentedMoments.BAD_VALUE);
    }

    private static void count() {
        RentedMoments x = new RentedMoments();
        x.open(8);
        x.open(2);
        x.open(9);
        x.open(9);
        x.close(3);
        x.read(0, 1);
        x.write(0, 0, 4);
        Runs.commitOne(x, 0, 1);
        Runs.commitOne(x, 1, 1);
        x.write(2, 1, 7);
        x.widow(2, 19);
        x.setRent(2);
        x.tick(2);
        x.forbidSkew(true);
        x.type('=');
        int[] due = {2, 2, 6, 2, 2, 1, 1, 2, 0, 2, 6, 2, 0, 1, 1, 4, 1};
        for (int what = 0; what < due.length; what++) {
            Due.is("count " + what, x.count(what), due[what]);
        }
        Due.is("count -1", x.count(-1), RentedMoments.BAD_VALUE);
        Due.is("count 17", x.count(17), RentedMoments.BAD_VALUE);
    }
}
