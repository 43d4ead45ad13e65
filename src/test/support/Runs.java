/** Runs of calls that several tests begin with. */
final class Runs {
    static final String ALL_CELLS = "0=1;1=1;2=1;3=1;4=1;5=1;6=1;7=1;8=1;9=1;10=1;11=1";

    private Runs() {
    }

    static void typeText(RentedMoments x, String text) {
        x.clearText();
        for (int i = 0; i < text.length(); i++) {
            x.type(text.charAt(i));
        }
    }

    static int openWithText(RentedMoments x, String text) {
        int reader = x.open(0);
        typeText(x, text);
        x.readWrites(reader);
        return reader;
    }

    static RentedMoments withReaders(int readers, int coins) {
        RentedMoments x = new RentedMoments();
        for (int i = 0; i < readers; i++) {
            x.open(coins);
        }
        return x;
    }

    /** Two readers of the moment 0, each has read what the other writes; the first has committed. */
    static RentedMoments inSkew(int coins) {
        RentedMoments x = withReaders(2, coins);
        x.read(0, 1);
        x.read(1, 2);
        x.write(0, 2, 5);
        x.write(1, 1, 6);
        x.commit(0);
        return x;
    }

    /** A reader of its own writes one cell and commits; what the commit answers. */
    static int commitOne(RentedMoments x, int cell, int value) {
        int reader = x.open(0);
        x.write(reader, cell, value);
        return x.commit(reader);
    }

    /** What an object tells of itself, of the text, the history and the snapshot nothing but lengths. */
    static String told(RentedMoments x) {
        return toldOfTheState(x) + " history " + x.count(15) + " text " + x.count(16);
    }

    /** All that undo() and restore() bring back, as far as calls tell it. */
    static String toldOfTheState(RentedMoments x) {
        StringBuilder all = new StringBuilder("counts");
        for (int what = 0; what <= 14; what++) {
            all.append(' ').append(x.count(what));
        }
        for (int cell = 0; cell < 12; cell++) {
            all.append(" cell ").append(cell);
            for (int what = 0; what <= 4; what++) {
                all.append(' ').append(x.cell(cell, what));
            }
            int places = x.cell(cell, 2);
            for (int place = 1; place < places; place++) {
                all.append(" version");
                for (int what = 0; what <= 4; what++) {
                    all.append(' ').append(x.version(cell, place, what));
                }
            }
        }
        int readers = x.count(2);
        for (int reader = 0; reader < readers; reader++) {
            all.append(" reader ").append(reader);
            for (int what = 0; what <= 11; what++) {
                all.append(' ').append(x.reader(reader, what));
            }
            all.append(' ').append(x.lasts(reader));
        }
        int commits = x.count(11);
        for (int commit = 0; commit < commits; commit++) {
            all.append(" commit ").append(commit);
            for (int what = 0; what <= 5; what++) {
                all.append(' ').append(x.committed(commit, what));
            }
        }
        return all.toString();
    }
}
