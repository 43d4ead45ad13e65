/** Runs of calls that several tests begin with. */
final class Runs {
    static final String ALL_CELLS = "0=1;1=1;2=1;3=1;4=1;5=1;6=1;7=1;8=1;9=1;10=1;11=1";

    private Runs() {
    }

    static void typeText(RentedMoments x, String text) {
        x.clearText();
        for (int i = 0; i < text.length(); i++) {
            x.type(text.charAt(i));
        }
    }

    static int openWithText(RentedMoments x, String text) {
        int reader = x.open(0);
        typeText(x, text);
        x.readWrites(reader);
        return reader;
    }

    /** A reader of its own writes one cell and commits; what the commit answers. */
    static int commitOne(RentedMoments x, int cell, int value) {
        int reader = x.open(0);
        x.write(reader, cell, value);
        return x.commit(reader);
    }

    /** What an object tells of itself, of the text, the history and the snapshot nothing but lengths. */
    static String told(RentedMoments x) {
        StringBuilder all = new StringBuilder();
        for (int what = 0; what <= 16; what++) {
            all.append(x.count(what)).append(' ');
        }
        for (int cell = 0; cell < 12; cell++) {
            for (int what = 0; what <= 4; what++) {
                all.append(x.cell(cell, what)).append(' ');
                for (int place = 0; place < x.cell(cell, 2); place++) {
                    all.append(x.version(cell, place, what)).append(' ');
                }
            }
        }
        for (int reader = 0; reader < x.count(2); reader++) {
            for (int what = 0; what <= 11; what++) {
                all.append(x.reader(reader, what)).append(' ');
            }
            all.append(x.lasts(reader)).append(' ');
        }
        for (int commit = 0; commit < x.count(11); commit++) {
            for (int what = 0; what <= 5; what++) {
                all.append(x.committed(commit, what)).append(' ');
            }
        }
        return all.toString();
    }
}
