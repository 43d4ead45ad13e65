/** Promises 12 to 14: type, clearText, readWrites. */
public final class TextsTest {
    public static void main(String[] args) {
        typeAndClear();
        faults();
        order();
        allOrNone();
        longestText();
        Due.end("TextsTest");
    }

    private static void typeAndClear() {
        RentedMoments x = new RentedMoments();
        Due.is("clear nothing", x.clearText(), 0);
        for (int i = 1; i <= 60; i++) {
            Due.is("type", x.type((char) (i * 7)), i);
        }
        Due.is("a sixty-first", x.type('x'), RentedMoments.FULL);
        Due.is("length", x.count(16), 60);
        Due.is("no acts", x.count(15), 0);
        Due.is("clear", x.clearText(), 60);
        Due.is("cleared", x.count(16), 0);
        Due.is("no acts either", x.count(15), 0);
        Due.is("type again", x.type('\uffff'), 1);
    }

    private static void fault(String text, int fault) {
        RentedMoments x = new RentedMoments();
        x.open(0);
        Runs.typeText(x, text);
        Due.is("fault of '" + text + "'", x.readWrites(0), -100 - fault);
        Due.is("no act", x.count(15), 1);
        Due.is("the text stays", x.clearText(), text.length());
    }

    private static void faults() {
        fault("", 0);
        fault("=", 0);
        fault(";", 0);
        fault("x", 0);
        fault(" 1=1", 0);
        fault("1", 1);
        fault("12", 2);
        fault("123", 2);
        fault("00=1", 1);
        fault("01=1", 1);
        fault("1;", 1);
        fault("1=", 2);
        fault("1==", 2);
        fault("1=;", 2);
        fault("1=-1", 2);
        fault("1=00", 3);
        fault("1=05", 3);
        fault("1=12345", 6);
        fault("1=1 ", 3);
        fault("1=1;", 4);
        fault("1=1;;", 4);
        fault("1=1;01=1", 5);
        fault("1=1;2", 5);
        fault("1=1;2=", 6);
        fault("99=1;=", 5);
        fault("1=1=", 3);
        fault("1=\u0661", 2);
        fault("1/1", 1);
        fault(":=1", 0);
        fault("1=1;".repeat(15), 60);
    }

    private static void order() {
        RentedMoments x = new RentedMoments();
        x.open(0);
        x.close(0);
        Runs.typeText(x, "1=1;");
        Due.is("no reader", x.readWrites(1), RentedMoments.UNKNOWN);
        Due.is("reader -1", x.readWrites(-1), RentedMoments.UNKNOWN);
        Due.is("fault before state", x.readWrites(0), -104);
        Runs.typeText(x, "1=1;12=1");
        Due.is("cell before state", x.readWrites(0), RentedMoments.UNKNOWN);
        Runs.typeText(x, "1=1;11=1");
        Due.is("state", x.readWrites(0), RentedMoments.NOT_POSSIBLE);
    }

    private static void allOrNone() {
        RentedMoments x = new RentedMoments();
        x.open(0);
        x.write(0, 5, 50);
        Runs.typeText(x, "1=10;2=3;99=1");
        Due.is("a cell that is not there", x.readWrites(0), RentedMoments.UNKNOWN);
        Due.is("none is made", x.reader(0, 5), 32);
        Runs.typeText(x, "1=10;2=3");
        x.readWrites(0);
        Due.is("a cell of an earlier text counts no more", x.reader(0, 5), 2 + 4 + 32);
        x.undo();
        Runs.typeText(x, "1=10;11=9999;1=0;0=7");
        Due.is("all are made", x.readWrites(0), 4);
        Due.is("in their order", x.read(0, 1), 0);
        Due.is("cell 11", x.read(0, 11), 9999);
        Due.is("cell 0", x.read(0, 0), 7);
        Due.is("cell 5 as before", x.read(0, 5), 50);
        x = new RentedMoments();
        x.open(0);
        Runs.typeText(x, "1=10;2=20");
        Due.is("two writes", x.readWrites(0), 2);
        Due.is("one act", x.count(15), 2);
        Due.is("the text stays", x.count(16), 9);
        x.undo();
        Due.is("undone", x.reader(0, 5), 0);
        Due.is("the text is no state", x.count(16), 9);
        Due.is("again", x.readWrites(0), 2);
    }

    private static void longestText() {
        RentedMoments x = new RentedMoments();
        x.open(0);
        Runs.typeText(x, "1=1;".repeat(14) + "2=22");
        Due.is("sixty characters", x.readWrites(0), 2);
        Due.is("the last write", x.read(0, 2), 22);
        Runs.typeText(x, "1=1;".repeat(14) + "3=3");
        Due.is("fifteen writes", x.readWrites(0), 3);
        Due.is("the fifteenth", x.read(0, 3), 3);
        Runs.typeText(x, "1=1;".repeat(14) + "12=1");
        Due.is("the fifteenth's cell", x.readWrites(0), RentedMoments.UNKNOWN);
    }
}
