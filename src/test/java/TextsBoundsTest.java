/** Promises 12 to 14: each sentence that names a boundary case has a method here, with its words above it. */
public final class TextsBoundsTest {
    private static final String SIXTY = "1=1;".repeat(14) + "2=22";
    /** busy() has the readers 0 to 2. */
    private static final int[] NO_READERS = {-1, 3, 40, Bounds.LEAST, Bounds.MOST};

    public static void main(String[] args) {
        typeTakesAnyCharacter();
        typeTellsTheLength();
        typeIsFullAt60();
        typeIsNoAct();
        clearTextTellsTheLengthThatItHad();
        clearTextEmpties();
        clearTextIsNoAct();
        readWritesUnknownReader();
        readWritesFaultOfTheEmptyText();
        readWritesFaultAtACell();
        readWritesFaultBehindACell();
        readWritesFaultAtAValue();
        readWritesFaultBehindAValue();
        readWritesZeroInFront();
        readWritesFaultOfALaterWrite();
        readWritesFaultOfAFullText();
        readWritesUnknownCell();
        readWritesIsForTheOpen();
        readWritesOrder();
        readWritesTellsHowManyWrites();
        readWritesInTheirOrder();
        readWritesAllOfThemOrNone();
        readWritesKeepsTheText();
        readWritesIsOneAct();
        Due.end("TextsBoundsTest");
    }

    private static RentedMoments withText(String text) {
        RentedMoments x = Runs.withReaders(1, 0);
        Runs.typeText(x, text);
        return x;
    }

    /** "character: any character" */
    private static void typeTakesAnyCharacter() {
        char[] some = {0, '\n', ' ', '0', '=', ';', 127, 128, 255, 256, '\ud800', '\udfff', '\uffff'};
        RentedMoments x = new RentedMoments();
        for (int i = 0; i < some.length; i++) {
            Due.is("12 the character " + (int) some[i], x.type(some[i]), i + 1);
        }
        for (char c : some) {
            boolean isDigit = c == '0';
            Due.is("12 kept as the character " + (int) c, withText("" + c).readWrites(0), isDigit ? -101 : -100);
        }
    }

    /** "Returns the length of the text then" */
    private static void typeTellsTheLength() {
        RentedMoments x = new RentedMoments();
        for (int length = 1; length <= 60; length++) {
            Due.is("12 the character " + length, x.type('x'), length);
            Due.is("12 told", x.count(16), length);
        }
    }

    /** "FULL if it has 60 characters" */
    private static void typeIsFullAt60() {
        Due.is("12 the sixtieth", withText(SIXTY.substring(0, 59)).type('1'), 60);
        Bounds.refused("12 a sixty-first", () -> withText(SIXTY), x -> x.type('2'), RentedMoments.FULL);
        RentedMoments x = withText(SIXTY);
        x.type('x');
        Due.is("12 the text is as it was", x.readWrites(0), 2);
        Due.is("12 its end too", x.read(0, 2), 22);
        Due.is("12 sixty still", x.clearText(), 60);
        Due.is("12 then the first", x.type('x'), 1);
    }

    /** A state is everything but the text: type is not described as an act. */
    private static void typeIsNoAct() {
        Bounds.noAct("12 type", Bounds::busy, x -> x.type('1'), 8);
    }

    /** "Returns the length that it had." */
    private static void clearTextTellsTheLengthThatItHad() {
        Due.is("13 empty at first", new RentedMoments().clearText(), 0);
        Due.is("13 one", withText("=").clearText(), 1);
        RentedMoments x = withText(SIXTY);
        Due.is("13 sixty", x.clearText(), 60);
        Due.is("13 cleared already", x.clearText(), 0);
    }

    /** "Empties the text." */
    private static void clearTextEmpties() {
        RentedMoments x = withText(SIXTY);
        x.clearText();
        Due.is("13 no length", x.count(16), 0);
        Due.is("13 the fault of the empty text", x.readWrites(0), -100);
        x.type('1');
        Due.is("13 nothing of it comes back", x.readWrites(0), -101);
    }

    /** A state is everything but the text: clearText is not described as an act. */
    private static void clearTextIsNoAct() {
        Bounds.noAct("13 clearText", Bounds::busy, x -> x.clearText(), 7);
        RentedMoments x = Bounds.busy();
        x.clearText();
        x.undo();
        Due.is("13 undo brings no text back", x.count(16), 0);
        x.restore();
        Due.is("13 restore neither", x.count(16), 0);
    }

    /** "UNKNOWN" */
    private static void readWritesUnknownReader() {
        for (int reader : NO_READERS) {
            Bounds.refused("14 readWrites(" + reader + ")", Bounds::busy, x -> x.readWrites(reader),
                RentedMoments.UNKNOWN);
        }
    }

    private static void fault(String text, int fault) {
        Bounds.refused("14 the fault of '" + text + "'", () -> withText(text), x -> x.readWrites(0), -100 - fault);
    }

    private static void noFault(String text, int cell, int value) {
        RentedMoments x = withText(text);
        Due.is("14 the text '" + text + "'", x.readWrites(0), 1);
        Due.is("14 the cell of '" + text + "'", x.reader(0, 5), 1 << cell);
        Due.is("14 the value of '" + text + "'", x.read(0, cell), value);
    }

    /** "or the length of the text if it ends too early (the empty text does)" */
    private static void readWritesFaultOfTheEmptyText() {
        fault("", 0);
    }

    /** "a cell (one or two digits)": what is not allowed at its place */
    private static void readWritesFaultAtACell() {
        fault("=1", 0);
        fault(";1=1", 0);
        fault(" 1=1", 0);
        fault("a=1", 0);
        fault("-1=1", 0);
        fault("/=1", 0);
        fault(":=1", 0);
        fault("\u00b9=1", 0);
        fault("\u0131=1", 0);
        noFault("0=5", 0, 5);
        noFault("9=5", 9, 5);
        noFault("10=5", 10, 5);
        noFault("11=5", 11, 5);
    }

    /** "(one or two digits)", "=" */
    private static void readWritesFaultBehindACell() {
        fault("1", 1);
        fault("11", 2);
        fault("111", 2);
        fault("111=1", 2);
        fault("1;", 1);
        fault("1 =1", 1);
        fault("1/1", 1);
        fault("1:1", 1);
        fault("11;1", 2);
    }

    /** "and a value (one to four digits)": what is not allowed at its place */
    private static void readWritesFaultAtAValue() {
        fault("1=", 2);
        fault("11=", 3);
        fault("1==", 2);
        fault("1=;", 2);
        fault("1= 1", 2);
        fault("1=-1", 2);
        fault("1=/", 2);
        fault("1=:", 2);
        fault("1=\u0661", 2);
        noFault("1=0", 1, 0);
        noFault("1=9", 1, 9);
        noFault("1=10", 1, 10);
        noFault("1=999", 1, 999);
        noFault("1=1000", 1, 1000);
        noFault("1=9999", 1, 9999);
    }

    /** "(one to four digits)", "with ";" between two" */
    private static void readWritesFaultBehindAValue() {
        fault("1=12345", 6);
        fault("1=99999;2=2", 6);
        fault("1=1=", 3);
        fault("1=1 ", 3);
        fault("1=1,2=2", 3);
        fault("1=1;", 4);
        fault("1=1234;", 7);
        fault("1=1;;2=2", 4);
    }

    /** "no number has a zero in front (unless it is the single digit 0)" */
    private static void readWritesZeroInFront() {
        fault("00=1", 1);
        fault("01=1", 1);
        fault("1=00", 3);
        fault("1=01", 3);
        fault("1=0000", 3);
        noFault("0=0", 0, 0);
        noFault("10=100", 10, 100);
        RentedMoments x = withText("0=0;10=0");
        Due.is("14 a single digit 0 before a ;", x.readWrites(0), 2);
    }

    /** "the index, from 0, of the first character that is not allowed at its place" */
    private static void readWritesFaultOfALaterWrite() {
        fault("1=1;x", 4);
        fault("1=1;2", 5);
        fault("1=1;02=2", 5);
        fault("1=1;2=", 6);
        fault("1=1;2=2222222", 10);
        fault("1=1;2=2x;x", 7);
        fault("99=1;99=x", 8);
    }

    /** "a text of at most 60 characters" that has a fault in its last place, or ends too early */
    private static void readWritesFaultOfAFullText() {
        fault("1=1;".repeat(14) + "2=2x", 59);
        fault("1=1;".repeat(14) + "2=02", 59);
        fault("1=1;".repeat(14) + "2=2;", 60);
        fault("1=1;".repeat(14) + "2", 57);
        Due.is("14 a full text without a fault", withText(SIXTY).readWrites(0), 2);
    }

    /** "UNKNOWN if there is no such cell in any of them" */
    private static void readWritesUnknownCell() {
        Due.is("14 the last cell", withText("11=1").readWrites(0), 1);
        for (String text : new String[] {"12=1", "99=1", "20=1", "12=1;1=1", "1=1;12=1", "1=1;12=1;2=2",
            "1=1;".repeat(14) + "12=1"}) {
            Bounds.refused("14 the cell of '" + text + "'", () -> withText(text), x -> x.readWrites(0),
                RentedMoments.UNKNOWN);
        }
    }

    /** "NOT_POSSIBLE if the reader is not open" */
    private static void readWritesIsForTheOpen() {
        for (int state = 1; state <= 3; state++) {
            int s = state;
            Bounds.refused("14 readWrites in the state " + s, () -> {
                RentedMoments x = Bounds.gone(s);
                Runs.typeText(x, "1=1");
                return x;
            }, x -> x.readWrites(0), RentedMoments.NOT_POSSIBLE);
        }
        Due.is("14 a widow is open", Bounds.busy().readWrites(2), 3);
    }

    /** "UNKNOWN; -100 minus the fault ..; UNKNOWN if .. cell ..; NOT_POSSIBLE ..", in this order */
    private static void readWritesOrder() {
        RentedMoments x = Bounds.gone(2);
        Due.is("14 no such reader, and a fault", x.readWrites(1), RentedMoments.UNKNOWN);
        Due.is("14 a fault, and not open", x.readWrites(0), -100);
        Runs.typeText(x, "12=1;x");
        Due.is("14 a fault, and no such cell", x.readWrites(0), -105);
        Runs.typeText(x, "12=1");
        Due.is("14 no such cell, and not open", x.readWrites(0), RentedMoments.UNKNOWN);
    }

    /** "Returns how many writes the reader has then" */
    private static void readWritesTellsHowManyWrites() {
        Due.is("14 one", withText("1=1").readWrites(0), 1);
        Due.is("14 twelve", withText(Runs.ALL_CELLS).readWrites(0), 12);
        Due.is("14 fifteen of one cell", withText("1=1;".repeat(14) + "1=2").readWrites(0), 1);
        RentedMoments x = withText("1=1;2=2");
        x.write(0, 2, 9);
        x.write(0, 3, 9);
        Due.is("14 with those that it had", x.readWrites(0), 3);
        Due.is("14 the same again", x.readWrites(0), 3);
    }

    /** "make the writes of the text .. in their order, as write() does" */
    private static void readWritesInTheirOrder() {
        RentedMoments x = withText("1=1;2=2;1=3");
        x.write(0, 2, 9);
        Due.is("14 two cells", x.readWrites(0), 2);
        Due.is("14 the later one of two", x.read(0, 1), 3);
        Due.is("14 in place of what was", x.read(0, 2), 2);
        RentedMoments y = withText("1=1;".repeat(14) + "1=2");
        y.readWrites(0);
        Due.is("14 the last of fifteen", y.read(0, 1), 2);
    }

    /** "all of them, or none" */
    private static void readWritesAllOfThemOrNone() {
        for (String text : new String[] {"1=1;2=2;", "1=1;2=2;12=1", "1=1;2=2x"}) {
            RentedMoments x = withText(text);
            x.write(0, 1, 9);
            x.readWrites(0);
            Due.is("14 none of '" + text + "'", x.reader(0, 5), 2);
            Due.is("14 the write that was, not that of '" + text + "'", x.read(0, 1), 9);
        }
        RentedMoments y = withText(Runs.ALL_CELLS);
        y.readWrites(0);
        Due.is("14 all twelve", y.reader(0, 5), 4095);
    }

    /** "the text, which stays" */
    private static void readWritesKeepsTheText() {
        RentedMoments x = Runs.withReaders(2, 0);
        Runs.typeText(x, "1=1;2=2");
        x.readWrites(0);
        Due.is("14 its length", x.count(16), 7);
        Due.is("14 for another reader", x.readWrites(1), 2);
        Due.is("14 and more behind it", x.type('3'), 8);
        x.readWrites(1);
        Due.is("14 of which it is a part", x.read(1, 2), 23);
    }

    /** "This is one act." */
    private static void readWritesIsOneAct() {
        Bounds.act("14 readWrites", () -> withText(Runs.ALL_CELLS), x -> x.readWrites(0), 12);
        Bounds.act("14 readWrites of what is written", () -> {
            RentedMoments x = withText("1=1");
            x.write(0, 1, 1);
            return x;
        }, x -> x.readWrites(0), 1);
    }
}
