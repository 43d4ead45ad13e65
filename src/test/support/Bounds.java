import java.util.List;
import java.util.function.Consumer;
import java.util.function.Supplier;
import java.util.function.ToIntFunction;

/** Calls at the edges that the document names, each on a new object. */
final class Bounds {
    static final int LEAST = Integer.MIN_VALUE;
    static final int MOST = Integer.MAX_VALUE;

    /** What a refused call could have changed without any call telling it at once. */
    private static final List<Consumer<RentedMoments>> LATER = List.of(
        x -> { },
        x -> undo(x, 1),
        x -> undo(x, 2),
        x -> undo(x, 3),
        x -> undo(x, 4),
        RentedMoments::restore,
        Bounds::writeTheTextEverywhere);

    private Bounds() {
    }

    /** The call answers so, and nothing is changed by it: not the history, the snapshot and the text either. */
    static void refused(String sentence, Supplier<RentedMoments> made, ToIntFunction<RentedMoments> call, int answer) {
        Due.is(sentence, call.applyAsInt(made.get()), answer);
        for (int i = 0; i < LATER.size(); i++) {
            RentedMoments called = made.get();
            RentedMoments notCalled = made.get();
            call.applyAsInt(called);
            LATER.get(i).accept(called);
            LATER.get(i).accept(notCalled);
            Due.isSame(sentence + " (changes nothing, look " + i + ")", Runs.told(called), Runs.told(notCalled));
        }
    }

    /** The call answers so, and is one act: undo() leads back to what was. */
    static void act(String sentence, Supplier<RentedMoments> made, ToIntFunction<RentedMoments> call, int answer) {
        RentedMoments called = made.get();
        int states = Math.min(called.count(15), 3);
        Due.is(sentence, call.applyAsInt(called), answer);
        Due.is(sentence + " (one state more)", called.count(15), states + 1);
        Due.is(sentence + " (undone)", called.undo(), states);
        Due.isSame(sentence + " (undone)", Runs.toldOfTheState(called), Runs.toldOfTheState(made.get()));
    }

    /** The call answers so, and changes neither the state nor the history. */
    static void noAct(String sentence, Supplier<RentedMoments> made, ToIntFunction<RentedMoments> call, int answer) {
        RentedMoments called = made.get();
        int states = called.count(15);
        Due.is(sentence, call.applyAsInt(called), answer);
        Due.is(sentence + " (no state more)", called.count(15), states);
        Due.isSame(sentence + " (no act)", Runs.toldOfTheState(called), Runs.toldOfTheState(made.get()));
    }

    /** The reader 0 is open, 1 committed, 2 an open widow; there are a snapshot, a text and four states. */
    static RentedMoments busy() {
        RentedMoments x = Runs.withReaders(2, 9);
        Runs.typeText(x, "4=4;5=5");
        x.keep();
        x.read(0, 7);
        x.write(1, 2, 22);
        x.commit(1);
        x.open(20);
        x.write(2, 3, 33);
        x.widow(2, 4);
        return x;
    }

    /** The reader 0 is not open: 1 committed, 2 closed, 3 evicted. It has read cell 6 and written cell 5. */
    static RentedMoments gone(int state) {
        RentedMoments x = Runs.withReaders(1, 3);
        x.read(0, 6);
        x.write(0, 5, 55);
        if (state == 1) {
            x.commit(0);
        } else if (state == 2) {
            x.close(0);
        } else {
            Runs.commitOne(x, 6, 66);
            x.tick(1);
        }
        return x;
    }

    private static void undo(RentedMoments x, int times) {
        for (int i = 0; i < times; i++) {
            x.undo();
        }
    }

    private static void writeTheTextEverywhere(RentedMoments x) {
        int readers = x.count(2);
        for (int i = 0; i < readers; i++) {
            x.readWrites(i);
        }
    }
}
