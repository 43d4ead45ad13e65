import java.util.Random;

/** All promises: runs of 512 calls, the same for the class and the Model, whose answers must agree. */
public final class RandomRunsTest {
    private static final int RUNS = 400;
    private static final int CALLS = 512;
    private static final int[] WILD = {-1, 8, 12, 40, 100, 10000, -2147483648, 2147483647};
    private static final String[] TEXTS = {
        Runs.ALL_CELLS, "0=7;1=8;2=9;3=10;4=11;5=12", "11=9999;0=0;11=1", "3=4", "12=1", "1=01", "", "1=1;",
    };

    private final RentedMoments x = new RentedMoments();
    private final Model model = new Model();
    private final Random random;
    private final int mood;
    private int calls = 0;
    private int typed = 0;
    private String text = Runs.ALL_CELLS;

    private RandomRunsTest(int seed) {
        random = new Random(seed);
        mood = seed % 4;
    }

    public static void main(String[] args) {
        for (int seed = 0; seed < RUNS; seed++) {
            RandomRunsTest run = new RandomRunsTest(seed);
            while (run.calls < CALLS) {
                run.next(seed);
            }
        }
        Due.end("RandomRunsTest");
    }

    private int below(int most) {
        return random.nextInt(most);
    }

    private int or(int usual) {
        return below(40) == 0 ? WILD[below(WILD.length)] : usual;
    }

    /** Mostly a reader who may still be open. */
    private int someReader() {
        int been = x.count(2);
        int back = below(4) == 0 ? below(been + 1) : below(10);
        return or(Math.max(0, been - 1 - back));
    }

    private int someCell() {
        return or(mood == 1 ? below(4) : below(12));
    }

    private int someCoins() {
        return or(below(3) == 0 ? below(10000) : below(90));
    }

    private void is(int seed, String call, int got, int want) {
        calls++;
        Due.is("seed " + seed + " call " + calls + " " + call, got, want);
    }

    private void next(int seed) {
        // The full text at first lets whole rows of versions be written in few calls.
        if (mood == 3 && typed < text.length()) {
            typeNext(seed);
        } else if (below(5) < 2) {
            ask(seed);
        } else {
            act(seed);
        }
    }

    private void typeNext(int seed) {
        if (typed >= text.length()) {
            text = TEXTS[below(TEXTS.length)];
            typed = 0;
            is(seed, "clearText", x.clearText(), model.clearText());
            return;
        }
        char c = below(60) == 0 ? (char) below(300) : text.charAt(typed);
        typed++;
        is(seed, "type " + (int) c, x.type(c), model.type(c));
    }

    private void act(int seed) {
        int r = someReader();
        int c = someCell();
        int v = or(below(10000));
        int coins = someCoins();
        int weight = below(100);
        if (weight < 16) {
            is(seed, "open", x.open(coins), model.open(coins));
        } else if (weight < 20) {
            is(seed, "pay " + r, x.pay(r, coins), model.pay(r, coins));
        } else if (weight < 24) {
            int t = or(below(22));
            is(seed, "widow " + r, x.widow(r, t), model.widow(r, t));
        } else if (weight < 27) {
            is(seed, "close " + r, x.close(r), model.close(r));
        } else if (weight < 29) {
            int rent = or(mood == 3 ? below(3) : below(30));
            is(seed, "setRent " + rent, x.setRent(rent), model.setRent(rent));
        } else if (weight < 31) {
            boolean is = below(3) == 0;
            is(seed, "forbidSkew " + is, x.forbidSkew(is), model.forbidSkew(is));
        } else if (weight < 36) {
            int t = or(below(8) == 0 ? below(62) : 1 + below(3));
            is(seed, "tick " + t, x.tick(t), model.tick(t));
        } else if (weight < 48) {
            is(seed, "read " + r + " " + c, x.read(r, c), model.read(r, c));
        } else if (weight < 62) {
            is(seed, "write " + r + " " + c, x.write(r, c, v), model.write(r, c, v));
        } else if (weight < 72) {
            is(seed, "commit " + r, x.commit(r), model.commit(r));
        } else if (weight < 84) {
            is(seed, "readWrites " + r, x.readWrites(r), model.readWrites(r));
        } else if (weight < 88) {
            is(seed, "undo", x.undo(), model.undo());
        } else if (weight < 89) {
            is(seed, "keep", x.keep(), model.keep());
        } else if (weight < 90 && below(4) == 0) {
            is(seed, "restore", x.restore(), model.restore());
        } else {
            typeNext(seed);
        }
    }

    private void ask(int seed) {
        int r = someReader();
        int c = someCell();
        int kind = below(6);
        if (kind == 0) {
            int what = or(below(6));
            is(seed, "cell " + c + " " + what, x.cell(c, what), model.cell(c, what));
        } else if (kind == 1) {
            int place = or(below(3));
            int what = or(below(5));
            is(seed, "version " + c + " " + place + " " + what, x.version(c, place, what),
                model.version(c, place, what));
        } else if (kind == 2) {
            int what = or(below(13));
            is(seed, "reader " + r + " " + what, x.reader(r, what), model.reader(r, what));
        } else if (kind == 3) {
            is(seed, "lasts " + r, x.lasts(r), model.lasts(r));
        } else if (kind == 4) {
            int k = or(below(x.count(11) + 1));
            int what = or(below(7));
            is(seed, "committed " + k + " " + what, x.committed(k, what), model.committed(k, what));
        } else {
            int what = or(below(18));
            is(seed, "count " + what, x.count(what), model.count(what));
        }
    }
}
