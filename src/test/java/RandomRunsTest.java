import java.util.Random;

/** All promises: runs of 512 calls, the same for the class and the Model, whose answers must agree. */
public final class RandomRunsTest {
    private static final int RUNS = 240;
    private static final int CALLS = 512;
    private static final int[] WILD = {-1, 8, 12, 40, 100, 10000, -2147483648, 2147483647};
    private static final String[] TEXTS = {
        Runs.ALL_CELLS, "0=7;1=8;2=9;3=10;4=11;5=12", "11=9999;0=0;11=1", "3=4", "12=1", "1=01", "", "1=1;",
    };
    private static final int RENT = 1;
    private static final int SKEW = 2;
    private static final int MANY_VERSIONS = 3;
    /** How often each act is called, by mood (the first is mixed), in the order of the cases of act(). */
    private static final int[][] WEIGHTS = {
        {12, 6, 5, 4, 3, 3, 5, 10, 14, 12, 6, 8, 2, 1, 60},
        {14, 10, 8, 3, 4, 1, 14, 4, 12, 10, 1, 4, 2, 2, 2},
        {9, 1, 1, 1, 1, 3, 1, 40, 14, 6, 1, 3, 1, 1, 1},
        {8, 4, 2, 2, 1, 1, 2, 3, 6, 6, 8, 6, 2, 3, 2},
    };

    private final RentedMoments x = new RentedMoments();
    private final Model model = new Model();
    private final Random random;
    private final int mood;
    private int calls = 0;
    private int typed = 0;
    private String text = Runs.ALL_CELLS;

    private RandomRunsTest(int seed) {
        random = new Random(seed);
        mood = seed % WEIGHTS.length;
    }

    public static void main(String[] args) {
        for (int seed = 0; seed < RUNS; seed++) {
            RandomRunsTest run = new RandomRunsTest(seed);
            while (run.calls < CALLS) {
                run.next(seed);
            }
        }
        Due.end("RandomRunsTest");
    }

    private int below(int most) {
        return random.nextInt(most);
    }

    private int or(int usual) {
        return below(40) == 0 ? WILD[below(WILD.length)] : usual;
    }

    /** Mostly one of those who are open. */
    private int someReader() {
        int been = x.count(2);
        int reader = Math.max(0, been - 1);
        for (int i = 0; i < 6; i++) {
            if (x.reader(reader, 0) == 0 && below(3) != 0) {
                return or(reader);
            }
            reader = below(been + 1);
        }
        return or(reader);
    }

    private int someCell() {
        return or(mood == RENT ? below(4) : mood == SKEW ? below(6) : below(12));
    }

    private int someCoins() {
        int usual = mood == RENT ? 900 : 10000;
        return or(below(6) == 0 ? below(20) : below(usual));
    }

    private int someRent() {
        return or(mood == MANY_VERSIONS ? below(3) : mood == RENT ? below(12) : below(100));
    }

    private void is(int seed, String call, int got, int want) {
        calls++;
        Due.is("seed " + seed + " call " + calls + " " + call, got, want);
    }

    private void next(int seed) {
        // The full text at first lets whole rows of versions be written in few calls.
        if (mood == MANY_VERSIONS && typed < text.length()) {
            typeNext(seed);
        } else if (mood == MANY_VERSIONS && below(9) == 0) {
            writeRow(seed);
        } else if (mood == SKEW && below(14) == 0) {
            weave(seed);
        } else if (below(5) < 2) {
            ask(seed);
        } else {
            act(seed);
        }
    }

    private void writeRow(int seed) {
        int r = x.count(2) + 1;
        is(seed, "open", x.open(9999), model.open(9999));
        is(seed, "open", x.open(9), model.open(9));
        is(seed, "readWrites " + r, x.readWrites(r), model.readWrites(r));
        is(seed, "commit " + r, x.commit(r), model.commit(r));
    }

    /** Two readers, each of whom reads what the other writes; the second commits later, or never. */
    private void weave(int seed) {
        int r = x.count(2);
        int first = below(6);
        int second = (first + 1 + below(5)) % 6;
        is(seed, "open", x.open(9999), model.open(9999));
        is(seed, "open", x.open(9999), model.open(9999));
        is(seed, "read " + r + " " + first, x.read(r, first), model.read(r, first));
        is(seed, "read " + (r + 1) + " " + second, x.read(r + 1, second), model.read(r + 1, second));
        is(seed, "write " + r + " " + second, x.write(r, second, 1), model.write(r, second, 1));
        is(seed, "write " + (r + 1) + " " + first, x.write(r + 1, first, 2), model.write(r + 1, first, 2));
        is(seed, "commit " + r, x.commit(r), model.commit(r));
    }

    private void typeNext(int seed) {
        if (typed >= text.length() || below(50) == 0) {
            text = TEXTS[mood == MANY_VERSIONS ? 0 : below(TEXTS.length)];
            typed = 0;
            is(seed, "clearText", x.clearText(), model.clearText());
            return;
        }
        char c = below(80) == 0 ? (char) below(300) : text.charAt(typed);
        typed++;
        is(seed, "type " + (int) c, x.type(c), model.type(c));
    }

    private int someAct() {
        int sum = 0;
        for (int weight : WEIGHTS[mood]) {
            sum += weight;
        }
        int left = below(sum);
        int act = 0;
        while (left >= WEIGHTS[mood][act]) {
            left -= WEIGHTS[mood][act];
            act++;
        }
        return act;
    }

    private void act(int seed) {
        int r = someReader();
        int c = someCell();
        int v = or(below(10000));
        int coins = someCoins();
        int rent = someRent();
        int term = or(below(22));
        int ticks = or(below(8) == 0 ? below(62) : 1 + below(3));
        boolean is = below(3) == 0;
        switch (someAct()) {
            case 0 -> is(seed, "open " + coins, x.open(coins), model.open(coins));
            case 1 -> is(seed, "pay " + r + " " + coins, x.pay(r, coins), model.pay(r, coins));
            case 2 -> is(seed, "widow " + r + " " + term, x.widow(r, term), model.widow(r, term));
            case 3 -> is(seed, "close " + r, x.close(r), model.close(r));
            case 4 -> is(seed, "setRent " + rent, x.setRent(rent), model.setRent(rent));
            case 5 -> is(seed, "forbidSkew " + is, x.forbidSkew(is), model.forbidSkew(is));
            case 6 -> is(seed, "tick " + ticks, x.tick(ticks), model.tick(ticks));
            case 7 -> is(seed, "read " + r + " " + c, x.read(r, c), model.read(r, c));
            case 8 -> is(seed, "write " + r + " " + c + " " + v, x.write(r, c, v), model.write(r, c, v));
            case 9 -> is(seed, "commit " + r, x.commit(r), model.commit(r));
            case 10 -> is(seed, "readWrites " + r, x.readWrites(r), model.readWrites(r));
            case 11 -> is(seed, "undo", x.undo(), model.undo());
            case 12 -> is(seed, "keep", x.keep(), model.keep());
            case 13 -> is(seed, "restore", x.restore(), model.restore());
            default -> typeNext(seed);
        }
    }

    private void ask(int seed) {
        int r = someReader();
        int c = someCell();
        int k = or(below(x.count(11) + 1));
        int place = or(below(3));
        int what = or(below(18));
        switch (below(6)) {
            case 0 -> is(seed, "cell " + c + " " + what % 6, x.cell(c, what % 6), model.cell(c, what % 6));
            case 1 -> is(seed, "version " + c + " " + place + " " + what % 6,
                x.version(c, place, what % 6), model.version(c, place, what % 6));
            case 2 -> is(seed, "reader " + r + " " + what % 13, x.reader(r, what % 13), model.reader(r, what % 13));
            case 3 -> is(seed, "lasts " + r, x.lasts(r), model.lasts(r));
            case 4 -> is(seed, "committed " + k + " " + what % 7,
                x.committed(k, what % 7), model.committed(k, what % 7));
            default -> is(seed, "count " + what, x.count(what), model.count(what));
        }
    }
}
