import java.util.ArrayDeque;
import java.util.ArrayList;
import java.util.Deque;
import java.util.List;
import java.util.regex.Matcher;
import java.util.regex.Pattern;

/**
 * The document once more, in another shape: every version there ever was stays in a list, and
 * what is kept, removed, due or in skew is found anew from the document's sentences each time.
 */
final class Model {
    private static final String CELL = "(?:0|[1-9][0-9]?)";
    private static final String WRITE = CELL + "=(?:0|[1-9][0-9]{0,3})";
    private static final Pattern TEXT = Pattern.compile(WRITE + "(?:;" + WRITE + ")*");
    private static final Pattern FRONT = Pattern.compile(
        "(?:" + WRITE + ";)*(?:|" + CELL + "|" + CELL + "=|" + WRITE + ")");
    private static final Pattern ONE = Pattern.compile("([0-9]+)=([0-9]+)");

    record Version(int cell, int value, int moment) {
    }

    record Commit(int reader, int readerMoment, int made, int written, int read) {
        boolean skewWith(Commit other) {
            return readerMoment < other.made && other.readerMoment < made
                && (read & other.written) != 0 && (other.read & written) != 0
                && (written & other.written) == 0;
        }
    }

    static final class Reader {
        int state;
        int moment;
        int purse;
        int read;
        int term;
        boolean been;
        int paid;
        Integer[] writes = new Integer[12];

        Reader copy() {
            Reader c = new Reader();
            c.state = state;
            c.moment = moment;
            c.purse = purse;
            c.read = read;
            c.term = term;
            c.been = been;
            c.paid = paid;
            c.writes = writes.clone();
            return c;
        }

        int written() {
            int bits = 0;
            for (int i = 0; i < 12; i++) {
                bits += writes[i] == null ? 0 : 1 << i;
            }
            return bits;
        }

        boolean payer() {
            return state == 0 && term == 0;
        }
    }

    static final class State {
        int moment;
        int tick;
        int rent = 4;
        boolean forbidden;
        List<Version> versions = new ArrayList<>();
        List<Reader> readers = new ArrayList<>();
        List<Commit> commits = new ArrayList<>();

        State copy() {
            State c = new State();
            c.moment = moment;
            c.tick = tick;
            c.rent = rent;
            c.forbidden = forbidden;
            c.versions.addAll(versions);
            readers.forEach(r -> c.readers.add(r.copy()));
            c.commits.addAll(commits);
            return c;
        }

        Version at(int cell, int moment) {
            Version best = null;
            for (Version v : versions) {
                if (v.cell == cell && v.moment <= moment && (best == null || v.moment > best.moment)) {
                    best = v;
                }
            }
            return best;
        }

        Version newest(int cell) {
            return at(cell, Integer.MAX_VALUE);
        }

        List<Reader> seers(Version v) {
            List<Reader> found = new ArrayList<>();
            for (Reader r : readers) {
                if (r.state == 0 && at(v.cell, r.moment) == v) {
                    found.add(r);
                }
            }
            return found;
        }

        boolean isOld(Version v) {
            return newest(v.cell) != v;
        }

        List<Version> kept(int cell) {
            List<Version> found = new ArrayList<>();
            for (int i = versions.size() - 1; i >= 0; i--) {
                Version v = versions.get(i);
                if (v.cell == cell && (!isOld(v) || !seers(v).isEmpty())) {
                    found.add(v);
                }
            }
            return found;
        }

        int old() {
            int n = 0;
            for (int c = 0; c < 12; c++) {
                n += kept(c).size() - 1;
            }
            return n;
        }

        int share(Version v) {
            long n = seers(v).stream().filter(Reader::payer).count();
            return !isOld(v) || n == 0 ? 0 : (int) Math.ceil((double) rent / n);
        }

        int due(Reader r) {
            int due = 0;
            for (int c = 0; c < 12 && r.payer(); c++) {
                due += share(at(c, r.moment));
            }
            return due;
        }

        void tick() {
            int[] dues = readers.stream().mapToInt(this::due).toArray();
            for (int i = 0; i < dues.length; i++) {
                Reader r = readers.get(i);
                if (r.payer() && r.purse >= dues[i]) {
                    r.purse -= dues[i];
                    r.paid += dues[i];
                } else if (r.payer()) {
                    r.state = 3;
                }
            }
            for (Reader r : readers) {
                if (r.state == 0 && r.term > 0) {
                    r.term--;
                }
            }
            tick++;
        }

        int states(int state) {
            return (int) readers.stream().filter(r -> r.state == state).count();
        }

        boolean conflict(Reader r) {
            for (int c = 0; c < 12; c++) {
                if (r.writes[c] != null && newest(c).moment > r.moment) {
                    return true;
                }
            }
            return false;
        }

        int skews(Commit commit) {
            return (int) commits.stream().filter(e -> e.made < commit.made && e.skewWith(commit)).count();
        }

        Commit made(Reader r) {
            return new Commit(readers.indexOf(r), r.moment, moment + 1, r.written(), r.read);
        }

        int pairs() {
            int n = 0;
            for (int i = 0; i < commits.size(); i++) {
                for (int k = 0; k < i; k++) {
                    n += commits.get(i).skewWith(commits.get(k)) ? 1 : 0;
                }
            }
            return n;
        }

        void commit(int reader) {
            Reader r = readers.get(reader);
            if (r.written() != 0) {
                commits.add(made(r));
                moment++;
                for (int c = 0; c < 12; c++) {
                    if (r.writes[c] != null) {
                        versions.add(new Version(c, r.writes[c], moment));
                    }
                }
            }
            r.state = 1;
        }
    }

    private State s = new State();
    private State snapshot;
    private final Deque<State> history = new ArrayDeque<>();
    private String text = "";

    Model() {
        for (int c = 0; c < 12; c++) {
            s.versions.add(new Version(c, 0, 0));
        }
    }

    private void act() {
        history.addLast(s.copy());
        if (history.size() > 4) {
            history.removeFirst();
        }
    }

    private boolean no(int reader) {
        return reader < 0 || reader >= s.readers.size();
    }

    private boolean shut(int reader) {
        return s.readers.get(reader).state != 0;
    }

    private static boolean in(int x, int least, int most) {
        return x >= least && x <= most;
    }

    int open(int coins) {
        if (!in(coins, 0, 9999)) {
            return -2;
        }
        if (s.states(0) == 8 || s.readers.size() == 40) {
            return -3;
        }
        act();
        Reader r = new Reader();
        r.purse = coins;
        r.moment = s.moment;
        s.readers.add(r);
        return s.readers.size() - 1;
    }

    int pay(int reader, int coins) {
        if (no(reader)) {
            return -1;
        }
        if (!in(coins, 1, 9999)) {
            return -2;
        }
        if (shut(reader)) {
            return -4;
        }
        if (s.readers.get(reader).purse + coins > 9999) {
            return -3;
        }
        act();
        return s.readers.get(reader).purse += coins;
    }

    int widow(int reader, int ticks) {
        if (no(reader)) {
            return -1;
        }
        if (!in(ticks, 1, 20)) {
            return -2;
        }
        if (shut(reader) || s.readers.get(reader).been) {
            return -4;
        }
        act();
        Reader r = s.readers.get(reader);
        int due = s.due(r);
        r.been = true;
        r.term = ticks;
        return due;
    }

    int close(int reader) {
        if (no(reader)) {
            return -1;
        }
        if (shut(reader)) {
            return -4;
        }
        act();
        int before = s.old();
        s.readers.get(reader).state = 2;
        return before - s.old();
    }

    int setRent(int coins) {
        if (!in(coins, 0, 99)) {
            return -2;
        }
        if (coins == s.rent) {
            return -5;
        }
        act();
        int was = s.rent;
        s.rent = coins;
        return was;
    }

    int forbidSkew(boolean is) {
        if (is == s.forbidden) {
            return -5;
        }
        act();
        s.forbidden = is;
        return s.pairs();
    }

    int tick(int ticks) {
        if (!in(ticks, 1, 60)) {
            return -2;
        }
        act();
        int before = s.states(3);
        for (int i = 0; i < ticks; i++) {
            s.tick();
        }
        return s.states(3) - before;
    }

    int read(int reader, int cell) {
        if (no(reader) || !in(cell, 0, 11)) {
            return -1;
        }
        if (shut(reader)) {
            return -4;
        }
        act();
        Reader r = s.readers.get(reader);
        if (r.writes[cell] != null) {
            return r.writes[cell];
        }
        r.read |= 1 << cell;
        return s.at(cell, r.moment).value;
    }

    int write(int reader, int cell, int value) {
        if (no(reader) || !in(cell, 0, 11)) {
            return -1;
        }
        if (!in(value, 0, 9999)) {
            return -2;
        }
        if (shut(reader)) {
            return -4;
        }
        act();
        s.readers.get(reader).writes[cell] = value;
        return Integer.bitCount(s.readers.get(reader).written());
    }

    int commit(int reader) {
        if (no(reader)) {
            return -1;
        }
        if (shut(reader)) {
            return -4;
        }
        Reader r = s.readers.get(reader);
        if (s.conflict(r)) {
            return -6;
        }
        if (s.forbidden && r.written() != 0 && s.skews(s.made(r)) > 0) {
            return -4;
        }
        State after = s.copy();
        after.commit(reader);
        if (after.old() > 40) {
            return -3;
        }
        act();
        s = after;
        return s.moment;
    }

    int type(char c) {
        if (text.length() == 60) {
            return -3;
        }
        text += c;
        return text.length();
    }

    int clearText() {
        int had = text.length();
        text = "";
        return had;
    }

    private int fault() {
        for (int i = 0; i < text.length(); i++) {
            if (!FRONT.matcher(text.substring(0, i + 1)).matches()) {
                return i;
            }
        }
        return TEXT.matcher(text).matches() ? -1 : text.length();
    }

    int readWrites(int reader) {
        if (no(reader)) {
            return -1;
        }
        int fault = fault();
        if (fault >= 0) {
            return -100 - fault;
        }
        Matcher any = ONE.matcher(text);
        while (any.find()) {
            if (Integer.parseInt(any.group(1)) > 11) {
                return -1;
            }
        }
        if (shut(reader)) {
            return -4;
        }
        act();
        Reader r = s.readers.get(reader);
        for (String one : text.split(";")) {
            String[] two = one.split("=");
            r.writes[Integer.parseInt(two[0])] = Integer.parseInt(two[1]);
        }
        return Integer.bitCount(r.written());
    }

    int undo() {
        if (history.isEmpty()) {
            return -5;
        }
        s = history.removeLast();
        return history.size();
    }

    int keep() {
        snapshot = s.copy();
        return s.moment;
    }

    int restore() {
        if (snapshot == null) {
            return -5;
        }
        act();
        s = snapshot.copy();
        return s.moment;
    }

    int cell(int cell, int what) {
        if (!in(cell, 0, 11)) {
            return -1;
        }
        Version newest = s.newest(cell);
        return switch (what) {
            case 0 -> newest.value;
            case 1 -> newest.moment;
            case 2 -> s.kept(cell).size();
            case 3 -> s.seers(newest).size();
            case 4 -> (int) s.readers.stream().filter(r -> r.state == 0 && r.writes[cell] != null).count();
            default -> -2;
        };
    }

    int version(int cell, int place, int what) {
        if (!in(cell, 0, 11)) {
            return -1;
        }
        if (place < 0 || !in(what, 0, 4)) {
            return -2;
        }
        List<Version> kept = s.kept(cell);
        if (place >= kept.size()) {
            return -5;
        }
        Version v = kept.get(place);
        return switch (what) {
            case 0 -> v.value;
            case 1 -> v.moment;
            case 2 -> s.seers(v).size();
            case 3 -> (int) s.seers(v).stream().filter(Reader::payer).count();
            default -> s.share(v);
        };
    }

    int reader(int reader, int what) {
        if (no(reader)) {
            return -1;
        }
        if (!in(what, 0, 11)) {
            return -2;
        }
        Reader r = s.readers.get(reader);
        if (r.state != 0 && (what == 3 || what >= 8)) {
            return 0;
        }
        int old = 0;
        int sum = 0;
        for (int c = 0; c < 12; c++) {
            Version v = s.at(c, r.moment);
            old += s.isOld(v) ? 1 : 0;
            sum += v.value;
        }
        return switch (what) {
            case 0 -> r.state;
            case 1 -> r.moment;
            case 2 -> r.purse;
            case 3 -> s.due(r);
            case 4 -> r.read;
            case 5 -> r.written();
            case 6 -> r.term;
            case 7 -> r.paid;
            case 8 -> old;
            case 9 -> sum;
            case 10 -> s.conflict(r) ? 1 : 0;
            default -> r.written() == 0 ? 0 : s.skews(s.made(r));
        };
    }

    int lasts(int reader) {
        if (no(reader)) {
            return -1;
        }
        if (shut(reader)) {
            return -4;
        }
        State ahead = s.copy();
        for (int i = 1; i <= 200; i++) {
            ahead.tick();
            if (ahead.readers.get(reader).state == 3) {
                return i;
            }
        }
        return -5;
    }

    int committed(int commit, int what) {
        if (!in(commit, 0, s.commits.size() - 1)) {
            return -1;
        }
        Commit c = s.commits.get(commit);
        return switch (what) {
            case 0 -> c.reader;
            case 1 -> c.readerMoment;
            case 2 -> c.made;
            case 3 -> c.written;
            case 4 -> c.read;
            case 5 -> s.skews(c);
            default -> -2;
        };
    }

    int count(int what) {
        return switch (what) {
            case 0 -> s.moment;
            case 1 -> s.tick;
            case 2 -> s.readers.size();
            case 3, 4, 5, 6 -> s.states(what - 3);
            case 7 -> s.old();
            case 8 -> s.versions.size() - 12 - s.old();
            case 9 -> s.rent;
            case 10 -> s.readers.stream().mapToInt(r -> r.paid).sum();
            case 11 -> s.commits.size();
            case 12 -> s.pairs();
            case 13 -> s.forbidden ? 1 : 0;
            case 14 -> (int) s.readers.stream().filter(r -> r.state == 0 && r.term > 0).count();
            case 15 -> history.size();
            case 16 -> text.length();
            default -> -2;
        };
    }
}
