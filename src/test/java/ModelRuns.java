import java.util.ArrayList;
import java.util.Comparator;
import java.util.List;
import java.util.NoSuchElementException;

/**
 * Made-up runs of 512 calls (what comes behind them is free), each answer compared with a second model of the
 * document: it goes day by day, keeps pages as records and sorts where the class searches, so that the two share
 * no code.
 */
public final class ModelRuns {
    private static final int NONE = -1;
    private static final int OUT_OF_BOUNDS = -1001;
    private static final int NO_ELEMENT = -1002;
    private static final int RUNS = 6000;
    private static final int CALLS = 512;
    private static final int[] ODD = {Integer.MIN_VALUE, Integer.MIN_VALUE + 1, -65536, -21, -10, -9, -8, -3, -2,
        -1, 8, 9, 10, 20, 21, 99, 100, 999, 1000, 65535, 65536, Integer.MAX_VALUE};

    private record Page(int errors, int quire, int taken, int ended) { }

    private static final class Copy {
        int piece;
        int errors;
        int uses;
        int holder = NONE;
    }

    private static final class Writer {
        int number;
        int pace;
        int idleSince;
        int[] slips;
        Page[] pages;
        int held = NONE;
        int heldErrors;
        int heldSince;

        boolean lacks(int piece) {
            return pages[piece] == null;
        }

        int lacking() {
            int n = 0;
            for (Page page : pages) {
                n += page == null ? 1 : 0;
            }
            return n;
        }
    }

    /** The document, told a second time in the plainest way. */
    private static final class Model {
        int pieces = 1;
        int day = 0;
        int rule = 0;
        int wear = 99;
        List<Copy> copies = new ArrayList<>();
        List<Writer> writers = new ArrayList<>();

        boolean in(int x, int low, int high) {
            return low <= x && x <= high;
        }

        boolean copyIs(int q) {
            return in(q, 0, copies.size() - 1);
        }

        boolean writerIs(int s) {
            return in(s, 0, writers.size() - 1);
        }

        boolean pageIs(int b, int p) {
            return writerIs(b) && in(p, 0, pieces - 1) && !writers.get(b).lacks(p);
        }

        int text(int p) {
            if (!in(p, 1, 8)) {
                return 0;
            }
            pieces = p;
            day = 0;
            copies = new ArrayList<>();
            writers = new ArrayList<>();
            return 1;
        }

        int setRule(int r) {
            rule = in(r, 0, 1) ? r : rule;
            return in(r, 0, 1) ? 1 : 0;
        }

        int setWear(int w) {
            wear = in(w, 1, 99) ? w : wear;
            return in(w, 1, 99) ? 1 : 0;
        }

        int quire(int piece, int errors) {
            if (!in(piece, 0, pieces - 1) || !in(errors, 0, 65535) || copies.size() == 20) {
                return NONE;
            }
            Copy c = new Copy();
            c.piece = piece;
            c.errors = errors;
            copies.add(c);
            return copies.size() - 1;
        }

        int anew(int q, int from, int slips) {
            if (!copyIs(q) || !in(slips, 0, 65535) || copies.get(q).holder != NONE) {
                return NONE;
            }
            Copy c = copies.get(q);
            int errors;
            if (from >= 0) {
                if (!copyIs(from) || copies.get(from).piece != c.piece) {
                    return NONE;
                }
                errors = copies.get(from).errors;
            } else {
                long book = -1L - from;
                if (book >= writers.size() || writers.get((int) book).lacks(c.piece)) {
                    return NONE;
                }
                errors = writers.get((int) book).pages[c.piece].errors();
            }
            c.errors = errors ^ slips;
            c.uses = 0;
            return c.errors;
        }

        int scribe(int pace) {
            if (!in(pace, 1, 9) || writers.size() == 8) {
                return NONE;
            }
            Writer w = new Writer();
            w.number = writers.size();
            w.pace = pace;
            w.idleSince = day;
            w.slips = new int[pieces];
            w.pages = new Page[pieces];
            writers.add(w);
            return w.number;
        }

        int slip(int s, int p, int bits) {
            if (!writerIs(s) || !in(p, 0, pieces - 1) || !in(bits, 0, 65535) || !writers.get(s).lacks(p)) {
                return 0;
            }
            writers.get(s).slips[p] = bits;
            return 1;
        }

        int days(int n) {
            if (!in(n, 1, 99) || day + n > 9999) {
                return NONE;
            }
            for (int i = 0; i < n; i++) {
                oneDay();
            }
            return day;
        }

        int finish(int most) {
            if (!in(most, 1, 999) || day + most > 9999) {
                return NONE;
            }
            for (int i = 0; i < most && endedBooks() < writers.size(); i++) {
                oneDay();
            }
            return day;
        }

        int endedBooks() {
            int n = 0;
            for (Writer w : writers) {
                n += w.lacking() == 0 ? 1 : 0;
            }
            return n;
        }

        void oneDay() {
            for (Writer w : writers) {
                if (w.held != NONE && w.heldSince + w.pace == day) {
                    Copy c = copies.get(w.held);
                    w.pages[c.piece] = new Page(w.heldErrors ^ w.slips[c.piece], w.held, w.heldSince, day);
                    c.holder = NONE;
                    w.held = NONE;
                    w.idleSince = day;
                }
            }
            List<Writer> line = new ArrayList<>();
            for (Writer w : writers) {
                if (w.held == NONE && w.lacking() > 0) {
                    line.add(w);
                }
            }
            line.sort(Comparator.comparingInt((Writer w) -> w.idleSince).thenComparingInt(w -> w.number));
            for (Writer w : line) {
                takeFor(w);
            }
            day++;
        }

        void takeFor(Writer w) {
            List<Integer> choice = new ArrayList<>();
            for (int q = 0; q < copies.size(); q++) {
                Copy c = copies.get(q);
                if (c.holder == NONE && c.uses < wear && w.lacks(c.piece)) {
                    choice.add(q);
                }
            }
            choice.sort(Comparator.comparingInt((Integer q) -> rule == 1 ? unworn(copies.get(q).piece) : 0)
                .thenComparingInt(q -> copies.get(q).piece)
                .thenComparingInt(q -> copies.get(q).uses)
                .thenComparingInt(q -> q));
            if (!choice.isEmpty()) {
                Copy c = copies.get(choice.get(0));
                c.uses++;
                c.holder = w.number;
                w.held = choice.get(0);
                w.heldErrors = c.errors;
                w.heldSince = day;
            }
        }

        int unworn(int piece) {
            return (int) copies.stream().filter(c -> c.piece == piece && c.uses < wear).count();
        }

        int bound() {
            if (endedBooks() == writers.size()) {
                return NONE;
            }
            int most = day;
            for (Writer w : writers) {
                if (w.held != NONE) {
                    most = Math.max(most, w.heldSince + w.pace + w.pace * (w.lacking() - 1));
                } else if (w.lacking() > 0) {
                    most = Math.max(most, day + w.pace * w.lacking());
                }
            }
            for (int p = 0; p < pieces; p++) {
                int piece = p;
                int sum = 0;
                boolean without = false;
                for (Writer w : writers) {
                    boolean inHand = w.held != NONE && copies.get(w.held).piece == p;
                    sum += inHand ? w.heldSince + w.pace - day : w.lacks(p) ? w.pace : 0;
                    without |= !inHand && w.lacks(p);
                }
                int n = (int) copies.stream().filter(c -> c.piece == piece).count();
                if (n == 0 && without) {
                    return NONE;
                }
                most = Math.max(most, day + (n == 0 ? 0 : (int) Math.ceil((double) sum / n)));
            }
            return most;
        }

        int page(int b, int p, int what) {
            if (!pageIs(b, p) || !in(what, 0, 3)) {
                return NONE;
            }
            Page g = writers.get(b).pages[p];
            return new int[] {g.errors(), g.quire(), g.taken(), g.ended()}[what];
        }

        /** {how many places are unlike, 0 for a quire or 1 for a book, its number} of the best one, or null. */
        int[] nearest(int b, int p) {
            Page mine = writers.get(b).pages[p];
            List<int[]> all = new ArrayList<>();
            for (int q = 0; q < copies.size(); q++) {
                if (copies.get(q).piece == p) {
                    all.add(new int[] {unlike(copies.get(q).errors, mine.errors()), 0, q});
                }
            }
            for (Writer w : writers) {
                if (w.number != b && !w.lacks(p) && !(w.pages[p].ended() > mine.taken())) {
                    all.add(new int[] {unlike(w.pages[p].errors(), mine.errors()), 1, w.number});
                }
            }
            all.sort(Comparator.comparingInt((int[] x) -> x[0]).thenComparingInt(x -> x[1]).thenComparingInt(x -> x[2]));
            return all.isEmpty() ? null : all.get(0);
        }

        int unlike(int a, int b) {
            int n = 0;
            for (int place = 0; place < 16; place++) {
                n += (a >> place & 1) != (b >> place & 1) ? 1 : 0;
            }
            return n;
        }

        int parent(int b, int p) {
            int[] best = pageIs(b, p) ? nearest(b, p) : null;
            return best == null ? NONE : best[1] == 0 ? best[2] : -2 - best[2];
        }

        int changes(int p) {
            if (!in(p, 0, pieces - 1)) {
                return NONE;
            }
            int sum = 0;
            for (int b = 0; b < writers.size(); b++) {
                sum += pageIs(b, p) ? nearest(b, p)[0] : 0;
            }
            return sum;
        }

        int met(int a, int b) {
            if (!writerIs(a) || !writerIs(b)) {
                return NONE;
            }
            int n = 0;
            for (int p = 0; p < pieces; p++) {
                n += pageIs(a, p) && pageIs(b, p) && page(a, p, 1) == page(b, p, 1) ? 1 : 0;
            }
            return n;
        }

        int look(int s, int what) {
            if (!writerIs(s)) {
                return OUT_OF_BOUNDS;
            }
            Writer w = writers.get(s);
            if (!in(what, 0, 4)) {
                return NO_ELEMENT;
            }
            int end = NONE;
            for (Page g : w.pages) {
                end = Math.max(end, g == null ? NONE : g.ended());
            }
            boolean over = w.lacking() == 0;
            int state = over ? 2 : w.held != NONE ? 1 : 0;
            return new int[] {w.pace, state, w.held, pieces - w.lacking(), over ? end : NONE}[what];
        }

        int stock(int q, int what) {
            if (!copyIs(q) || !in(what, 0, 3)) {
                return NONE;
            }
            Copy c = copies.get(q);
            return new int[] {c.piece, c.errors, c.uses, c.holder}[what];
        }

        int count(int what) {
            return in(what, 0, 4) ? new int[] {pieces, copies.size(), writers.size(), day, endedBooks()}[what] : NONE;
        }
    }

    private static long seed = 1;
    private static int wrong = 0;

    private static int next(int below) {
        seed = seed * 6364136223846793005L + 1442695040888963407L;
        return (int) ((seed >>> 33) % below);
    }

    private static int pick(int below) {
        return next(40) == 0 ? ODD[next(ODD.length)] : next(below);
    }

    /** Few places, so that pages are often like; now and then all of them. */
    private static int bits() {
        return next(40) == 0 ? ODD[next(ODD.length)] : next(4) == 0 ? next(65536) : next(16);
    }

    private static int realLook(QuireShop shop, int s, int what) {
        try {
            return shop.look(s, what);
        } catch (IndexOutOfBoundsException e) {
            return OUT_OF_BOUNDS;
        } catch (NoSuchElementException e) {
            return NO_ELEMENT;
        }
    }

    private static void due(int run, int call, String what, int got, int want) {
        if (got != want && wrong++ < 20) {
            System.out.println("run " + run + ", call " + call + ": " + what + " answered " + got + ", due is " + want);
        }
    }

    private static int flag(boolean b) {
        return b ? 1 : 0;
    }

    private static void change(int run, int call, QuireShop x, Model m) {
        int a;
        int b;
        int c;
        switch (next(30)) {
            case 0:
                if (next(15) != 0) {
                    return;
                }
                a = pick(9);
                due(run, call, "text(" + a + ")", flag(x.text(a)), m.text(a));
                return;
            case 1:
                a = pick(2);
                due(run, call, "rule(" + a + ")", flag(x.rule(a)), m.setRule(a));
                return;
            case 2:
                a = next(3) == 0 ? pick(101) : pick(5);
                due(run, call, "wear(" + a + ")", flag(x.wear(a)), m.setWear(a));
                return;
            case 3: case 4: case 5: case 6: case 7:
                a = pick(m.pieces + (next(9) == 0 ? 1 : 0));
                b = bits();
                due(run, call, "quire(" + a + ", " + b + ")", x.quire(a, b), m.quire(a, b));
                return;
            case 8: case 9: case 10: case 11: case 12: case 13:
                a = pick(20);
                b = next(2) == 0 ? pick(20) : -1 - pick(9);
                c = bits();
                due(run, call, "anew(" + a + ", " + b + ", " + c + ")", x.anew(a, b, c), m.anew(a, b, c));
                return;
            case 14: case 15:
                a = pick(10);
                due(run, call, "scribe(" + a + ")", x.scribe(a), m.scribe(a));
                return;
            case 16: case 17: case 18: case 19: case 20: case 21:
                a = pick(8);
                b = pick(m.pieces);
                c = bits();
                due(run, call, "slip(" + a + ", " + b + ", " + c + ")", flag(x.slip(a, b, c)), m.slip(a, b, c));
                return;
            case 22:
                a = next(3) == 0 ? pick(1001) : pick(20);
                due(run, call, "finish(" + a + ")", x.finish(a), m.finish(a));
                return;
            default:
                a = next(8) == 0 ? pick(101) : 1 + next(5);
                due(run, call, "days(" + a + ")", x.days(a), m.days(a));
        }
    }

    private static void ask(int run, int call, QuireShop x, Model m) {
        int a = pick(9);
        int b = pick(9);
        int c = pick(5);
        switch (next(8)) {
            case 0:
                due(run, call, "page(" + a + ", " + b + ", " + c + ")", x.page(a, b, c), m.page(a, b, c));
                return;
            case 1:
                due(run, call, "parent(" + a + ", " + b + ")", x.parent(a, b), m.parent(a, b));
                return;
            case 2:
                due(run, call, "met(" + a + ", " + b + ")", x.met(a, b), m.met(a, b));
                return;
            case 3:
                due(run, call, "changes(" + a + ")", x.changes(a), m.changes(a));
                return;
            case 4:
                due(run, call, "look(" + a + ", " + c + ")", realLook(x, a, c), m.look(a, c));
                return;
            case 5:
                a = pick(21);
                due(run, call, "stock(" + a + ", " + c + ")", x.stock(a, c), m.stock(a, c));
                return;
            case 6:
                due(run, call, "count(" + c + ")", x.count(c), m.count(c));
                return;
            default:
                due(run, call, "bound()", x.bound(), m.bound());
        }
    }

    public static void main(String[] args) {
        for (int run = 0; run < RUNS && wrong == 0; run++) {
            QuireShop x = new QuireShop();
            Model m = new Model();
            int p = 1 + next(8);
            due(run, 1, "text(" + p + ")", flag(x.text(p)), m.text(p));
            // Runs that begin with many changes fill the shop; the rest of the calls mostly asks.
            int filling = 10 + next(CALLS - 110);
            for (int call = 2; call <= CALLS; call++) {
                if (next(4) == 0 == call < filling) {
                    ask(run, call, x, m);
                } else {
                    change(run, call, x, m);
                }
            }
        }
        System.out.println(RUNS + " runs against the model, " + wrong + " wrong");
        if (wrong != 0) {
            System.exit(1);
        }
    }
}
