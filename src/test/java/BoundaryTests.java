import java.util.ArrayList;
import java.util.List;
import java.util.NoSuchElementException;

/**
 * Each sentence of the document that names a boundary has a test of its own here, with the sentence above it:
 * the least and the greatest value, the first ones outside, nothing there yet, as many as there may be and one
 * more, and calls that are refused. What a refused call leaves behind is compared with a twin without that call.
 */
public final class BoundaryTests {
    private static final int NONE = -1;
    private static final int OUT_OF_BOUNDS = -1001;
    private static final int NO_ELEMENT = -1002;
    private static final int OTHER_EXCEPTION = -1003;
    private static final int MOST_CALLS = 512;

    private static int checks = 0;
    private static int wrong = 0;

    private interface Call {
        int on(Desk desk);
    }

    private interface Scene {
        Desk make();
    }

    /** A shop that counts its calls: the document leaves free what comes behind the 512th, so no test goes there. */
    private static final class Desk {
        private final QuireShop shop = new QuireShop();
        private int calls = 0;

        private QuireShop called() {
            calls++;
            if (calls > MOST_CALLS) {
                throw new IllegalStateException("a test makes more than 512 calls");
            }
            return shop;
        }

        int text(int pieces) {
            return called().text(pieces) ? 1 : 0;
        }

        int rule(int rule) {
            return called().rule(rule) ? 1 : 0;
        }

        int wear(int uses) {
            return called().wear(uses) ? 1 : 0;
        }

        int quire(int piece, int errors) {
            return called().quire(piece, errors);
        }

        int anew(int quire, int from, int slips) {
            return called().anew(quire, from, slips);
        }

        int scribe(int pace) {
            return called().scribe(pace);
        }

        int slip(int scribe, int piece, int bits) {
            return called().slip(scribe, piece, bits) ? 1 : 0;
        }

        int days(int n) {
            return called().days(n);
        }

        int finish(int most) {
            return called().finish(most);
        }

        int bound() {
            return called().bound();
        }

        int page(int book, int piece, int what) {
            return called().page(book, piece, what);
        }

        int parent(int book, int piece) {
            return called().parent(book, piece);
        }

        int changes(int piece) {
            return called().changes(piece);
        }

        int met(int a, int b) {
            return called().met(a, b);
        }

        /** The exception's very class: a machine's own one below it would be no answer. */
        int look(int scribe, int what) {
            try {
                return called().look(scribe, what);
            } catch (RuntimeException e) {
                if (e.getClass() == IndexOutOfBoundsException.class) {
                    return OUT_OF_BOUNDS;
                }
                return e.getClass() == NoSuchElementException.class ? NO_ELEMENT : OTHER_EXCEPTION;
            }
        }

        int stock(int quire, int what) {
            return called().stock(quire, what);
        }

        int count(int what) {
            return called().count(what);
        }
    }

    private static void due(String call, int want, int got) {
        checks++;
        if (want != got) {
            wrong++;
            System.out.println(call + " answered " + got + ", due is " + want);
        }
    }

    private static void same(String when, List<Integer> want, List<Integer> got) {
        checks++;
        if (!want.equals(got)) {
            wrong++;
            System.out.println(when + ": something has changed; now " + got + ", without the call " + want);
        }
    }

    /** The first values outside a range on both sides, and the farthest ones. */
    private static int[] outside(int least, int greatest) {
        return new int[] {least - 1, greatest + 1, Integer.MIN_VALUE, Integer.MIN_VALUE + 1, Integer.MAX_VALUE};
    }

    /** A shop of so many pieces and, for each number told, a quire of that piece without errors. */
    private static Desk desk(int pieces, int... quires) {
        Desk desk = new Desk();
        due("text(" + pieces + ")", 1, desk.text(pieces));
        for (int q = 0; q < quires.length; q++) {
            due("quire(" + quires[q] + ", 0)", q, desk.quire(quires[q], 0));
        }
        return desk;
    }

    private static void scribes(Desk desk, int... paces) {
        for (int pace : paces) {
            desk.scribe(pace);
        }
    }

    /** The quires that scribes 0, 1, .. have in hand. */
    private static void held(String when, Desk desk, int... quires) {
        for (int s = 0; s < quires.length; s++) {
            due(when + ": look(" + s + ", 2)", quires[s], desk.look(s, 2));
        }
    }

    /** All that can be asked of what is there. */
    private static List<Integer> state(Desk desk) {
        List<Integer> all = new ArrayList<>();
        for (int what = 0; what < 5; what++) {
            all.add(desk.count(what));
        }
        int pieces = all.get(0);
        int quires = all.get(1);
        int books = all.get(2);
        all.add(desk.bound());
        for (int q = 0; q < quires; q++) {
            for (int what = 0; what < 4; what++) {
                all.add(desk.stock(q, what));
            }
        }
        for (int piece = 0; piece < pieces; piece++) {
            all.add(desk.changes(piece));
        }
        for (int b = 0; b < books; b++) {
            for (int what = 0; what < 5; what++) {
                all.add(desk.look(b, what));
            }
            for (int other = 0; other < books; other++) {
                all.add(desk.met(b, other));
            }
            for (int piece = 0; piece < pieces; piece++) {
                all.add(desk.parent(b, piece));
                for (int what = 0; what < 4; what++) {
                    all.add(desk.page(b, piece, what));
                }
            }
        }
        return all;
    }

    /** What comes to light only later: slips, who is idle for how long, and in the end rule and wear. */
    private static List<Integer> future(Desk desk) {
        List<Integer> all = new ArrayList<>();
        int books = desk.count(2);
        for (int day = 0; day < 6; day++) {
            all.add(desk.days(1));
            for (int b = 0; b < books; b++) {
                all.add(desk.look(b, 2));
            }
        }
        all.add(desk.quire(0, 0));
        all.add(desk.scribe(2));
        all.add(desk.finish(60));
        for (int b = 0; b < books; b++) {
            for (int piece = 0; piece < desk.count(0); piece++) {
                all.add(desk.page(b, piece, 0));
                all.add(desk.page(b, piece, 2));
            }
        }
        all.add(shownRule(desk));
        all.add(shownWear(desk));
        return all;
    }

    private static int shownRule(Desk desk) {
        desk.text(2);
        desk.quire(0, 0);
        desk.quire(0, 0);
        desk.quire(1, 0);
        desk.scribe(1);
        desk.days(1);
        return desk.look(0, 2) == 0 ? 0 : 1;
    }

    /** A quire is used once by a scribe at most, so 8 stands for a wear of 8 and all above it. */
    private static int shownWear(Desk desk) {
        desk.text(1);
        desk.quire(0, 0);
        for (int s = 0; s < 8; s++) {
            desk.scribe(1);
        }
        desk.finish(20);
        return desk.stock(0, 2);
    }

    private static void leaves(String name, Scene scene, int want, Call call) {
        Desk now = scene.make();
        due(name, want, call.on(now));
        same(name + ", right behind it", state(scene.make()), state(now));
        Desk later = scene.make();
        call.on(later);
        same(name + ", later on", future(scene.make()), future(later));
    }

    /** Day 4, rule 1, wear 3: 0, 1, 2 have quires and 0 and 2 pages too, 3 has a page and waits, 4 has just come. */
    private static Desk busy() {
        Desk desk = desk(3);
        desk.rule(1);
        desk.wear(3);
        desk.quire(0, 0xF0);
        desk.quire(0, 3);
        desk.quire(1, 5);
        desk.quire(2, 9);
        scribes(desk, 2, 3, 1);
        desk.slip(0, 0, 1);
        desk.slip(0, 1, 8);
        desk.slip(1, 1, 2);
        desk.slip(2, 2, 65535);
        desk.days(2);
        scribes(desk, 1);
        desk.days(2);
        scribes(desk, 9);
        desk.slip(4, 0, 4);
        return desk;
    }

    /** As many quires and scribes as there may be; the last quire is in hand, the last book has ended. */
    private static Desk full() {
        Desk desk = desk(2);
        for (int q = 0; q < 20; q++) {
            desk.quire(q < 19 ? 0 : 1, q);
        }
        scribes(desk, 8, 7, 6, 5, 4, 3, 2, 1);
        desk.days(3);
        return desk;
    }

    /** Day 9990, on which scribe 0 is to hand in. */
    private static Desk late() {
        Desk desk = desk(2, 0, 1);
        for (int i = 0; i < 100; i++) {
            desk.days(99);
        }
        desk.days(81);
        scribes(desk, 9);
        desk.slip(0, 0, 7);
        due("days(9)", 9990, desk.days(9));
        return desk;
    }

    private static void theScenesAreWhatTheyAreMadeFor() {
        Desk desk = busy();
        int[] states = {1, 1, 1, 0, 0};
        int[] pages = {1, 1, 2, 1, 0};
        for (int s = 0; s < 5; s++) {
            due("busy: state of " + s, states[s], desk.look(s, 1));
            due("busy: pages of " + s, pages[s], desk.look(s, 3));
        }
        due("busy: day", 4, desk.count(3));
        due("busy: quire 0 is on the shelf", NONE, desk.stock(0, 3));
        due("busy: quire 1 is with scribe 0", 0, desk.stock(1, 3));
        due("busy: rule", 1, shownRule(busy()));
        due("busy: wear", 3, shownWear(busy()));
        due("full: quires", 20, full().count(1));
        due("full: scribes", 8, full().count(2));
        due("full: the last quire is in hand", 6, full().stock(19, 3));
        due("full: the last book has ended", 2, full().look(7, 4));
        due("late: in hand", 0, late().look(0, 2));
    }

    // ---- What it is

    /** "An object is used for at most 512 calls after it has been made". */
    private static void the512thCallAnswers() {
        Desk desk = desk(1, 0);
        scribes(desk, 9);
        for (int i = 1; i <= 508; i++) {
            due("days(1)", i, desk.days(1));
        }
        due("calls so far", 511, desk.calls);
        due("the 512th call", 508, desk.count(3));
    }

    // ---- Terms

    /** "PIECES 0 .. P - 1 (P 1 .. 8; 1 at first)". */
    private static void piecesOfEachText() {
        due("P at first", 1, new Desk().count(0));
        due("quire(1, 0) at first", NONE, new Desk().quire(1, 0));
        for (int p = 1; p <= 8; p++) {
            Desk desk = desk(p);
            due("P", p, desk.count(0));
            due("quire of the piece below the least", NONE, desk.quire(-1, 0));
            due("quire of the piece above the greatest", NONE, desk.quire(p, 0));
            for (int piece = 0; piece < p; piece++) {
                due("quire of piece " + piece, piece, desk.quire(piece, 1 << piece));
            }
            scribes(desk, 1);
            due("slip of the piece below the least", 0, desk.slip(0, -1, 1));
            due("slip of the piece above the greatest", 0, desk.slip(0, p, 1));
            due("slip of the least piece", 1, desk.slip(0, 0, 256));
            due("slip of the greatest piece", 1, desk.slip(0, p - 1, 512));
            due("finish(999)", p + 1, desk.finish(999));
            due("errors of the greatest piece", 1 << (p - 1) ^ 512, desk.page(0, p - 1, 0));
            due("changes of the greatest piece", 1, desk.changes(p - 1));
            due("parent of the greatest piece", p - 1, desk.parent(0, p - 1));
            for (int bad : outside(0, p - 1)) {
                due("page(0, " + bad + ", 0)", NONE, desk.page(0, bad, 0));
                due("parent(0, " + bad + ")", NONE, desk.parent(0, bad));
                due("changes(" + bad + ")", NONE, desk.changes(bad));
            }
        }
    }

    /** "QUIRES: the shop's copies of PIECES, at most 20, numbered from 0 on". */
    private static void atMost20Quires() {
        Desk desk = desk(1);
        for (int q = 0; q < 20; q++) {
            due("stock of a quire that is not there yet", NONE, desk.stock(q, 0));
            due("quire " + q, q, desk.quire(0, q));
            due("quires", q + 1, desk.count(1));
        }
        due("the 21st", NONE, desk.quire(0, 0));
        due("still 20", 20, desk.count(1));
        due("the last one's errors", 19, desk.stock(19, 1));
        due("the last one made anew", 19 ^ 4, desk.anew(19, 19, 4));
        due("anew from the last one", 19 ^ 4, desk.anew(0, 19, 0));
        due("anew of the 21st", NONE, desk.anew(20, 0, 0));
        due("anew from the 21st", NONE, desk.anew(0, 20, 0));
        due("stock of the 21st", NONE, desk.stock(20, 0));
        leaves("quire(0, 0) when there are 20", BoundaryTests::full, NONE, d -> d.quire(0, 0));
        due("text(8)", 1, desk.text(8));
        for (int q = 0; q < 20; q++) {
            due("quire " + q + " of another text", q, desk.quire(7, 0));
        }
        due("the 21st of another text", NONE, desk.quire(7, 0));
    }

    /** The 20th quire is lent like all others, and all 20 may be with a piece of their own. */
    private static void theLastQuireIsLent() {
        Desk desk = desk(2, 0, 0, 0, 0, 0, 0, 0, 0, 0, 0, 0, 0, 0, 0, 0, 0, 0, 0, 0, 1);
        scribes(desk, 2, 2);
        desk.rule(1);
        desk.days(1);
        held("the piece with one quire, number 19", desk, 19, 0);
        due("stock(19, 3)", 0, desk.stock(19, 3));
        desk.days(2);
        due("page(0, 1, 1)", 19, desk.page(0, 1, 1));
        due("parent(0, 1)", 19, desk.parent(0, 1));
    }

    /** "with ERRORS (bits, 16 places)", "changed at the places of the SLIPS". */
    private static void all16Places() {
        for (int place = 0; place < 16; place++) {
            int bit = 1 << place;
            Desk desk = desk(2);
            due("quire(0, bit)", 0, desk.quire(0, bit));
            due("quire(1, bit)", 1, desk.quire(1, bit));
            due("its errors", bit, desk.stock(0, 1));
            scribes(desk, 1);
            due("slip(0, 1, bit)", 1, desk.slip(0, 1, bit));
            desk.finish(9);
            due("without slips the error stays", bit, desk.page(0, 0, 0));
            due("a slip at its place takes it away", 0, desk.page(0, 1, 0));
            due("one change", 1, desk.changes(1));
            due("no change", 0, desk.changes(0));
            due("anew at that place", 0, desk.anew(0, 0, bit));
        }
    }

    /** "USES 0 at first", "that has one USE more". */
    private static void usesOneByOne() {
        Desk desk = desk(1, 0);
        scribes(desk, 1, 1, 1, 1, 1, 1, 1, 1);
        due("uses at first", 0, desk.stock(0, 2));
        for (int day = 1; day <= 8; day++) {
            desk.days(1);
            due("uses when it is taken on day " + (day - 1), day, desk.stock(0, 2));
        }
        desk.days(1);
        due("uses when it is handed in", 8, desk.stock(0, 2));
    }

    /** "a QUIRE with as many USES as WEAR says, or more (1 .. 99; 99 at first), is WORN". */
    private static void asManyUsesAsWear() {
        for (int wear : new int[] {1, 2, 3, 4, 5, 6, 7, 8, 9, 98, 99}) {
            Desk desk = new Desk();
            due("wear(" + wear + ")", 1, desk.wear(wear));
            due("uses that wear " + wear + " lets be", Math.min(wear, 8), shownWear(desk));
            due("books that wear " + wear + " lets end", Math.min(wear, 8), desk.count(4));
            due("the day, wear " + wear, wear < 8 ? 20 : 9, desk.count(3));
        }
        due("uses that the wear at first lets be", 8, shownWear(new Desk()));
    }

    /** "or more": a wear that is made less than the uses. */
    private static void moreUsesThanWear() {
        Desk desk = desk(1, 0);
        scribes(desk, 1, 1, 1, 1, 1);
        desk.days(4);
        due("uses", 4, desk.stock(0, 2));
        for (int wear : new int[] {1, 3, 4}) {
            due("wear(" + wear + ")", 1, desk.wear(wear));
            desk.days(2);
            due("4 uses, wear " + wear + ": it isn't taken", NONE, desk.stock(0, 3));
            due("4 uses, wear " + wear + ": the last one waits", 0, desk.look(4, 1));
        }
        due("wear(5)", 1, desk.wear(5));
        desk.days(1);
        due("4 uses, wear 5: it is taken", 4, desk.stock(0, 3));
        due("wear(1)", 1, desk.wear(1));
        due("who has a worn one goes on with it", 4, desk.stock(0, 3));
        desk.days(1);
        due("and ends", 2, desk.look(4, 1));
    }

    /** "SCRIBES, at most 8, numbered from 0 on". */
    private static void atMost8Scribes() {
        Desk desk = desk(1, 0);
        for (int s = 0; s < 8; s++) {
            due("look at one who is not there yet", OUT_OF_BOUNDS, desk.look(s, 0));
            due("met of one who is not there yet", NONE, desk.met(s, s));
            due("slip of one who is not there yet", 0, desk.slip(s, 0, 1));
            due("scribe " + s, s, desk.scribe(s + 1));
            due("scribes", s + 1, desk.count(2));
            due("slip of " + s, 1, desk.slip(s, 0, s));
        }
        due("the 9th", NONE, desk.scribe(1));
        due("still 8", 8, desk.count(2));
        due("pace of the last one", 8, desk.look(7, 0));
        due("look at the 9th", OUT_OF_BOUNDS, desk.look(8, 0));
        due("slip of the 9th", 0, desk.slip(8, 0, 1));
        due("all end: the paces' sum, and the day behind it", 37, desk.finish(99));
        due("the last one's page", 7, desk.page(7, 0, 0));
        due("page of the 9th", NONE, desk.page(8, 0, 0));
        due("parent of the 9th", NONE, desk.parent(8, 0));
        due("met of the last one", 1, desk.met(7, 0));
        due("met of the 9th", NONE, desk.met(8, 0));
        leaves("scribe(1) when there are 8", BoundaryTests::full, NONE, d -> d.scribe(1));
        due("text(1)", 1, desk.text(1));
        for (int s = 0; s < 8; s++) {
            due("scribe " + s + " of another text", s, desk.scribe(9));
        }
        due("the 9th of another text", NONE, desk.scribe(9));
    }

    /**
     * "a PIECE in so many DAYS (PACE 1 .. 9), from the DAY on on which it came", "who took a QUIRE on DAY d with
     * PACE p ends on DAY d + p".
     */
    private static void eachPaceToTheDay() {
        for (int pace = 1; pace <= 9; pace++) {
            Desk desk = desk(1, 0);
            desk.days(5);
            due("scribe(" + pace + ")", 0, desk.scribe(pace));
            due("days(" + pace + ")", 5 + pace, desk.days(pace));
            due("not handed in before that day goes by", 1, desk.look(0, 1));
            due("no page yet", NONE, desk.page(0, 0, 3));
            desk.days(1);
            due("handed in", 2, desk.look(0, 1));
            due("taken on the day on which it came", 5, desk.page(0, 0, 2));
            due("ended", 5 + pace, desk.page(0, 0, 3));
        }
    }

    /** "each has, for each PIECE, SLIPS (bits; 0 at first)". */
    private static void slipsAre0AtFirst() {
        Desk desk = desk(8, 0, 1, 2, 3, 4, 5, 6, 7);
        scribes(desk, 1, 1);
        for (int piece = 0; piece < 8; piece++) {
            due("slip(0, piece, 65535)", 1, desk.slip(0, piece, 65535));
        }
        desk.finish(99);
        for (int piece = 0; piece < 8; piece++) {
            due("slips of the other one", 0, desk.page(1, piece, 0));
            due("slips of this one", 65535, desk.page(0, piece, 0));
        }
        desk.text(8);
        scribes(desk, 1);
        for (int piece = 0; piece < 8; piece++) {
            desk.quire(piece, 3);
        }
        desk.finish(99);
        for (int piece = 0; piece < 8; piece++) {
            due("slips of a new text", 3, desk.page(0, piece, 0));
        }
    }

    /** "A BOOK has all PIECES once, in whatever order." */
    private static void allPiecesOnce() {
        Desk desk = desk(1, 0, 0);
        scribes(desk, 1);
        desk.days(9);
        due("uses of the one quire", 1, desk.stock(0, 2));
        due("uses of the other", 0, desk.stock(1, 2));
        due("its pieces", 1, desk.look(0, 3));

        desk = desk(8, 7, 6, 5, 4, 3, 2, 1, 0);
        scribes(desk, 1, 1);
        due("finish(999)", 9, desk.finish(999));
        for (int q = 0; q < 8; q++) {
            due("each quire once a book", 2, desk.stock(q, 2));
        }
        due("the first one's order", 0, desk.page(0, 0, 2));
        due("the first one's order", 7, desk.page(0, 7, 2));
        due("the other's order: piece 1 ahead of 0", 0, desk.page(1, 1, 2));
        due("the other's order: piece 1 ahead of 0", 1, desk.page(1, 0, 2));
    }

    /** "A DAY (0 at first)", "Then the DAY is the next one." */
    private static void theDay() {
        Desk desk = new Desk();
        due("the day at first", 0, desk.count(3));
        due("the next one", 1, desk.days(1));
        due("the next one", 1, desk.count(3));
    }

    /** "first those who end on it hand in [..]. Then, one by one, those who are idle and lack a PIECE take". */
    private static void handInThenTake() {
        Desk desk = desk(2, 0, 1);
        scribes(desk, 3, 3);
        desk.days(3);
        held("day 3 is to come", desk, 0, 1);
        desk.days(1);
        held("both have handed in and taken the other's on day 3", desk, 1, 0);
        due("ended on 3", 3, desk.page(0, 0, 3));
        desk.finish(9);
        due("taken on 3", 3, desk.page(0, 1, 2));
        due("taken on 3", 3, desk.page(1, 0, 2));

        desk = desk(1, 0);
        scribes(desk, 1, 1);
        desk.days(1);
        held("one quire, one taker", desk, 0, NONE);
        desk.days(1);
        held("who has ended lacks nothing and takes nothing", desk, NONE, 0);
    }

    /** "the ERRORS that the QUIRE had when it was taken, changed at the places of the SLIPS (told by then, when it ends)". */
    private static void slipsToldByThen() {
        Desk desk = desk(1);
        desk.quire(0, 0xFF);
        scribes(desk, 2);
        due("told before it takes", 1, desk.slip(0, 0, 1));
        desk.days(1);
        due("told on the next day", 1, desk.slip(0, 0, 2));
        desk.days(1);
        due("told on the day of the end, the last time", 1, desk.slip(0, 0, 4));
        desk.days(1);
        due("the last ones count, not all of them", 0xFF ^ 4, desk.page(0, 0, 0));
        due("told behind the end", 0, desk.slip(0, 0, 8));
        due("anew behind the end", 0xFF ^ 16, desk.anew(0, 0, 16));
        due("the page stays", 0xFF ^ 4, desk.page(0, 0, 0));

        desk = desk(1);
        desk.quire(0, 0xFF);
        scribes(desk, 1, 1);
        due("anew before it is taken", 0x0F, desk.anew(0, 0, 0xF0));
        desk.days(2);
        due("the errors at the taking", 0x0F, desk.page(0, 0, 0));
        due("with the next one", 1, desk.stock(0, 3));
    }

    /** "who is idle for the longest first (idle since it came, or ended last), of like ones the lesser number". */
    private static void idleForTheLongest() {
        Desk desk = desk(1);
        scribes(desk, 1);
        desk.days(1);
        scribes(desk, 1);
        desk.quire(0, 0);
        desk.days(1);
        held("came a day ahead", desk, 0, NONE);

        desk = desk(2, 0, 0);
        scribes(desk, 2, 1);
        desk.days(2);
        scribes(desk, 1);
        desk.days(1);
        held("both of piece 0 are back on day 2; the third has one", desk, NONE, NONE, 0);
        desk.quire(1, 0);
        desk.days(1);
        held("1 ended on day 1, 0 on day 2", desk, NONE, 2, NONE);
        desk.days(1);
        held("0 ended on day 2, 2 on day 3", desk, 2, NONE, NONE);

        desk = desk(2, 0);
        scribes(desk, 1);
        desk.days(1);
        scribes(desk, 1);
        desk.days(1);
        desk.quire(1, 0);
        desk.days(1);
        held("0 ended on day 1, 1 on day 2", desk, 1, NONE);

        desk = desk(2, 0, 0);
        scribes(desk, 2, 2);
        desk.days(3);
        desk.quire(1, 0);
        desk.days(1);
        held("both ended on day 2: the lesser number", desk, 2, NONE);
    }

    /** "or ended last": who has written goes behind one that came later, but ahead of that end. */
    private static void idleSinceItEndedLast() {
        Desk desk = desk(2, 0);
        desk.wear(1);
        scribes(desk, 4);
        desk.days(2);
        scribes(desk, 9);
        desk.days(2);
        desk.quire(1, 0);
        desk.days(1);
        held("0 came on day 0 and ended on day 4, 1 came on day 2", desk, NONE, 1);
    }

    /** "by RULE: 0 the least number". */
    private static void rule0LeastNumber() {
        Desk desk = desk(8, 7, 7, 3, 3, 3);
        scribes(desk, 1, 1, 1, 1, 1, 1);
        desk.days(1);
        held("piece 3 while there is one, then piece 7, then nothing", desk, 2, 3, 4, 0, 1, NONE);
    }

    /** "1 the one with the fewest QUIRES that are not WORN (on the shelf or not), of like ones the least number". */
    private static void rule1FewestQuires() {
        Desk desk = desk(3, 0, 0, 1, 1, 2);
        desk.rule(1);
        scribes(desk, 9, 9, 9, 9, 9, 9);
        desk.days(1);
        held("the one of 2, then of like ones the least number; those in hand count", desk, 4, 0, 1, 2, 3, NONE);

        desk = desk(2, 0, 0, 0, 1, 1);
        desk.rule(1);
        desk.wear(1);
        scribes(desk, 1, 1, 1, 1, 1, 1);
        desk.days(1);
        held("each taking wears one out: 2, 1 of piece 1, then piece 0", desk, 3, 4, 0, 1, 2, NONE);

        desk = desk(2, 0, 1, 1);
        desk.rule(1);
        desk.wear(1);
        scribes(desk, 1);
        desk.days(2);
        held("piece 0's quire is worn", desk, 1);
        scribes(desk, 1);
        desk.days(1);
        held("a piece with worn quires alone is none to take", desk, NONE, 2);

        desk = desk(2, 0, 0, 0, 1, 1);
        desk.wear(1);
        scribes(desk, 9, 9);
        desk.days(1);
        desk.rule(1);
        scribes(desk, 9);
        desk.days(1);
        held("two of three are worn: one of piece 0 is fewer than two of piece 1", desk, 0, 1, 2);
    }

    /** "of its QUIRES there the one with the fewest USES, of like ones the least number". */
    private static void fewestUses() {
        Desk desk = desk(1, 0, 0, 0);
        scribes(desk, 1, 1, 1, 1);
        desk.days(1);
        held("of like ones the least number", desk, 0, 1, 2, NONE);
        desk.days(1);
        held("all were used once", desk, NONE, NONE, NONE, 0);
        desk.days(1);
        due("anew(2, 2, 0)", 0, desk.anew(2, 2, 0));
        scribes(desk, 1, 1, 1);
        desk.days(1);
        held("uses 2, 1, 0: the last, the middle, the first one", desk, NONE, NONE, NONE, NONE, 2, 1, 0);
    }

    /** "is with the SCRIBE till it ends", "If there is none such it waits." */
    private static void tillItEndsAndWaits() {
        Desk desk = desk(1);
        scribes(desk, 9, 1);
        desk.days(9);
        held("no quires at all", desk, NONE, NONE);
        due("idle", 0, desk.look(0, 1));
        desk.quire(0, 0);
        for (int day = 9; day < 18; day++) {
            desk.days(1);
            due("with the scribe on day " + day, 0, desk.stock(0, 3));
            due("the other waits on day " + day, 0, desk.look(1, 1));
        }
        desk.days(1);
        due("with the other one on day 18", 1, desk.stock(0, 3));
        desk.days(1);
        due("on the shelf", NONE, desk.stock(0, 3));
    }

    // ---- BOUND

    /** "the DAY on which it is idle (now, or when it ends) and PACE times how many PIECES it lacks besides". */
    private static void boundOfScribes() {
        for (int p = 1; p <= 8; p++) {
            Desk desk = new Desk();
            desk.text(p);
            for (int piece = 0; piece < p; piece++) {
                desk.quire(piece, 0);
            }
            desk.days(3);
            scribes(desk, 9);
            due("idle now, lacks " + p, 3 + 9 * p, desk.bound());
            desk.days(1);
            due("one in hand, besides it " + (p - 1), 3 + 9 * p, desk.bound());
            desk.days(8);
            due("a day ahead of the end", 3 + 9 * p, desk.bound());
            due("days(1)", 13, desk.days(1));
            due("the next one in hand, or none lacks", p == 1 ? NONE : 3 + 9 * p, desk.bound());
        }
    }

    /** "(if it lacks none besides: the DAY on which it ends)", and "the DAY that is". */
    private static void boundOfTheLastInHand() {
        Desk desk = desk(1, 0);
        scribes(desk, 2);
        desk.days(1);
        due("the day on which it ends", 2, desk.bound());
        desk.days(1);
        due("it ends today: the day that is", 2, desk.bound());
        desk.days(1);
        due("nobody lacks a piece", NONE, desk.bound());
        desk = desk(2, 0, 1);
        scribes(desk, 5);
        desk.days(5);
        due("it ends today and lacks one besides", 10, desk.bound());
        desk = desk(2, 0);
        scribes(desk, 3);
        desk.days(7);
        desk.quire(1, 0);
        desk.quire(1, 0);
        desk.quire(1, 0);
        due("3 from now on, not from its end on; the piece's 3 by 3 are less", 10, desk.bound());
    }

    /** "for each SCRIBE that lacks something": who has ended counts no more. */
    private static void boundWithoutTheEnded() {
        Desk desk = desk(1, 0);
        scribes(desk, 9);
        due("finish(99)", 10, desk.finish(99));
        scribes(desk, 1);
        due("the new one's pace alone", 11, desk.bound());
    }

    /** "by its QUIRES, upwards". */
    private static void boundUpwards() {
        int[] want = {1, 1, 1, 2, 2, 2, 3, 3};
        Desk desk = desk(1, 0, 0, 0);
        for (int s = 0; s < 8; s++) {
            scribes(desk, 1);
            due((s + 1) + " by 3, upwards", want[s], desk.bound());
        }
        desk = desk(1, 0);
        scribes(desk, 9, 9, 9, 9, 9, 9, 9, 9);
        due("72 by 1", 72, desk.bound());
        for (int q = 1; q < 20; q++) {
            desk.quire(0, 0);
            due("72 by " + (q + 1) + ", or the scribe's 9", Math.max(9, (72 + q) / (q + 1)), desk.bound());
        }
    }

    /** "days of those who have it in hand that are left, and PACES of all who lack it and don't have it in hand". */
    private static void boundOfWorkInHand() {
        Desk desk = desk(1, 0);
        scribes(desk, 3, 2);
        due("3 and 2", 5, desk.bound());
        desk.days(1);
        due("day 1: 2 left and 2", 5, desk.bound());
        desk.days(2);
        due("day 3: 0 left and 2", 5, desk.bound());
        desk.days(1);
        due("day 4: 1 left", 5, desk.bound());
        desk.days(1);
        due("day 5: 0 left", 5, desk.bound());
        desk.days(1);
        due("nobody lacks it", NONE, desk.bound());

        desk = desk(1, 0, 0);
        scribes(desk, 9, 9, 9, 9);
        due("36 by 2", 18, desk.bound());
        for (int day = 1; day <= 9; day++) {
            desk.days(1);
            due("what two have in hand and two lack, by 2", 18, desk.bound());
        }
    }

    /** "0 QUIRES, while somebody lacks it without having it in hand: there is no BOUND", "no SCRIBES". */
    private static void noBound() {
        Desk desk = desk(8, 0, 1, 2, 3, 4, 5, 6);
        due("no scribes", NONE, desk.bound());
        scribes(desk, 1);
        due("no quire of the last piece", NONE, desk.bound());
        desk.days(1);
        due("in hand is another piece", NONE, desk.bound());
        desk.quire(7, 0);
        due("a quire of each piece", 8, desk.bound());
        desk.finish(99);
        due("nobody lacks a piece", NONE, desk.bound());
        due("no quires, no scribes", NONE, new Desk().bound());
        desk = desk(1);
        scribes(desk, 1);
        due("no quires", NONE, desk.bound());
        desk = desk(2, 1);
        scribes(desk, 1);
        due("no quire of the first piece", NONE, desk.bound());
    }

    /** "without WEAR". */
    private static void boundWithoutWear() {
        Desk desk = desk(1, 0, 0);
        desk.wear(1);
        scribes(desk, 1, 1, 1, 1, 1, 1, 1, 1);
        due("8 by 2", 4, desk.bound());
        desk.days(2);
        due("both are worn, 6 by 2", 5, desk.bound());
    }

    /** The bound may lie behind the last day that can be. */
    private static void boundBehindTheLastDay() {
        Desk desk = late();
        desk.days(9);
        due("the day", 9999, desk.count(3));
        due("the second piece would end on 9999", 9999, desk.bound());
        scribes(desk, 9);
        due("9 for each of two pieces", 10017, desk.bound());
    }

    // ---- TREE, CHANGES, MET

    /** "another BOOK's that had it on a DAY not behind the one on which this one took it". */
    private static void hadItByTheTaking() {
        for (int came = 0; came <= 4; came++) {
            Desk desk = desk(1, 0, 0);
            scribes(desk, 2);
            desk.slip(0, 0, 255);
            if (came > 0) {
                desk.days(came);
            }
            scribes(desk, 1);
            desk.slip(1, 0, 255);
            desk.finish(9);
            due("taken on day", came, desk.page(1, 0, 2));
            due("had on 2, taken on " + came, came < 2 ? 0 : -2, desk.parent(1, 0));
            due("never the other way", 0, desk.parent(0, 0));
            due("changes", came < 2 ? 16 : 8, desk.changes(0));
        }
    }

    /** "with the fewest places at which the two are unlike". */
    private static void fewestPlaces() {
        Desk desk = desk(1);
        desk.quire(0, 0);
        desk.quire(0, 65535);
        scribes(desk, 1, 1);
        desk.slip(0, 0, 0xFF);
        desk.slip(1, 0, 0xFF);
        desk.finish(9);
        due("8 places from both quires: the lesser number", 0, desk.parent(0, 0));
        due("8 places from both quires: the lesser number", 0, desk.parent(1, 0));
        due("anew(1, 1, 0x8000)", 0x7FFF, desk.anew(1, 1, 0x8000));
        due("8 places from the first quire, 7 from the second", 1, desk.parent(0, 0));
        due("8 places from the first quire, 9 from the second", 0, desk.parent(1, 0));
        due("changes: 7 and 8", 15, desk.changes(0));

        desk = desk(1);
        desk.quire(0, 0);
        scribes(desk, 1);
        desk.slip(0, 0, 65535);
        desk.finish(9);
        due("all 16 places unlike, but the only one", 0, desk.parent(0, 0));
        due("16 changes", 16, desk.changes(0));
    }

    /** "of several a QUIRE ahead of a BOOK, then the lesser number". */
    private static void quireAheadOfBook() {
        Desk desk = desk(1, 0, 0);
        scribes(desk, 3, 1);
        desk.slip(0, 0, 7);
        desk.slip(1, 0, 7);
        desk.days(4);
        scribes(desk, 1, 1);
        desk.slip(2, 0, 7);
        desk.slip(3, 0, 1);
        desk.finish(9);
        due("of like books the lesser number, though it ended later", -2, desk.parent(2, 0));
        due("a quire at 1 place, books at 2", 0, desk.parent(3, 0));
        due("anew(1, 1, 7)", 7, desk.anew(1, 1, 7));
        due("a quire ahead of a book", 1, desk.parent(2, 0));
        due("a quire as it is now, though made anew behind it", 1, desk.parent(0, 0));
        due("anew(0, 1, 0)", 7, desk.anew(0, 1, 0));
        due("of like quires the lesser number", 0, desk.parent(2, 0));
    }

    /** "- 2 - the number of a BOOK" and "told as - 1 - b", from the first book to the last. */
    private static void theLastBook() {
        Desk desk = desk(2, 0, 0, 0, 0, 0, 0, 0, 1);
        scribes(desk, 9, 9, 9, 9, 9, 9, 9, 1);
        desk.slip(7, 1, 255);
        desk.slip(0, 1, 255);
        desk.days(2);
        due("the last one has piece 1", 255, desk.page(7, 1, 0));
        due("anew from the last book", 255 ^ 1, desk.anew(7, -8, 1));
        due("anew from the book behind the last", NONE, desk.anew(7, -9, 0));
        due("anew from the first book, which lacks it", NONE, desk.anew(7, -1, 0));
        due("anew from itself", 0, desk.anew(7, 7, 254));
        desk.finish(999);
        due("parent: the last book", -9, desk.parent(0, 1));
        due("changes: 8 of the last book, 0 of the first one", 8, desk.changes(1));
        due("anew from the first book", 255, desk.anew(7, -1, 0));
        due("anew from the first book, of piece 0", 0, desk.anew(0, -1, 0));
    }

    /** "each BOOK that has it has a PARENT", "CHANGES: the sum of these". */
    private static void changesFromNoneToAll() {
        Desk desk = desk(1, 0, 0, 0, 0, 0, 0, 0, 0);
        due("no scribes", 0, desk.changes(0));
        scribes(desk, 1, 2, 3, 4, 5, 6, 7, 8);
        for (int b = 0; b < 8; b++) {
            desk.slip(b, 0, 65535);
        }
        desk.days(1);
        for (int b = 0; b < 8; b++) {
            due("so many have it", 16 * b, desk.changes(0));
            due("it doesn't have it yet", NONE, desk.parent(b, 0));
            desk.days(1);
            due("it has it", 0, desk.parent(b, 0));
        }
        due("8 books with 16 changes each", 128, desk.changes(0));
    }

    /** "MET: of two BOOKS, how many PIECES they wrote from the same QUIRE." */
    private static void metFrom0ToAll() {
        Desk desk = desk(8, 0, 1, 2, 3, 4, 5, 6, 7);
        scribes(desk, 1, 1);
        due("nothing written", 0, desk.met(0, 1));
        due("nothing written, with itself", 0, desk.met(0, 0));
        desk.days(1);
        due("in hand", 0, desk.met(0, 1));
        desk.days(1);
        due("each has one piece, unlike ones", 0, desk.met(0, 1));
        desk.days(1);
        due("the first has 0 and 1, the second 1 and 0", 2, desk.met(0, 1));
        desk.finish(99);
        due("all pieces", 8, desk.met(0, 1));
        due("all pieces", 8, desk.met(1, 0));

        desk = desk(2, 0, 0, 1, 1);
        scribes(desk, 1, 1);
        desk.finish(99);
        due("the same pieces from other quires", 0, desk.met(0, 1));
        due("anew(0, 0, 1)", 1, desk.anew(0, 0, 1));
        scribes(desk, 1);
        desk.finish(99);
        due("the same quire, made anew", 0, desk.page(2, 0, 1));
        due("the same quires", 2, desk.met(0, 2));
    }

    // ---- Promises

    /** Promise 1: "P 1, no QUIRES, no SCRIBES, DAY 0, RULE 0, WEAR 99." */
    private static void newObject() {
        int[] counts = {1, 0, 0, 0, 0};
        for (int what = 0; what < counts.length; what++) {
            due("new: count(" + what + ")", counts[what], new Desk().count(what));
        }
        for (int what = 0; what < 4; what++) {
            due("new: stock(0, " + what + ")", NONE, new Desk().stock(0, what));
            due("new: page(0, 0, " + what + ")", NONE, new Desk().page(0, 0, what));
        }
        for (int what = 0; what < 5; what++) {
            due("new: look(0, " + what + ")", OUT_OF_BOUNDS, new Desk().look(0, what));
        }
        due("new: anew(0, 0, 0)", NONE, new Desk().anew(0, 0, 0));
        due("new: anew(0, -1, 0)", NONE, new Desk().anew(0, -1, 0));
        due("new: slip(0, 0, 0)", 0, new Desk().slip(0, 0, 0));
        due("new: parent(0, 0)", NONE, new Desk().parent(0, 0));
        due("new: changes(0)", 0, new Desk().changes(0));
        due("new: changes(1)", NONE, new Desk().changes(1));
        due("new: met(0, 0)", NONE, new Desk().met(0, 0));
        due("new: bound()", NONE, new Desk().bound());
        due("new: days(1)", 1, new Desk().days(1));
        due("new: finish(1)", 0, new Desk().finish(1));
        due("new: quire(0, 0)", 0, new Desk().quire(0, 0));
        due("new: scribe(1)", 0, new Desk().scribe(1));
        due("new: rule", 0, shownRule(new Desk()));
        due("new: wear", 8, shownWear(new Desk()));
    }

    /** Two objects have nothing in common. */
    private static void twoObjects() {
        Desk one = busy();
        Desk other = new Desk();
        due("the other's P", 1, other.count(0));
        due("the other's quires", 0, other.count(1));
        other.text(8);
        other.rule(0);
        other.wear(99);
        other.quire(7, 1);
        scribes(other, 9);
        other.days(9);
        same("another object", state(busy()), state(one));
    }

    /** Promise 2: "no QUIRES, SCRIBES, DAY 0 (RULE, WEAR stay): true; false: no such P." */
    private static void text() {
        for (int bad : outside(1, 8)) {
            leaves("text(" + bad + ")", BoundaryTests::busy, 0, d -> d.text(bad));
        }
        for (int p = 1; p <= 8; p++) {
            Desk desk = busy();
            due("text(" + p + ")", 1, desk.text(p));
            int[] counts = {p, 0, 0, 0, 0};
            for (int what = 0; what < counts.length; what++) {
                due("behind text: count(" + what + ")", counts[what], desk.count(what));
            }
            due("behind text: stock(0, 0)", NONE, desk.stock(0, 0));
            due("behind text: look(0, 0)", OUT_OF_BOUNDS, desk.look(0, 0));
            due("behind text: page(0, 0, 0)", NONE, desk.page(0, 0, 0));
            due("behind text: parent(0, 0)", NONE, desk.parent(0, 0));
            due("behind text: changes(0)", 0, desk.changes(0));
            due("behind text: met(0, 0)", NONE, desk.met(0, 0));
            due("behind text: slip(0, 0, 1)", 0, desk.slip(0, 0, 1));
            due("behind text: anew(0, 0, 0)", NONE, desk.anew(0, 0, 0));
            due("behind text: bound()", NONE, desk.bound());
            due("rule stays", 1, shownRule(desk));
            due("wear stays", 3, shownWear(desk));
        }
    }

    /** A new quire and a new scribe of a new text keep nothing of those that bore their numbers. */
    private static void textForgets() {
        Desk desk = busy();
        desk.text(3);
        for (int q = 0; q < 4; q++) {
            due("quire " + q, q, desk.quire(2, 0));
            due("its uses", 0, desk.stock(q, 2));
            due("on the shelf", NONE, desk.stock(q, 3));
        }
        for (int s = 0; s < 5; s++) {
            due("scribe " + s, s, desk.scribe(1));
            due("idle", 0, desk.look(s, 1));
            due("no quire", NONE, desk.look(s, 2));
            due("no pieces", 0, desk.look(s, 3));
            due("not ended", NONE, desk.look(s, 4));
            for (int piece = 0; piece < 3; piece++) {
                due("no page", NONE, desk.page(s, piece, 0));
                due("no parent", NONE, desk.parent(s, piece));
            }
        }
        due("nothing met", 0, desk.met(0, 1));
        due("nothing changed", 0, desk.changes(2));
        desk.days(2);
        due("written without slips", 0, desk.page(2, 2, 0));
        due("taken on day 0", 0, desk.page(2, 2, 2));
    }

    /** Promise 3: "RULE: true; false: no such one." */
    private static void rule() {
        for (int bad : outside(0, 1)) {
            leaves("rule(" + bad + ") in rule 1", BoundaryTests::busy, 0, d -> d.rule(bad));
            leaves("rule(" + bad + ") in rule 0", BoundaryTests::full, 0, d -> d.rule(bad));
        }
        for (int rule = 0; rule <= 1; rule++) {
            Desk desk = new Desk();
            due("rule(1)", 1, desk.rule(1));
            due("rule(" + rule + ")", 1, desk.rule(rule));
            due("the rule told last", rule, shownRule(desk));
        }
        Desk desk = busy();
        List<Integer> before = state(busy());
        due("rule(0)", 1, desk.rule(0));
        same("a rule changes nothing today", before, state(desk));
    }

    /** Promise 4: "WEAR: true; false: no such one." */
    private static void wear() {
        for (int bad : outside(1, 99)) {
            leaves("wear(" + bad + ")", BoundaryTests::busy, 0, d -> d.wear(bad));
        }
        Desk desk = busy();
        due("wear(1)", 1, desk.wear(1));
        same("wear changes nothing today", state(busy()), state(desk));
        due("the least", 1, shownWear(desk));
        due("wear(99)", 1, desk.wear(99));
        due("the greatest", 8, shownWear(desk));
    }

    /** Promise 5: "its number; NONE: no such PIECE, ERRORS (0 .. 65535), or there are 20." */
    private static void quire() {
        for (int bad : outside(0, 2)) {
            leaves("quire(" + bad + ", 0)", BoundaryTests::busy, NONE, d -> d.quire(bad, 0));
        }
        for (int bad : outside(0, 65535)) {
            leaves("quire(0, " + bad + ")", BoundaryTests::busy, NONE, d -> d.quire(0, bad));
        }
        Desk desk = busy();
        due("quire(0, 0)", 4, desk.quire(0, 0));
        due("quire(2, 65535)", 5, desk.quire(2, 65535));
        int[][] want = {{0, 0, 0, NONE}, {2, 65535, 0, NONE}};
        for (int what = 0; what < 4; what++) {
            due("stock(4, " + what + ")", want[0][what], desk.stock(4, what));
            due("stock(5, " + what + ")", want[1][what], desk.stock(5, what));
        }
    }

    /** Promise 6: "its ERRORS; NONE, and nothing happens: no such ones, or it is with a SCRIBE." */
    private static void anewRefused() {
        for (int bad : outside(0, 3)) {
            leaves("anew(" + bad + ", 0, 0)", BoundaryTests::busy, NONE, d -> d.anew(bad, 0, 0));
            leaves("anew(" + bad + ", " + bad + ", 0)", BoundaryTests::busy, NONE, d -> d.anew(bad, bad, 0));
        }
        for (int bad : outside(-5, 3)) {
            leaves("anew(0, " + bad + ", 0)", BoundaryTests::busy, NONE, d -> d.anew(0, bad, 0));
        }
        for (int bad : outside(0, 65535)) {
            leaves("anew(0, 0, " + bad + ")", BoundaryTests::busy, NONE, d -> d.anew(0, 0, bad));
        }
        leaves("anew of one with a scribe, from itself", BoundaryTests::busy, NONE, d -> d.anew(1, 1, 1));
        leaves("anew of one with a scribe, from another", BoundaryTests::busy, NONE, d -> d.anew(1, 0, 1));
        leaves("anew of one with a scribe, from a book", BoundaryTests::busy, NONE, d -> d.anew(1, -3, 1));
        leaves("anew from a book that lacks it", BoundaryTests::busy, NONE, d -> d.anew(0, -5, 0));
        leaves("anew from a book that has it in hand", BoundaryTests::busy, NONE, d -> d.anew(0, -1, 0));
        leaves("anew from the quire of piece 1", BoundaryTests::busy, NONE, d -> d.anew(0, 2, 0));
        leaves("anew from the quire of piece 2", BoundaryTests::busy, NONE, d -> d.anew(0, 3, 0));
        leaves("anew on a shelf without quires", Desk::new, NONE, d -> d.anew(0, 0, 0));
        leaves("anew on a shelf without books", () -> desk(1, 0), NONE, d -> d.anew(0, -1, 0));
    }

    /** Promise 6: "made anew (USES 0)", "changed at the places of slips (0 .. 65535)", "(From itself it may be.)" */
    private static void anewTaken() {
        Desk desk = desk(2);
        desk.quire(0, 0xAAAA);
        desk.quire(0, 0x0F0F);
        desk.quire(1, 1);
        scribes(desk, 1);
        desk.slip(0, 0, 3);
        desk.days(2);
        due("uses", 1, desk.stock(0, 2));
        due("from itself, no slips", 0xAAAA, desk.anew(0, 0, 0));
        due("uses", 0, desk.stock(0, 2));
        due("from itself, all slips", 0x5555, desk.anew(0, 0, 65535));
        due("from another", 0x0F0F ^ 0xFF, desk.anew(0, 1, 0xFF));
        due("the other stays", 0x0F0F, desk.stock(1, 1));
        due("from a book", 0xAAAA ^ 3 ^ 65535, desk.anew(0, -1, 65535));
        due("the book stays", 0xAAAA ^ 3, desk.page(0, 0, 0));
        due("its errors", 0xAAAA ^ 3 ^ 65535, desk.stock(0, 1));
        due("its piece stays", 0, desk.stock(0, 0));
        due("it stays on the shelf", NONE, desk.stock(0, 3));
        due("no quire more", 3, desk.count(1));
        due("the book's quire of piece 1 is in hand", NONE, desk.anew(2, 2, 0));
        desk.days(1);
        due("it is on the shelf again", 1, desk.anew(2, 2, 0));
    }

    /** Promise 7: "A SCRIBE comes today: its number; NONE: no such PACE, or there are 8." */
    private static void scribe() {
        for (int bad : outside(1, 9)) {
            leaves("scribe(" + bad + ")", BoundaryTests::busy, NONE, d -> d.scribe(bad));
        }
        Desk desk = busy();
        due("scribe(1)", 5, desk.scribe(1));
        due("scribe(9)", 6, desk.scribe(9));
        int[][] want = {{1, 0, NONE, 0, NONE}, {9, 0, NONE, 0, NONE}};
        for (int what = 0; what < 5; what++) {
            due("look(5, " + what + ")", want[0][what], desk.look(5, what));
            due("look(6, " + what + ")", want[1][what], desk.look(6, what));
        }
    }

    /** Promise 8: "true; false: no such ones, or it has that PIECE already." */
    private static void slip() {
        for (int bad : outside(0, 4)) {
            leaves("slip(" + bad + ", 0, 1)", BoundaryTests::busy, 0, d -> d.slip(bad, 0, 1));
        }
        for (int bad : outside(0, 2)) {
            leaves("slip(4, " + bad + ", 1)", BoundaryTests::busy, 0, d -> d.slip(4, bad, 1));
        }
        for (int bad : outside(0, 65535)) {
            leaves("slip(4, 0, " + bad + ")", BoundaryTests::busy, 0, d -> d.slip(4, 0, bad));
        }
        Desk asked = busy();
        for (int s = 0; s < 5; s++) {
            for (int piece = 0; piece < 3; piece++) {
                int who = s;
                int which = piece;
                if (asked.page(s, piece, 0) != NONE) {
                    leaves("slip of a piece that it has", BoundaryTests::busy, 0, d -> d.slip(who, which, 77));
                } else {
                    due("slip of a piece that it lacks, all places", 1, asked.slip(who, which, 65535));
                    due("slip of a piece that it lacks, no place", 1, asked.slip(who, which, 0));
                }
            }
        }
        Desk desk = busy();
        due("slip(4, 2, 65535)", 1, desk.slip(4, 2, 65535));
        same("slips change nothing today", state(busy()), state(desk));
        desk.wear(99);
        desk.finish(99);
        due("all 16 places of piece 2", 9 ^ 65535, desk.page(4, 2, 0));
        due("piece 0 from quire 1, the less used one", 1, desk.page(4, 0, 1));
        due("4 of piece 0 stays as told", 3 ^ 4, desk.page(4, 0, 0));
    }

    /** Promise 9: "the DAY; NONE, and nothing happens: no such number, or beyond 9999." */
    private static void days() {
        for (int bad : outside(1, 99)) {
            leaves("days(" + bad + ")", BoundaryTests::busy, NONE, d -> d.days(bad));
        }
        for (int bad : new int[] {10, 11, 99, 100}) {
            leaves("days(" + bad + ") on 9990", BoundaryTests::late, NONE, d -> d.days(bad));
        }
        due("days(1)", 5, busy().days(1));
        due("days(99)", 103, busy().days(99));
        due("days(9) on 9990", 9999, late().days(9));
        Desk desk = late();
        desk.days(8);
        due("days(2) on 9998", NONE, desk.days(2));
        due("days(1) on 9998", 9999, desk.days(1));
        due("days(1) on 9999", NONE, desk.days(1));
        due("finish(1) on 9999", NONE, desk.finish(1));
        due("the day", 9999, desk.count(3));
        due("text(1) on 9999", 1, desk.text(1));
        due("the day of a new text", 0, desk.count(3));
    }

    /** Many days at once are as good as one by one. */
    private static void daysAtOnce() {
        for (int n = 1; n <= 99; n++) {
            Desk atOnce = busy();
            Desk oneByOne = busy();
            due("days(" + n + ")", 4 + n, atOnce.days(n));
            for (int day = 0; day < n; day++) {
                oneByOne.days(1);
            }
            same("days(" + n + ")", state(oneByOne), state(atOnce));
        }
    }

    /** Promise 10: "NONE, and nothing happens: no such number, or that many would be beyond 9999." */
    private static void finishRefused() {
        for (int bad : outside(1, 999)) {
            leaves("finish(" + bad + ")", BoundaryTests::busy, NONE, d -> d.finish(bad));
        }
        for (int bad : new int[] {10, 11, 999, 1000}) {
            leaves("finish(" + bad + ") on 9990", BoundaryTests::late, NONE, d -> d.finish(bad));
        }
        Desk desk = desk(1);
        scribes(desk, 1);
        for (int i = 1; i <= 9; i++) {
            due("finish(999), nothing to take", 999 * i, desk.finish(999));
        }
        due("days(9)", 9000, desk.days(9));
        due("days(1)", 9001, desk.days(1));
        due("finish(999) on 9001", NONE, desk.finish(999));
        due("finish(998) on 9001", 9999, desk.finish(998));
        due("finish(1) on 9999", NONE, desk.finish(1));

        desk = desk(1);
        scribes(desk, 1);
        for (int i = 1; i <= 9; i++) {
            desk.finish(999);
        }
        desk.days(9);
        due("finish(999) on 9000", 9999, desk.finish(999));
    }

    /** "that many would be beyond 9999" stands ahead of "(0 go by if all have, or there are no SCRIBES.)". */
    private static void finishBeyondWithoutScribes() {
        Scene bare = () -> {
            Desk desk = new Desk();
            for (int i = 0; i < 101; i++) {
                desk.days(98);
            }
            desk.days(92);
            return desk;
        };
        due("the day", 9990, bare.make().count(3));
        leaves("finish(10) on 9990 without scribes", bare, NONE, d -> d.finish(10));
        leaves("finish(9) on 9990 without scribes", bare, 9990, d -> d.finish(9));
    }

    /** Promise 10: "DAYS go by till all BOOKS have ended, or so many at most (1 .. 999): the DAY". */
    private static void finishTillTheLastEnd() {
        for (int most = 1; most <= 9; most++) {
            Desk desk = desk(1, 0, 0);
            scribes(desk, 6, 3);
            due("ends on 6, finish(" + most + ")", Math.min(most, 7), desk.finish(most));
            due("books", most >= 7 ? 2 : most >= 4 ? 1 : 0, desk.count(4));
        }
        Desk desk = desk(1, 0);
        scribes(desk, 2);
        desk.days(2);
        due("it ends today, but hasn't yet: one day goes by", 3, desk.finish(999));
        due("ended", 2, desk.look(0, 4));
        scribes(desk, 1);
        due("somebody new: it takes on 3, ends on 4", 5, desk.finish(999));
    }

    /** Promise 10: "(0 go by if all have, or there are no SCRIBES.)" */
    private static void finishWithout() {
        leaves("finish(1) without scribes", () -> desk(2, 0, 1), 0, d -> d.finish(1));
        leaves("finish(999) without scribes", Desk::new, 0, d -> d.finish(999));
        Scene over = () -> {
            Desk desk = desk(1, 0);
            scribes(desk, 1, 2);
            desk.finish(9);
            return desk;
        };
        due("the day", 4, over.make().count(3));
        leaves("finish(1) when all have", over, 4, d -> d.finish(1));
        leaves("finish(999) when all have", over, 4, d -> d.finish(999));
    }

    /** Promise 11: "BOUND; NONE: there is none, no SCRIBES, or nobody lacks a PIECE." */
    private static void bound() {
        leaves("bound() without scribes", () -> desk(1, 0), NONE, d -> d.bound());
        leaves("bound() without quires", () -> {
            Desk desk = desk(2);
            scribes(desk, 3);
            return desk;
        }, NONE, d -> d.bound());
        leaves("bound() of one who comes", () -> {
            Desk desk = desk(1, 0);
            scribes(desk, 9);
            return desk;
        }, 9, d -> d.bound());
    }

    /** Promise 12: "NONE: no such ones, what, or the BOOK doesn't have it yet." */
    private static void page() {
        for (int what = 0; what < 4; what++) {
            int asked = what;
            for (int bad : outside(0, 4)) {
                leaves("page(" + bad + ", 0, ..)", BoundaryTests::busy, NONE, d -> d.page(bad, 0, asked));
            }
            for (int bad : outside(0, 2)) {
                leaves("page(0, " + bad + ", ..)", BoundaryTests::busy, NONE, d -> d.page(0, bad, asked));
            }
            for (int piece = 0; piece < 3; piece++) {
                int which = piece;
                leaves("page(4, ..) of one who came", BoundaryTests::busy, NONE, d -> d.page(4, which, asked));
            }
        }
        Desk desk = busy();
        desk.wear(99);
        desk.finish(99);
        for (int bad : outside(0, 3)) {
            due("page(0, 0, " + bad + ")", NONE, desk.page(0, 0, bad));
            due("page(4, 2, " + bad + ")", NONE, desk.page(4, 2, bad));
        }
        pageInHand();
    }

    private static void pageInHand() {
        Desk desk = desk(2, 0, 1);
        desk.days(1);
        scribes(desk, 3);
        int[] want = {0, 0, 1, 4};
        for (int day = 1; day <= 4; day++) {
            for (int what = 0; what < 4; what++) {
                due("day " + day + ": page(0, 0, " + what + ")", NONE, desk.page(0, 0, what));
            }
            desk.days(1);
        }
        for (int what = 0; what < 4; what++) {
            due("handed in: page(0, 0, " + what + ")", want[what], desk.page(0, 0, what));
            due("in hand: page(0, 1, " + what + ")", NONE, desk.page(0, 1, what));
        }
    }

    /** Promise 13: "NONE: no such ones, the BOOK doesn't have it, or it has none." */
    private static void parent() {
        for (int bad : outside(0, 4)) {
            leaves("parent(" + bad + ", 0)", BoundaryTests::busy, NONE, d -> d.parent(bad, 0));
        }
        for (int bad : outside(0, 2)) {
            leaves("parent(0, " + bad + ")", BoundaryTests::busy, NONE, d -> d.parent(0, bad));
        }
        for (int piece = 0; piece < 3; piece++) {
            int which = piece;
            leaves("parent(4, ..) of one who came", BoundaryTests::busy, NONE, d -> d.parent(4, which));
        }
    }

    /** Promise 14: "CHANGES of a PIECE; NONE: no such one." */
    private static void changes() {
        for (int bad : outside(0, 2)) {
            leaves("changes(" + bad + ")", BoundaryTests::busy, NONE, d -> d.changes(bad));
        }
        leaves("changes(0) of nobody", () -> desk(8), 0, d -> d.changes(0));
        leaves("changes(7) of nobody", () -> desk(8), 0, d -> d.changes(7));
    }

    /** Promise 15: "MET; NONE: no such BOOKS." */
    private static void met() {
        for (int bad : outside(0, 4)) {
            leaves("met(" + bad + ", 0)", BoundaryTests::busy, NONE, d -> d.met(bad, 0));
            leaves("met(0, " + bad + ")", BoundaryTests::busy, NONE, d -> d.met(0, bad));
            leaves("met(" + bad + ", " + bad + ")", BoundaryTests::busy, NONE, d -> d.met(bad, bad));
        }
        leaves("met(4, 0) of one who came", BoundaryTests::busy, 0, d -> d.met(4, 0));
        leaves("met(0, 4) of one who came", BoundaryTests::busy, 0, d -> d.met(0, 4));
    }

    /** Promise 16: "IndexOutOfBoundsException: no such SCRIBE. NoSuchElementException: no such what." */
    private static void lookRefused() {
        for (int what = 0; what < 5; what++) {
            int asked = what;
            for (int bad : outside(0, 4)) {
                leaves("look(" + bad + ", " + what + ")", BoundaryTests::busy, OUT_OF_BOUNDS, d -> d.look(bad, asked));
            }
        }
        for (int s = 0; s < 5; s++) {
            int who = s;
            for (int bad : outside(0, 4)) {
                leaves("look(" + s + ", " + bad + ")", BoundaryTests::busy, NO_ELEMENT, d -> d.look(who, bad));
            }
        }
        due("look(8, 0) when there are 8", OUT_OF_BOUNDS, full().look(8, 0));
        due("look(7, 5) when there are 8", NO_ELEMENT, full().look(7, 5));
        due("look(0, 5) when there are none: the scribe first", OUT_OF_BOUNDS, new Desk().look(0, 5));
    }

    /** Promise 16: "0: PACE, 1: 0 idle, 1 with a QUIRE, 2 its BOOK has ended, 2: the QUIRE it has (NONE), 3: .., 4: ..". */
    private static void lookFromFirstToLast() {
        Desk desk = desk(2, 0);
        scribes(desk, 1);
        int[][] want = {{1, 0, NONE, 0, NONE}, {1, 1, 0, 0, NONE}, {1, 0, NONE, 1, NONE}, {1, 1, 1, 1, NONE},
            {1, 2, NONE, 2, 3}, {1, 2, NONE, 2, 3}};
        for (int step = 0; step < want.length; step++) {
            for (int what = 0; what < 5; what++) {
                due("step " + step + ": look(0, " + what + ")", want[step][what], desk.look(0, what));
            }
            if (step == 2) {
                desk.quire(1, 0);
            }
            desk.days(1);
        }
    }

    /** Promise 17: "NONE: no such one, what." */
    private static void stock() {
        for (int what = 0; what < 4; what++) {
            int asked = what;
            for (int bad : outside(0, 3)) {
                leaves("stock(" + bad + ", " + what + ")", BoundaryTests::busy, NONE, d -> d.stock(bad, asked));
            }
            for (int bad : outside(0, 19)) {
                leaves("stock(" + bad + ", " + what + ")", BoundaryTests::full, NONE, d -> d.stock(bad, asked));
            }
        }
        for (int q = 0; q < 4; q++) {
            for (int bad : outside(0, 3)) {
                due("stock(" + q + ", " + bad + ")", NONE, busy().stock(q, bad));
            }
        }
        Desk desk = desk(8);
        for (int q = 0; q < 20; q++) {
            due("quire(7, 65535)", q, desk.quire(7, 65535));
        }
        due("stock(19, 0)", 7, desk.stock(19, 0));
        due("stock(19, 1)", 65535, desk.stock(19, 1));
        due("stock(19, 2)", 0, desk.stock(19, 2));
        due("stock(19, 3)", NONE, desk.stock(19, 3));
        scribes(desk, 9, 9, 9, 9, 9, 9, 9, 1);
        desk.days(1);
        due("with the first scribe", 0, desk.stock(0, 3));
        due("with the last scribe", 7, desk.stock(7, 3));
        due("on the shelf", NONE, desk.stock(8, 3));
    }

    /** Promise 18: "0 P, 1 QUIRES, 2 SCRIBES, 3 the DAY, 4 BOOKS that have ended. NONE for another what." */
    private static void count() {
        for (int bad : outside(0, 4)) {
            leaves("count(" + bad + ")", BoundaryTests::busy, NONE, d -> d.count(bad));
        }
        Desk desk = desk(8, 0, 1, 2, 3, 4, 5, 6, 7);
        scribes(desk, 1, 2, 3, 4, 5, 6, 7, 8);
        desk.finish(999);
        due("P, the greatest", 8, desk.count(0));
        due("scribes, the most", 8, desk.count(2));
        due("books that have ended, all", 8, desk.count(4));
        int last = 0;
        for (int s = 0; s < 8; s++) {
            last = Math.max(last, desk.look(s, 4));
        }
        due("the day behind the last end", last + 1, desk.count(3));
        due("20 quires", 20, full().count(1));
        desk = desk(1, 0);
        scribes(desk, 1, 1);
        due("books at first", 0, desk.count(4));
        desk.days(1);
        due("books, one in hand", 0, desk.count(4));
        desk.days(1);
        due("books, one has ended", 1, desk.count(4));
    }

    private static void terms() {
        piecesOfEachText();
        atMost20Quires();
        theLastQuireIsLent();
        all16Places();
        usesOneByOne();
        asManyUsesAsWear();
        moreUsesThanWear();
        atMost8Scribes();
        eachPaceToTheDay();
        slipsAre0AtFirst();
        allPiecesOnce();
        theDay();
        handInThenTake();
        slipsToldByThen();
        idleForTheLongest();
        idleSinceItEndedLast();
        rule0LeastNumber();
        rule1FewestQuires();
        fewestUses();
        tillItEndsAndWaits();
    }

    private static void boundTreeMet() {
        boundOfScribes();
        boundOfTheLastInHand();
        boundWithoutTheEnded();
        boundUpwards();
        boundOfWorkInHand();
        noBound();
        boundWithoutWear();
        boundBehindTheLastDay();
        hadItByTheTaking();
        fewestPlaces();
        quireAheadOfBook();
        theLastBook();
        changesFromNoneToAll();
        metFrom0ToAll();
    }

    private static void promises() {
        newObject();
        twoObjects();
        text();
        textForgets();
        rule();
        wear();
        quire();
        anewRefused();
        anewTaken();
        scribe();
        slip();
        days();
        daysAtOnce();
        finishRefused();
        finishBeyondWithoutScribes();
        finishTillTheLastEnd();
        finishWithout();
        bound();
        page();
        parent();
        changes();
        met();
        lookRefused();
        lookFromFirstToLast();
        stock();
        count();
    }

    public static void main(String[] args) {
        theScenesAreWhatTheyAreMadeFor();
        the512thCallAnswers();
        terms();
        boundTreeMet();
        promises();
        System.out.println(checks + " checks, " + wrong + " wrong");
        if (wrong != 0) {
            System.exit(1);
        }
    }
}
