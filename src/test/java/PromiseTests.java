import java.lang.reflect.Constructor;
import java.lang.reflect.Field;
import java.lang.reflect.Method;
import java.lang.reflect.Modifier;
import java.util.NoSuchElementException;
import java.util.TreeSet;

/** For each promise of the document: ordinary calls, the edges that it names, and wrong inputs. */
public final class PromiseTests {
    private static final int NONE = QuireShop.NONE;
    private static final int[] FAR = {Integer.MIN_VALUE, -70000, -100, 100, 70000, Integer.MAX_VALUE};
    private static final int OUT_OF_BOUNDS = -1001;
    private static final int NO_ELEMENT = -1002;

    private static int checks = 0;
    private static int wrong = 0;

    private static void due(String call, int want, int got) {
        checks++;
        if (want != got) {
            wrong++;
            System.out.println(call + " answered " + got + ", due is " + want);
        }
    }

    private static void due(String call, boolean want, boolean got) {
        due(call, want ? 1 : 0, got ? 1 : 0);
    }

    private static int look(QuireShop shop, int scribe, int what) {
        try {
            return shop.look(scribe, what);
        } catch (IndexOutOfBoundsException e) {
            return OUT_OF_BOUNDS;
        } catch (NoSuchElementException e) {
            return NO_ELEMENT;
        }
    }

    /** A shop with so many pieces and, for each number told, a quire of that piece without errors. */
    private static QuireShop shop(int pieces, int... quires) {
        QuireShop shop = new QuireShop();
        due("text(" + pieces + ")", true, shop.text(pieces));
        for (int i = 0; i < quires.length; i++) {
            due("quire(" + quires[i] + ", 0)", i, shop.quire(quires[i], 0));
        }
        return shop;
    }

    private static void scribes(QuireShop shop, int... paces) {
        for (int pace : paces) {
            int before = shop.count(2);
            due("scribe(" + pace + ")", before, shop.scribe(pace));
        }
    }

    /** The quires that scribes 0, 1, .. have in hand. */
    private static void held(String when, QuireShop shop, int... quires) {
        for (int s = 0; s < quires.length; s++) {
            due(when + ": look(" + s + ", 2)", quires[s], look(shop, s, 2));
        }
    }

    private static void face() {
        int members = 0;
        TreeSet<String> seen = new TreeSet<>();
        for (Method m : QuireShop.class.getDeclaredMethods()) {
            if (!Modifier.isPrivate(m.getModifiers())) {
                members++;
                seen.add(m.getReturnType() + " " + m.getName() + " " + m.getParameterCount());
                due("public " + m.getName(), true, Modifier.isPublic(m.getModifiers()));
                due("static " + m.getName(), false, Modifier.isStatic(m.getModifiers()));
            }
        }
        String[] want = {"boolean text 1", "boolean rule 1", "boolean wear 1", "int quire 2", "int anew 3",
            "int scribe 1", "boolean slip 3", "int days 1", "int finish 1", "int bound 0", "int page 3",
            "int parent 2", "int changes 1", "int met 2", "int look 2", "int stock 2", "int count 1"};
        due("methods of the face", want.length, members);
        for (String method : want) {
            due("the face has " + method, true, seen.contains(method));
        }
        for (Field f : QuireShop.class.getDeclaredFields()) {
            boolean isNone = f.getName().equals("NONE");
            due("private field " + f.getName(), !isNone, Modifier.isPrivate(f.getModifiers()));
        }
        Constructor<?>[] constructors = QuireShop.class.getDeclaredConstructors();
        due("constructors", 1, constructors.length);
        due("parameters of the constructor", 0, constructors[0].getParameterCount());
        due("the class is public and final", Modifier.PUBLIC | Modifier.FINAL, QuireShop.class.getModifiers());
        due("NONE", -1, QuireShop.NONE);
    }

    private static void promise1NewObject() {
        QuireShop shop = new QuireShop();
        int[] counts = {1, 0, 0, 0, 0};
        for (int what = 0; what < counts.length; what++) {
            due("new: count(" + what + ")", counts[what], shop.count(what));
        }
        due("new: look(0, 0)", OUT_OF_BOUNDS, look(shop, 0, 0));
        due("new: stock(0, 0)", NONE, shop.stock(0, 0));
        due("new: bound()", NONE, shop.bound());
        due("new: quire(0, 5)", 0, shop.quire(0, 5));
        due("new: quire(1, 5)", NONE, shop.quire(1, 5));
        newObjectHasRule0();
        newObjectHasWear99();
    }

    private static void newObjectHasRule0() {
        QuireShop shop = shop(2, 0, 0, 1);
        scribes(shop, 1);
        shop.days(1);
        held("rule 0 at first", shop, 0);
    }

    private static void newObjectHasWear99() {
        QuireShop shop = shop(1, 0);
        scribes(shop, 1, 1, 1, 1, 1, 1, 1, 1);
        // A quire is used once a scribe, so 8 uses are the most that any run can see.
        due("a quire lasts for all scribes", 9, shop.finish(99));
        due("its uses", 8, shop.stock(0, 2));
    }

    private static void promise2Text() {
        QuireShop shop = shop(2, 0, 1);
        scribes(shop, 1, 2);
        shop.rule(1);
        shop.wear(1);
        shop.slip(0, 0, 9);
        shop.slip(0, 1, 9);
        due("text: days(5)", 5, shop.days(5));
        for (int bad : new int[] {0, 9, -1}) {
            due("text(" + bad + ")", false, shop.text(bad));
        }
        for (int bad : FAR) {
            due("text(" + bad + ")", false, shop.text(bad));
        }
        due("a refused text leaves P", 2, shop.count(0));
        due("a refused text leaves the quires", 2, shop.count(1));
        due("a refused text leaves the scribes", 2, shop.count(2));
        due("a refused text leaves the day", 5, shop.count(3));
        due("text(8)", true, shop.text(8));
        int[] counts = {8, 0, 0, 0, 0};
        for (int what = 0; what < counts.length; what++) {
            due("text(8): count(" + what + ")", counts[what], shop.count(what));
        }
        due("text(8): quire(7, 0)", 0, shop.quire(7, 0));
        due("text(8): quire(8, 0)", NONE, shop.quire(8, 0));
        due("text(2)", true, shop.text(2));
        due("text(2): met(0, 0)", NONE, shop.met(0, 0));
        due("text(2): page(0, 0, 0)", NONE, shop.page(0, 0, 0));
        textKeepsRuleAndWear(shop);
    }

    private static void textKeepsRuleAndWear(QuireShop shop) {
        shop.quire(0, 0);
        shop.quire(0, 0);
        shop.quire(1, 0);
        scribes(shop, 1, 1);
        due("a new scribe has no pages", 0, look(shop, 0, 3));
        shop.days(1);
        held("rule 1 and wear 1 stay", shop, 2, 0);
        shop.days(1);
        held("the worn quire 2 stays", shop, 1, NONE);
        due("slips of the text before are gone", 0, shop.page(0, 1, 0));
    }

    private static void promise3Rule() {
        QuireShop shop = shop(3, 0, 0, 1, 1, 2);
        for (int bad : new int[] {-1, 2}) {
            due("rule(" + bad + ")", false, shop.rule(bad));
        }
        for (int bad : FAR) {
            due("rule(" + bad + ")", false, shop.rule(bad));
        }
        scribes(shop, 1);
        shop.days(1);
        held("a refused rule leaves 0", shop, 0);
        due("rule(1)", true, shop.rule(1));
        scribes(shop, 9);
        shop.days(1);
        held("rule 1: the piece with the fewest quires, then the least of like ones", shop, 4, 1);
        due("rule(0)", true, shop.rule(0));
        shop.days(1);
        held("rule 0 again", shop, 2, 1);
    }

    /** Rule 1 counts quires that are not worn, on the shelf or not, at the moment of each taking. */
    private static void promise3RuleCounts() {
        QuireShop shop = shop(2, 0, 0, 1, 1, 1);
        due("rule(1)", true, shop.rule(1));
        scribes(shop, 9, 9);
        shop.days(1);
        held("quires in hand count", shop, 0, 1);

        shop = shop(2, 0, 0, 0, 1, 1);
        shop.rule(1);
        shop.wear(1);
        scribes(shop, 1, 1, 1);
        shop.days(1);
        held("a quire that wears by the taking counts no more", shop, 3, 4, 0);

        shop = shop(2, 0, 0, 1, 1);
        shop.rule(1);
        scribes(shop, 1);
        shop.days(1);
        held("of like pieces the least number", shop, 0);
    }

    private static void promise4Wear() {
        QuireShop shop = shop(1, 0);
        for (int bad : new int[] {0, -1, 100}) {
            due("wear(" + bad + ")", false, shop.wear(bad));
        }
        for (int bad : FAR) {
            due("wear(" + bad + ")", false, shop.wear(bad));
        }
        due("wear(2)", true, shop.wear(2));
        scribes(shop, 1, 1, 1, 1);
        due("wear 2: days(9)", 9, shop.days(9));
        due("wear 2: uses", 2, shop.stock(0, 2));
        due("wear 2: books", 2, shop.count(4));
        due("wear 2: bound is without wear", 11, shop.bound());
        due("wear(1)", true, shop.wear(1));
        due("more uses than wear: days(1)", 10, shop.days(1));
        due("more uses than wear: worn", NONE, shop.stock(0, 3));
        due("wear(3)", true, shop.wear(3));
        due("wear 3: days(1)", 11, shop.days(1));
        due("wear 3: lent again", 2, shop.stock(0, 3));
        due("wear(1)", true, shop.wear(1));
        due("who has a worn quire ends", 13, shop.days(2));
        due("who has a worn quire ends", 3, shop.count(4));
        due("wear(99)", true, shop.wear(99));
        due("wear 99: finish(9)", 15, shop.finish(9));
    }

    private static void promise5Quire() {
        QuireShop shop = shop(2);
        for (int bad : FAR) {
            due("quire(" + bad + ", 0)", NONE, shop.quire(bad, 0));
        }
        for (int bad : new int[] {-1, 65536, Integer.MIN_VALUE, Integer.MAX_VALUE}) {
            due("quire(0, " + bad + ")", NONE, shop.quire(0, bad));
        }
        due("quire(-1, 0)", NONE, shop.quire(-1, 0));
        due("quire(2, 0)", NONE, shop.quire(2, 0));
        due("refused quires", 0, shop.count(1));
        due("quire(1, 65535)", 0, shop.quire(1, 65535));
        due("quire 0: piece", 1, shop.stock(0, 0));
        due("quire 0: errors", 65535, shop.stock(0, 1));
        due("quire 0: uses", 0, shop.stock(0, 2));
        due("quire 0: holder", NONE, shop.stock(0, 3));
        for (int q = 1; q < 20; q++) {
            due("quire " + q, q, shop.quire(q % 2, q));
        }
        due("quire 20", NONE, shop.quire(0, 0));
        due("20 quires", 20, shop.count(1));
        due("quire 19: errors", 19, shop.stock(19, 1));
    }

    private static void promise6Anew() {
        QuireShop shop = shop(2);
        shop.quire(0, 12);
        shop.quire(0, 48);
        shop.quire(1, 3);
        scribes(shop, 2);
        due("anew from another", 48 ^ 17, shop.anew(0, 1, 17));
        due("anew from another: errors", 48 ^ 17, shop.stock(0, 1));
        due("anew from another: its own stays", 48, shop.stock(1, 1));
        due("anew from itself", 48 ^ 65535, shop.anew(1, 1, 65535));
        due("anew from a quire of another piece", NONE, shop.anew(0, 2, 0));
        due("anew from a book that lacks it", NONE, shop.anew(0, -1, 0));
        shop.slip(0, 0, 1);
        shop.days(1);
        due("uses before anew", 1, shop.stock(0, 2));
        due("anew of one with a scribe", NONE, shop.anew(0, 1, 0));
        due("anew of one with a scribe: errors", 48 ^ 17, shop.stock(0, 1));
        due("anew of one with a scribe: uses", 1, shop.stock(0, 2));
        due("anew of one with a scribe: holder", 0, shop.stock(0, 3));
        due("anew from one with a scribe", 48 ^ 17 ^ 2, shop.anew(1, 0, 2));
        due("anew from a page in hand", NONE, shop.anew(1, -1, 0));
        shop.days(2);
        due("anew from a book", 48 ^ 17 ^ 1 ^ 4, shop.anew(0, -1, 4));
        due("anew: uses", 0, shop.stock(0, 2));
        due("anew from a book: another piece", NONE, shop.anew(2, -1, 0));
        anewWrongInputs(shop);
    }

    private static void anewWrongInputs(QuireShop shop) {
        for (int bad : FAR) {
            due("anew(" + bad + ", 0, 0)", NONE, shop.anew(bad, 0, 0));
            due("anew(0, " + bad + ", 0)", NONE, shop.anew(0, bad, 0));
        }
        for (int bad : new int[] {-1, 65536, Integer.MIN_VALUE, Integer.MAX_VALUE}) {
            due("anew(0, 0, " + bad + ")", NONE, shop.anew(0, 0, bad));
        }
        due("anew(-1, 0, 0)", NONE, shop.anew(-1, 0, 0));
        due("anew(3, 0, 0)", NONE, shop.anew(3, 0, 0));
        due("anew(0, 3, 0)", NONE, shop.anew(0, 3, 0));
        due("anew(0, -2, 0)", NONE, shop.anew(0, -2, 0));
        due("refused anew leaves the errors", 48 ^ 17 ^ 1 ^ 4, shop.stock(0, 1));
    }

    /** A worn quire that is made anew is taken again, with its new faults. */
    private static void promise6AnewOfWorn() {
        QuireShop shop = shop(1, 0);
        shop.wear(1);
        scribes(shop, 1, 1);
        due("finish(5)", 5, shop.finish(5));
        due("one book of two", 1, shop.count(4));
        due("anew(0, 0, 6)", 6, shop.anew(0, 0, 6));
        due("finish(5)", 7, shop.finish(5));
        due("the new faults", 6, shop.page(1, 0, 0));
        due("the old page stays", 0, shop.page(0, 0, 0));
    }

    private static void promise7Scribe() {
        QuireShop shop = shop(1, 0);
        for (int bad : new int[] {0, -1, 10}) {
            due("scribe(" + bad + ")", NONE, shop.scribe(bad));
        }
        for (int bad : FAR) {
            due("scribe(" + bad + ")", NONE, shop.scribe(bad));
        }
        due("refused scribes", 0, shop.count(2));
        due("scribe(9)", 0, shop.scribe(9));
        shop.days(3);
        for (int s = 1; s < 8; s++) {
            due("scribe " + s, s, shop.scribe(s));
        }
        due("scribe 8", NONE, shop.scribe(1));
        due("8 scribes", 8, shop.count(2));
        due("pace of 0", 9, look(shop, 0, 0));
        due("pace of 7", 7, look(shop, 7, 0));
    }

    private static void promise8Slip() {
        QuireShop shop = shop(2, 0, 1);
        scribes(shop, 2);
        for (int bad : FAR) {
            due("slip(" + bad + ", 0, 1)", false, shop.slip(bad, 0, 1));
            due("slip(0, " + bad + ", 1)", false, shop.slip(0, bad, 1));
        }
        for (int bad : new int[] {-1, 65536, Integer.MIN_VALUE, Integer.MAX_VALUE}) {
            due("slip(0, 0, " + bad + ")", false, shop.slip(0, 0, bad));
        }
        due("slip(-1, 0, 1)", false, shop.slip(-1, 0, 1));
        due("slip(1, 0, 1)", false, shop.slip(1, 0, 1));
        due("slip(0, -1, 1)", false, shop.slip(0, -1, 1));
        due("slip(0, 2, 1)", false, shop.slip(0, 2, 1));
        due("slip(0, 0, 65535)", true, shop.slip(0, 0, 65535));
        due("slip(0, 1, 6)", true, shop.slip(0, 1, 6));
        shop.days(2);
        due("slip while it is in hand, on the day of its end", true, shop.slip(0, 0, 5));
        shop.days(1);
        due("the last slips told count", 5, shop.page(0, 0, 0));
        due("slip behind the end", false, shop.slip(0, 0, 9));
        due("the page stays", 5, shop.page(0, 0, 0));
        due("slip(0, 1, 0)", true, shop.slip(0, 1, 0));
        shop.finish(9);
        due("slips taken back", 0, shop.page(0, 1, 0));
    }

    private static void promise9Days() {
        QuireShop shop = new QuireShop();
        for (int bad : new int[] {0, -1, 100}) {
            due("days(" + bad + ")", NONE, shop.days(bad));
        }
        for (int bad : FAR) {
            due("days(" + bad + ")", NONE, shop.days(bad));
        }
        due("refused days", 0, shop.count(3));
        due("days(1)", 1, shop.days(1));
        for (int i = 1; i <= 100; i++) {
            due("days(99)", 1 + 99 * i, shop.days(99));
        }
        due("days(98) up to 9999", 9999, shop.days(98));
        due("days(1) beyond 9999", NONE, shop.days(1));
        due("the day stays", 9999, shop.count(3));
        lateTaking();
    }

    /** What is taken on one of the last days ends beyond them, and the bound may lie there. */
    private static void lateTaking() {
        QuireShop shop = shop(1, 0);
        for (int i = 0; i < 101; i++) {
            shop.days(98);
        }
        due("days(98)", 9996, shop.days(98));
        scribes(shop, 9);
        due("days(4) beyond", NONE, shop.days(4));
        due("nothing happens", NONE, look(shop, 0, 2));
        due("days(3)", 9999, shop.days(3));
        due("in hand on the last day", 0, look(shop, 0, 2));
        due("bound behind the last day", 10005, shop.bound());
    }

    /** Who ends hands in before anybody takes; who is idle for the longest takes first. */
    private static void promise9Order() {
        QuireShop shop = shop(1, 0);
        scribes(shop, 2, 1, 1);
        shop.days(1);
        held("of like ones the lesser number", shop, 0, NONE, NONE);
        shop.days(1);
        held("till it ends", shop, 0, NONE, NONE);
        shop.days(1);
        held("handed in and lent on the same day", shop, NONE, 0, NONE);
        due("ended on day 2", 2, look(shop, 0, 4));
        due("taken on day 2", 0, look(shop, 1, 2));

        shop = shop(2, 0, 1);
        scribes(shop, 1);
        shop.days(1);
        scribes(shop, 1);
        shop.days(1);
        held("came on the day on which the other ended: the lesser number", shop, 1, 0);

        shop = shop(2, 0);
        scribes(shop, 3, 4);
        shop.days(4);
        held("0 has ended, 1 has the quire", shop, NONE, 0);
        shop.quire(1, 0);
        scribes(shop, 1);
        shop.days(1);
        held("0 is idle since day 3, 2 since day 4", shop, 1, 0, NONE);
        shop.days(3);
        held("both are back on day 7; 2 is idle for longer than 1", shop, NONE, 1, 0);

        shop = shop(2, 0, 0);
        scribes(shop, 3, 1);
        shop.days(4);
        shop.quire(1, 0);
        shop.days(1);
        held("1 is idle since day 1, 0 since day 3", shop, NONE, 2);

        shop = shop(2, 0);
        scribes(shop, 1);
        shop.days(5);
        scribes(shop, 1, 1);
        shop.days(1);
        held("who waits in vain does not keep the next one from taking", shop, NONE, 0, NONE);
    }

    private static void promise9Choice() {
        QuireShop shop = shop(1, 0, 0);
        scribes(shop, 1, 1, 1);
        shop.days(2);
        held("fewest uses, of like ones the least number", shop, NONE, NONE, 0);
        shop.anew(1, 1, 0);
        scribes(shop, 1);
        shop.days(1);
        held("the one with the fewest uses", shop, NONE, NONE, NONE, 1);
        due("uses of 0", 2, shop.stock(0, 2));
        due("uses of 1", 1, shop.stock(1, 2));

        shop = shop(3, 2, 1);
        scribes(shop, 1, 1);
        shop.days(1);
        held("the least piece that is on the shelf", shop, 1, 0);
        shop.days(1);
        held("the piece that it lacks", shop, 0, 1);
        shop.days(2);
        held("it waits for piece 0", shop, NONE, NONE);
        due("idle", 0, look(shop, 0, 1));
    }

    private static void promise10Finish() {
        QuireShop shop = new QuireShop();
        for (int bad : new int[] {0, -1, 1000}) {
            due("finish(" + bad + ")", NONE, shop.finish(bad));
        }
        for (int bad : new int[] {Integer.MIN_VALUE, -70000, 70000, Integer.MAX_VALUE}) {
            due("finish(" + bad + ")", NONE, shop.finish(bad));
        }
        due("finish without scribes", 0, shop.finish(999));
        scribes(shop, 3);
        due("finish without quires", 999, shop.finish(999));
        shop.quire(0, 0);
        due("finish(3): not ended yet", 1002, shop.finish(3));
        due("with the quire", 1, look(shop, 0, 1));
        due("finish(1): it ends on the last day told", 1003, shop.finish(1));
        due("ended", 2, look(shop, 0, 1));
        due("finish when all have ended", 1003, shop.finish(5));
        scribes(shop, 2);
        due("a new scribe", 1006, shop.finish(999));
        finishAtTheLastDay();
    }

    private static void finishAtTheLastDay() {
        QuireShop shop = new QuireShop();
        scribes(shop, 1);
        for (int i = 1; i <= 10; i++) {
            due("finish(999)", 999 * i, shop.finish(999));
        }
        due("finish(10) beyond 9999", NONE, shop.finish(10));
        due("the day stays", 9990, shop.count(3));
        due("finish(8)", 9998, shop.finish(8));
        due("finish(1)", 9999, shop.finish(1));
        due("finish(1) beyond 9999", NONE, shop.finish(1));
        due("the day stays", 9999, shop.count(3));

        shop = new QuireShop();
        for (int i = 0; i < 101; i++) {
            shop.days(98);
        }
        due("without scribes, up to 9999", 9898, shop.finish(101));
        due("without scribes, beyond 9999", NONE, shop.finish(102));
    }

    private static void promise11Bound() {
        QuireShop shop = shop(2, 0);
        due("bound without scribes", NONE, shop.bound());
        QuireShop bare = shop(1);
        scribes(bare, 1);
        due("bound without quires", NONE, bare.bound());
        scribes(shop, 3);
        due("bound: no quire of piece 1", NONE, shop.bound());
        shop.quire(1, 0);
        due("bound by the scribe", 6, shop.bound());
        scribes(shop, 3, 3);
        due("bound by a piece", 9, shop.bound());
        shop.quire(0, 0);
        due("bound by the piece with one quire", 9, shop.bound());
        shop.quire(1, 0);
        due("bound, 9 by 2 upwards, or the scribe's 6", 6, shop.bound());
        scribes(shop, 2, 2);
        due("bound, 13 by 2 upwards", 7, shop.bound());
        shop.days(1);
        due("bound with pieces in hand", 7, shop.bound());

        shop = shop(1, 0);
        scribes(shop, 4);
        shop.days(2);
        due("bound of the last piece in hand", 4, shop.bound());
        shop.days(2);
        due("bound on the day of its end", 4, shop.bound());
        shop.days(1);
        due("bound when nobody lacks a piece", NONE, shop.bound());
        shop.days(5);
        scribes(shop, 2);
        due("bound of one that came", 12, shop.bound());
    }

    /** Days left of pieces in hand and the paces of those who wait, by the quires, worn ones too. */
    private static void promise11BoundOfPieces() {
        QuireShop shop = shop(1, 0);
        scribes(shop, 5, 4);
        shop.days(2);
        due("3 days left and 4", 9, shop.bound());
        scribes(shop, 9);
        due("3 days left, 4 and 9", 18, shop.bound());
        shop.quire(0, 0);
        due("16 by 2", 11, shop.bound());
        shop.days(1);
        shop.wear(1);
        due("day 3: 2 and 3 left, 9, by 2 upwards; the scribe's 12", 12, shop.bound());
        shop.days(9);
        due("both worn: the last scribe would begin today", 21, shop.bound());

        shop = shop(2, 0);
        scribes(shop, 9);
        shop.days(1);
        due("in hand, but no quire of the other piece", NONE, shop.bound());
        shop.quire(1, 0);
        due("in hand till 9, and 9 more", 18, shop.bound());
        shop.days(10);
        due("handed in on 9, the other taken there", 18, shop.bound());
    }

    private static void promise12Page() {
        QuireShop shop = shop(2);
        shop.quire(0, 1);
        shop.quire(0, 6);
        shop.quire(1, 8);
        shop.days(3);
        scribes(shop, 2, 3);
        shop.slip(1, 0, 3);
        shop.days(2);
        due("a page in hand", NONE, shop.page(1, 0, 0));
        due("a page in hand", NONE, shop.page(1, 0, 2));
        shop.days(2);
        int[] want = {6 ^ 3, 1, 3, 6};
        for (int what = 0; what < 4; what++) {
            due("page(1, 0, " + what + ")", want[what], shop.page(1, 0, what));
        }
        for (int bad : FAR) {
            due("page(" + bad + ", 0, 0)", NONE, shop.page(bad, 0, 0));
            due("page(0, " + bad + ", 0)", NONE, shop.page(0, bad, 0));
            due("page(0, 0, " + bad + ")", NONE, shop.page(0, 0, bad));
        }
        due("page(2, 0, 0)", NONE, shop.page(2, 0, 0));
        due("page(-1, 0, 0)", NONE, shop.page(-1, 0, 0));
        due("page(0, 2, 0)", NONE, shop.page(0, 2, 0));
        due("page(0, -1, 0)", NONE, shop.page(0, -1, 0));
        due("page(0, 0, 4)", NONE, shop.page(0, 0, 4));
        due("page(0, 0, -1)", NONE, shop.page(0, 0, -1));
        shop.anew(1, 1, 65535);
        due("a page stays when its quire is made anew", 6 ^ 3, shop.page(1, 0, 0));
        shop.finish(99);
        due("the other piece", 8, shop.page(0, 1, 0));
        due("its quire", 2, shop.page(0, 1, 1));
        due("its day", 5, shop.page(0, 1, 2));
        due("its end", 7, shop.page(0, 1, 3));
    }

    private static void promise13Parent() {
        QuireShop shop = shop(1, 0);
        scribes(shop, 2, 2, 2);
        shop.slip(0, 0, 0b1111);
        shop.slip(1, 0, 0b111);
        shop.slip(2, 0, 0b11);
        shop.days(4);
        due("a book that lacks it", NONE, shop.parent(1, 0));
        shop.finish(9);
        due("the quire of the first book", 0, shop.parent(0, 0));
        due("a book on the day of its end", -2, shop.parent(1, 0));
        due("the nearer of two books", -3, shop.parent(2, 0));
        due("changes", 4 + 1 + 1, shop.changes(0));
        shop.quire(0, 0b1);
        due("a quire ahead of a book", 1, shop.parent(2, 0));
        due("changes with the new quire", 3 + 1 + 1, shop.changes(0));
        shop.anew(1, 1, 0b110);
        due("a quire as it is now", 1, shop.parent(1, 0));
        due("a quire as it is now", 1, shop.parent(0, 0));
        due("changes with the quire made anew", 1 + 0 + 1, shop.changes(0));
        shop.quire(0, 0b111);
        due("of like quires the lesser number", 1, shop.parent(1, 0));
        for (int bad : FAR) {
            due("parent(" + bad + ", 0)", NONE, shop.parent(bad, 0));
            due("parent(0, " + bad + ")", NONE, shop.parent(0, bad));
        }
        due("parent(-1, 0)", NONE, shop.parent(-1, 0));
        due("parent(3, 0)", NONE, shop.parent(3, 0));
        due("parent(0, -1)", NONE, shop.parent(0, -1));
        due("parent(0, 1)", NONE, shop.parent(0, 1));
    }

    /** A book that ended behind the day of the taking is no parent; of like books the lesser number is. */
    private static void promise13ParentBooks() {
        QuireShop shop = shop(1, 0, 0);
        scribes(shop, 2, 2);
        shop.slip(0, 0, 255);
        shop.slip(1, 0, 255);
        shop.days(1);
        shop.quire(0, 0);
        scribes(shop, 1);
        shop.slip(2, 0, 255);
        shop.days(1);
        scribes(shop, 1);
        shop.slip(3, 0, 255);
        shop.finish(9);
        due("written side by side", 0, shop.parent(1, 0));
        due("taken a day ahead of their ends", 0, shop.parent(2, 0));
        due("of like books the lesser number", -2, shop.parent(3, 0));
        due("changes", 24, shop.changes(0));

        shop = shop(2);
        shop.quire(0, 0);
        shop.quire(1, 255);
        scribes(shop, 1);
        shop.slip(0, 0, 255);
        shop.finish(9);
        due("a quire of another piece is no parent", 0, shop.parent(0, 0));
        due("changes of piece 0", 8, shop.changes(0));
        due("changes of piece 1", 0, shop.changes(1));
    }

    private static void promise14Changes() {
        QuireShop shop = shop(2, 0, 1);
        scribes(shop, 1);
        due("changes when nobody has it", 0, shop.changes(0));
        for (int bad : FAR) {
            due("changes(" + bad + ")", NONE, shop.changes(bad));
        }
        due("changes(-1)", NONE, shop.changes(-1));
        due("changes(2)", NONE, shop.changes(2));
        shop.slip(0, 0, 65535);
        shop.days(1);
        due("changes while it is in hand", 0, shop.changes(0));
        shop.days(1);
        due("all 16 places", 16, shop.changes(0));
        due("the other piece", 0, shop.changes(1));
        scribes(shop, 1);
        shop.finish(9);
        due("a book without slips", 16, shop.changes(0));
    }

    private static void promise15Met() {
        QuireShop shop = shop(3, 0, 1, 1, 2);
        scribes(shop, 2, 2);
        due("nothing written yet", 0, shop.met(0, 1));
        shop.days(3);
        due("0 has piece 0, 1 has it in hand", 0, shop.met(0, 1));
        shop.finish(99);
        due("piece 0 from the one quire", 0, shop.page(1, 0, 1));
        int same = 0;
        for (int piece = 0; piece < 3; piece++) {
            same += shop.page(0, piece, 1) == shop.page(1, piece, 1) ? 1 : 0;
        }
        due("met(0, 1) is what the pages tell", same, shop.met(0, 1));
        due("met(0, 1)", 2, shop.met(0, 1));
        due("met(1, 0)", 2, shop.met(1, 0));
        due("a book with itself", 3, shop.met(0, 0));
        scribes(shop, 1);
        due("one that has nothing", 0, shop.met(0, 2));
        due("one that has nothing", 0, shop.met(2, 0));
        due("one that has nothing with itself", 0, shop.met(2, 2));
        for (int bad : FAR) {
            due("met(" + bad + ", 0)", NONE, shop.met(bad, 0));
            due("met(0, " + bad + ")", NONE, shop.met(0, bad));
        }
        due("met(-1, 0)", NONE, shop.met(-1, 0));
        due("met(3, 0)", NONE, shop.met(3, 0));
        due("met(0, -1)", NONE, shop.met(0, -1));
        due("met(0, 3)", NONE, shop.met(0, 3));
    }

    private static void promise16Look() {
        QuireShop shop = shop(2, 0, 0, 1);
        scribes(shop, 1, 4);
        looks("at first", shop, 0, 1, 0, NONE, 0, NONE);
        shop.days(1);
        looks("with a quire", shop, 0, 1, 1, 0, 0, NONE);
        shop.days(1);
        looks("with the second", shop, 0, 1, 1, 2, 1, NONE);
        shop.days(1);
        looks("ended", shop, 0, 1, 2, NONE, 2, 2);
        looks("at the first piece", shop, 1, 4, 1, 1, 0, NONE);
        shop.days(20);
        looks("ended on", shop, 1, 4, 2, NONE, 2, 8);
        for (int bad : FAR) {
            due("look(" + bad + ", 0)", OUT_OF_BOUNDS, look(shop, bad, 0));
            due("look(0, " + bad + ")", NO_ELEMENT, look(shop, 0, bad));
            due("look(" + bad + ", " + bad + ")", OUT_OF_BOUNDS, look(shop, bad, bad));
        }
        due("look(-1, 0)", OUT_OF_BOUNDS, look(shop, -1, 0));
        due("look(2, 0)", OUT_OF_BOUNDS, look(shop, 2, 0));
        due("look(2, 5)", OUT_OF_BOUNDS, look(shop, 2, 5));
        due("look(0, -1)", NO_ELEMENT, look(shop, 0, -1));
        due("look(0, 5)", NO_ELEMENT, look(shop, 0, 5));
    }

    private static void looks(String when, QuireShop shop, int scribe, int... want) {
        for (int what = 0; what < want.length; what++) {
            due(when + ": look(" + scribe + ", " + what + ")", want[what], look(shop, scribe, what));
        }
    }

    private static void promise17Stock() {
        QuireShop shop = shop(3);
        shop.quire(2, 77);
        shop.quire(0, 5);
        scribes(shop, 9, 2);
        shop.days(1);
        int[][] want = {{2, 77, 1, 1}, {0, 5, 1, 0}};
        for (int q = 0; q < 2; q++) {
            for (int what = 0; what < 4; what++) {
                due("stock(" + q + ", " + what + ")", want[q][what], shop.stock(q, what));
            }
        }
        shop.days(2);
        due("back on the shelf", NONE, shop.stock(0, 3));
        due("its uses stay", 1, shop.stock(0, 2));
        for (int bad : FAR) {
            due("stock(" + bad + ", 0)", NONE, shop.stock(bad, 0));
            due("stock(0, " + bad + ")", NONE, shop.stock(0, bad));
        }
        due("stock(-1, 0)", NONE, shop.stock(-1, 0));
        due("stock(2, 0)", NONE, shop.stock(2, 0));
        due("stock(0, -1)", NONE, shop.stock(0, -1));
        due("stock(0, 4)", NONE, shop.stock(0, 4));
    }

    private static void promise18Count() {
        QuireShop shop = shop(5, 0, 1, 2);
        scribes(shop, 1, 1, 9, 9);
        shop.days(7);
        int[] want = {5, 3, 4, 7, 0};
        for (int what = 0; what < want.length; what++) {
            due("count(" + what + ")", want[what], shop.count(what));
        }
        shop.quire(3, 0);
        shop.quire(4, 0);
        shop.days(20);
        due("two books have ended", 2, shop.count(4));
        for (int bad : FAR) {
            due("count(" + bad + ")", NONE, shop.count(bad));
        }
        due("count(-1)", NONE, shop.count(-1));
        due("count(5)", NONE, shop.count(5));
    }

    public static void main(String[] args) {
        face();
        promise1NewObject();
        promise2Text();
        promise3Rule();
        promise3RuleCounts();
        promise4Wear();
        promise5Quire();
        promise6Anew();
        promise6AnewOfWorn();
        promise7Scribe();
        promise8Slip();
        promise9Days();
        promise9Order();
        promise9Choice();
        promise10Finish();
        promise11Bound();
        promise11BoundOfPieces();
        promise12Page();
        promise13Parent();
        promise13ParentBooks();
        promise14Changes();
        promise15Met();
        promise16Look();
        promise17Stock();
        promise18Count();
        System.out.println(checks + " checks, " + wrong + " wrong");
        if (wrong != 0) {
            System.exit(1);
        }
    }
}
