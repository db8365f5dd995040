import java.util.Arrays;
import java.util.NoSuchElementException;

/** A shop that hires out a text piece by piece to scribes; ../shared/DOC.md tells what it promises. */
public final class QuireShop {
    public static final int NONE = -1;

    private static final int MOST_PIECES = 8;
    private static final int MOST_QUIRES = 20;
    private static final int MOST_SCRIBES = 8;
    private static final int PLACES = 16;
    private static final int MOST_BITS = 65535;
    private static final int MOST_RULE = 1;
    private static final int MOST_WEAR = 99;
    private static final int MOST_PACE = 9;
    private static final int MOST_DAYS = 99;
    private static final int MOST_FINISH = 999;
    private static final int LAST_DAY = 9999;

    // All quires and scribes are made once and used again, so that no call makes an object.
    private final Quire[] quires = new Quire[MOST_QUIRES];
    private final Scribe[] scribes = new Scribe[MOST_SCRIBES];
    private int pieces = 1;
    private int quireCount = 0;
    private int scribeCount = 0;
    private int day = 0;
    private int rule = 0;
    private int wear = MOST_WEAR;

    public QuireShop() {
        for (int q = 0; q < MOST_QUIRES; q++) {
            quires[q] = new Quire();
        }
        for (int s = 0; s < MOST_SCRIBES; s++) {
            scribes[s] = new Scribe();
        }
    }

    public boolean text(int pieces) {
        if (pieces < 1 || pieces > MOST_PIECES) {
            return false;
        }
        this.pieces = pieces;
        quireCount = 0;
        scribeCount = 0;
        day = 0;
        return true;
    }

    public boolean rule(int rule) {
        if (rule < 0 || rule > MOST_RULE) {
            return false;
        }
        this.rule = rule;
        return true;
    }

    public boolean wear(int uses) {
        if (uses < 1 || uses > MOST_WEAR) {
            return false;
        }
        wear = uses;
        return true;
    }

    public int quire(int piece, int errors) {
        if (!isPiece(piece) || !isBits(errors) || quireCount >= MOST_QUIRES) {
            return NONE;
        }
        quires[quireCount].begin(piece, errors);
        quireCount++;
        return quireCount - 1;
    }

    public int anew(int quire, int from, int slips) {
        if (!isQuire(quire) || !isBits(slips)) {
            return NONE;
        }
        Quire made = quires[quire];
        int model = modelErrors(made.piece, from);
        if (!made.isOnShelf() || model == NONE) {
            return NONE;
        }
        made.begin(made.piece, model ^ slips);
        return made.errors;
    }

    public int scribe(int pace) {
        if (pace < 1 || pace > MOST_PACE || scribeCount >= MOST_SCRIBES) {
            return NONE;
        }
        scribes[scribeCount].begin(pace, day);
        scribeCount++;
        return scribeCount - 1;
    }

    public boolean slip(int scribe, int piece, int bits) {
        if (!isScribe(scribe) || !isPiece(piece) || !isBits(bits) || scribes[scribe].has(piece)) {
            return false;
        }
        scribes[scribe].slips[piece] = bits;
        return true;
    }

    public int days(int n) {
        if (!mayPass(n, MOST_DAYS)) {
            return NONE;
        }
        int end = day + n;
        for (int gone = 0; gone < n && day < end; gone++) {
            passDay();
            skipQuietDays(end);
        }
        return day;
    }

    public int finish(int most) {
        if (!mayPass(most, MOST_FINISH)) {
            return NONE;
        }
        int end = day + most;
        for (int gone = 0; gone < most && day < end && !allEnded(); gone++) {
            passDay();
            if (!allEnded()) {
                skipQuietDays(end);
            }
        }
        return day;
    }

    public int bound() {
        if (allEnded()) {
            return NONE;
        }
        int latest = day;
        for (int s = 0; s < scribeCount; s++) {
            latest = Math.max(latest, soonestEnd(scribes[s]));
        }
        for (int piece = 0; piece < pieces; piece++) {
            int work = workLeft(piece);
            int copies = quiresOf(piece);
            if (copies > 0) {
                latest = Math.max(latest, day + (work + copies - 1) / copies);
            } else if (work > 0) {
                return NONE;
            }
        }
        return latest;
    }

    public int page(int book, int piece, int what) {
        if (!hasPage(book, piece)) {
            return NONE;
        }
        Scribe writer = scribes[book];
        switch (what) {
            case 0:
                return writer.errors[piece];
            case 1:
                return writer.source[piece];
            case 2:
                return writer.taken[piece];
            case 3:
                return writer.ended[piece];
            default:
                return NONE;
        }
    }

    public int parent(int book, int piece) {
        return hasPage(book, piece) ? nearestModel(book, piece) : NONE;
    }

    public int changes(int piece) {
        if (!isPiece(piece)) {
            return NONE;
        }
        int sum = 0;
        for (int book = 0; book < scribeCount; book++) {
            if (scribes[book].has(piece)) {
                sum += unlikePlaces(book, piece, nearestModel(book, piece));
            }
        }
        return sum;
    }

    public int met(int a, int b) {
        if (!isScribe(a) || !isScribe(b)) {
            return NONE;
        }
        int same = 0;
        for (int piece = 0; piece < pieces; piece++) {
            if (scribes[a].has(piece) && scribes[a].source[piece] == scribes[b].source[piece]) {
                same++;
            }
        }
        return same;
    }

    public int look(int scribe, int what) throws IndexOutOfBoundsException, NoSuchElementException {
        if (!isScribe(scribe)) {
            throw new IndexOutOfBoundsException("no such scribe");
        }
        Scribe seen = scribes[scribe];
        switch (what) {
            case 0:
                return seen.pace;
            case 1:
                return stateOf(seen);
            case 2:
                return seen.held;
            case 3:
                return seen.had;
            case 4:
                return hasEnded(seen) ? seen.idleSince : NONE;
            default:
                throw new NoSuchElementException("no such what");
        }
    }

    public int stock(int quire, int what) {
        if (!isQuire(quire)) {
            return NONE;
        }
        Quire seen = quires[quire];
        switch (what) {
            case 0:
                return seen.piece;
            case 1:
                return seen.errors;
            case 2:
                return seen.uses;
            case 3:
                return seen.holder;
            default:
                return NONE;
        }
    }

    public int count(int what) {
        switch (what) {
            case 0:
                return pieces;
            case 1:
                return quireCount;
            case 2:
                return scribeCount;
            case 3:
                return day;
            case 4:
                return endedBooks();
            default:
                return NONE;
        }
    }

    private boolean isPiece(int piece) {
        return piece >= 0 && piece < pieces;
    }

    private boolean isQuire(int quire) {
        return quire >= 0 && quire < quireCount;
    }

    private boolean isScribe(int scribe) {
        return scribe >= 0 && scribe < scribeCount;
    }

    private static boolean isBits(int bits) {
        return bits >= 0 && bits <= MOST_BITS;
    }

    private boolean hasPage(int book, int piece) {
        return isScribe(book) && isPiece(piece) && scribes[book].has(piece);
    }

    private boolean mayPass(int n, int most) {
        return n >= 1 && n <= most && day + n <= LAST_DAY;
    }

    private boolean hasEnded(Scribe scribe) {
        return scribe.had >= pieces;
    }

    private int endedBooks() {
        int books = 0;
        for (int s = 0; s < scribeCount; s++) {
            if (hasEnded(scribes[s])) {
                books++;
            }
        }
        return books;
    }

    private boolean allEnded() {
        return endedBooks() == scribeCount;
    }

    private int stateOf(Scribe scribe) {
        if (hasEnded(scribe)) {
            return 2;
        }
        return scribe.isIdle() ? 0 : 1;
    }

    private void passDay() {
        handInPages();
        lendQuires();
        day++;
    }

    /** Nothing stirs before somebody ends: no quire comes back till then, so who waits goes on waiting. */
    private void skipQuietDays(int end) {
        int next = end;
        for (int s = 0; s < scribeCount; s++) {
            if (!scribes[s].isIdle()) {
                next = Math.min(next, scribes[s].endDay());
            }
        }
        day = Math.max(day, next);
    }

    private void handInPages() {
        for (int s = 0; s < scribeCount; s++) {
            Scribe scribe = scribes[s];
            if (!scribe.isIdle() && scribe.endDay() == day) {
                if (isQuire(scribe.held)) {
                    quires[scribe.held].holder = NONE;
                }
                scribe.handIn(day);
            }
        }
    }

    private void lendQuires() {
        int last = NONE;
        for (int turn = 0; turn < scribeCount; turn++) {
            int scribe = nextInLine(last);
            if (scribe == NONE) {
                return;
            }
            last = lineKey(scribe);
            int quire = chosenQuire(scribes[scribe]);
            if (quire != NONE) {
                quires[quire].holder = scribe;
                quires[quire].uses++;
                scribes[scribe].take(quire, quires[quire], day);
            }
        }
    }

    /** Orders the line by how long each is idle, then by number; no two scribes share a key. */
    private int lineKey(int scribe) {
        return scribes[scribe].idleSince * MOST_SCRIBES + scribe;
    }

    private int nextInLine(int last) {
        int next = NONE;
        for (int s = 0; s < scribeCount; s++) {
            boolean waits = scribes[s].isIdle() && !hasEnded(scribes[s]) && lineKey(s) > last;
            if (waits && (next == NONE || lineKey(s) < lineKey(next))) {
                next = s;
            }
        }
        return next;
    }

    private int chosenQuire(Scribe scribe) {
        int chosen = NONE;
        int leastRank = 0;
        for (int piece = 0; piece < pieces; piece++) {
            int quire = scribe.has(piece) ? NONE : leastUsedOnShelf(piece);
            int rank = rule == 0 ? piece : unwornQuiresOf(piece);
            if (quire != NONE && (chosen == NONE || rank < leastRank)) {
                chosen = quire;
                leastRank = rank;
            }
        }
        return chosen;
    }

    private int leastUsedOnShelf(int piece) {
        int best = NONE;
        for (int q = 0; q < quireCount; q++) {
            boolean free = quires[q].piece == piece && quires[q].isOnShelf() && !isWorn(quires[q]);
            if (free && (best == NONE || quires[q].uses < quires[best].uses)) {
                best = q;
            }
        }
        return best;
    }

    private boolean isWorn(Quire quire) {
        return quire.uses >= wear;
    }

    private int unwornQuiresOf(int piece) {
        int unworn = 0;
        for (int q = 0; q < quireCount; q++) {
            if (quires[q].piece == piece && !isWorn(quires[q])) {
                unworn++;
            }
        }
        return unworn;
    }

    private int quiresOf(int piece) {
        int copies = 0;
        for (int q = 0; q < quireCount; q++) {
            if (quires[q].piece == piece) {
                copies++;
            }
        }
        return copies;
    }

    /** The day on which a scribe's book would end if it never had to wait again. */
    private int soonestEnd(Scribe scribe) {
        int lacking = pieces - scribe.had;
        if (lacking <= 0) {
            return day;
        }
        if (scribe.isIdle()) {
            return day + scribe.pace * lacking;
        }
        return scribe.endDay() + scribe.pace * (lacking - 1);
    }

    private int workLeft(int piece) {
        int work = 0;
        for (int s = 0; s < scribeCount; s++) {
            Scribe scribe = scribes[s];
            if (scribe.isWriting(piece)) {
                work += scribe.endDay() - day;
            } else if (!scribe.has(piece)) {
                work += scribe.pace;
            }
        }
        return work;
    }

    /** What a quire of the piece would be copied from: a quire from 0 on, or - 1 - a book; NONE if it can't be. */
    private int modelErrors(int piece, int from) {
        if (from >= 0) {
            return isQuire(from) && quires[from].piece == piece ? quires[from].errors : NONE;
        }
        int book = -1 - from;
        return hasPage(book, piece) ? scribes[book].errors[piece] : NONE;
    }

    /** Quires go first and only fewer places win, so that of like ones a quire and the lesser number stay. */
    private int nearestModel(int book, int piece) {
        Scribe writer = scribes[book];
        int nearest = NONE;
        int fewest = PLACES + 1;
        for (int q = 0; q < quireCount; q++) {
            int unlike = Integer.bitCount(writer.errors[piece] ^ quires[q].errors);
            if (quires[q].piece == piece && unlike < fewest) {
                nearest = q;
                fewest = unlike;
            }
        }
        for (int b = 0; b < scribeCount; b++) {
            int unlike = Integer.bitCount(writer.errors[piece] ^ scribes[b].errors[piece]);
            if (b != book && scribes[b].hadBy(piece, writer.taken[piece]) && unlike < fewest) {
                nearest = -2 - b;
                fewest = unlike;
            }
        }
        return nearest;
    }

    private int unlikePlaces(int book, int piece, int model) {
        if (model == NONE) {
            return 0;
        }
        // A parent that is a book is told as - 2 - its number, a model as - 1 - its number.
        int errors = modelErrors(piece, model >= 0 ? model : model + 1);
        return Integer.bitCount(scribes[book].errors[piece] ^ errors);
    }

    /** One of the shop's copies of a piece. */
    private static final class Quire {
        int piece = 0;
        int errors = 0;
        int uses = 0;
        int holder = NONE;

        void begin(int newPiece, int newErrors) {
            piece = newPiece;
            errors = newErrors;
            uses = 0;
            holder = NONE;
        }

        boolean isOnShelf() {
            return holder == NONE;
        }
    }

    /** A scribe with its one book, a page for each piece; source NONE: the book lacks the piece. */
    private static final class Scribe {
        final int[] slips = new int[MOST_PIECES];
        final int[] errors = new int[MOST_PIECES];
        final int[] source = new int[MOST_PIECES];
        final int[] taken = new int[MOST_PIECES];
        final int[] ended = new int[MOST_PIECES];
        int pace = 1;
        int had = 0;
        int idleSince = 0;
        int held = NONE;
        int heldPiece = 0;
        int heldErrors = 0;
        int heldSince = 0;

        void begin(int newPace, int today) {
            Arrays.fill(slips, 0);
            Arrays.fill(source, NONE);
            pace = newPace;
            had = 0;
            idleSince = today;
            held = NONE;
        }

        boolean isIdle() {
            return held == NONE;
        }

        boolean has(int piece) {
            return source[piece] != NONE;
        }

        boolean hadBy(int piece, int limit) {
            return has(piece) && ended[piece] <= limit;
        }

        boolean isWriting(int piece) {
            return !isIdle() && heldPiece == piece;
        }

        int endDay() {
            return heldSince + pace;
        }

        void take(int number, Quire quire, int today) {
            held = number;
            heldPiece = quire.piece;
            heldErrors = quire.errors;
            heldSince = today;
        }

        void handIn(int today) {
            errors[heldPiece] = heldErrors ^ slips[heldPiece];
            source[heldPiece] = held;
            taken[heldPiece] = heldSince;
            ended[heldPiece] = today;
            had++;
            idleSince = today;
            held = NONE;
        }
    }
}
