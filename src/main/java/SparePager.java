import java.util.Arrays;

/**
 * A pager that asks programs which of their pages they can spare: offers with prices and trust, pages that are
 * bought and written out, refunds and lies found by faults, frames that are shared until someone writes, emergency
 * takes, pins, ends, and a watch list.
 */
public final class SparePager {
    /** The value for "none". */
    public static final int NONE = -1;

    private static final int INPUT_BYTES = 600;
    private static final int APPENDED_BYTES = 20;
    // The longest text tells 64 offers of at most 14 bytes each.
    private static final int TEXT_BYTES = 1024;
    private static final int LETTERS = 6;
    private static final int DIGITS = 3;
    private static final int PROGRAMS = 6;
    private static final int PAGES_EACH = 12;
    private static final int ALL_PAGES = 72;
    private static final int LEAST_FRAMES = 2;
    private static final int MOST_FRAMES = 64;
    private static final int MOST_IDLE = 200;
    private static final int MOST_FLIGHT = 20;
    private static final int MOST_WARRANTY = 200;
    private static final int MOST_BLUFF = 99;
    private static final int MOST_PRICE = 99;
    private static final int MOST_STEP = 200;
    private static final int MOST_BY = 99;
    private static final int MOST_TICKS = 200;
    private static final int LAST_TIME = 9999;
    private static final int PLACES = 6;
    private static final int FIRST_SHARED_PLACE = 4;
    private static final int SLOTS = 2;
    private static final int UNDOS = 8;

    private final Parser parser;
    private final Bytes input;
    // Where a text is parsed and what would be is tried, so that `now` stays.
    private final Machine trial;
    private final Writer writer;
    private final Bytes text;
    private final Machine now;
    private final Machine savedFirst;
    private final Machine savedSecond;
    private final History history;
    private final Offers offers;
    private int errorCode;
    private int errorPlace;

    /** Promise 1. */
    public SparePager() {
        parser = new Parser();
        input = parser.text;
        trial = parser.machine;
        writer = new Writer();
        text = writer.text;
        now = new Machine();
        savedFirst = new Machine();
        savedSecond = new Machine();
        history = new History();
        offers = new Offers();
        errorPlace = NONE;
    }

    // ---- input

    /** Promise 2. */
    public int append(int a, int b, int c, int d, int e) {
        if (input.length() + APPENDED_BYTES > INPUT_BYTES) {
            return NONE;
        }
        input.addInt(a);
        input.addInt(b);
        input.addInt(c);
        input.addInt(d);
        input.addInt(e);
        return input.length();
    }

    /** Promise 3. */
    public int load(int n) throws IndexOutOfBoundsException, IllegalArgumentException {
        needBuffered(n);
        errorCode = parser.parse(n);
        errorPlace = parser.errorPlace();
        input.clear();
        if (errorCode != 0) {
            throw new IllegalArgumentException("the text has an error");
        }
        now.copy(trial);
        history.clear();
        savedFirst.clear();
        savedSecond.clear();
        return now.programCount();
    }

    /** Promise 4. */
    public int parseError() {
        return errorCode;
    }

    /** Promise 5. */
    public int errorPosition() {
        return errorPlace;
    }

    /** Promise 6. */
    public int buffered() {
        return input.length();
    }

    /** Promise 7. */
    public int find(int n) throws IllegalStateException, IndexOutOfBoundsException {
        needMachine();
        needBuffered(n);
        int name = input.nameOf(n);
        input.clear();
        return name == NONE ? NONE : now.programNamed(name);
    }

    // ---- what there is

    /** Promise 8. */
    public int count(int what) throws IllegalStateException, IllegalArgumentException {
        needMachine();
        needWithin(what, 0, 15);
        switch (what) {
            case 0:
                return now.programCount();
            case 1:
                return now.livePrograms();
            case 2:
                return now.framesThatAre(Machine.FREE);
            case 3:
                return now.framesThatAre(Machine.HELD);
            case 4:
                return now.framesThatAre(Machine.FLYING);
            case 14:
                return now.offersAt(now.time());
            case 15:
                return now.sharedFrames();
            default:
                return now.totals.get(0, what);
        }
    }

    /** Promise 9. */
    public int setting(int what) throws IllegalStateException, IllegalArgumentException {
        needMachine();
        needWithin(what, Machine.FRAMES, Machine.LIE);
        return now.settings.get(0, what);
    }

    /** Promise 10. */
    public int program(int program, int what)
            throws IllegalStateException, IndexOutOfBoundsException, IllegalArgumentException {
        needProgram(program);
        needWithin(what, 0, 11);
        switch (what) {
            case 5:
                return now.pagesIn(program);
            case 6:
                return Long.bitCount(now.framesOf(program, false));
            case 7:
                return now.offersOf(program, now.time());
            case 11:
                return now.soldPages(program);
            default:
                return now.programs.get(program, what);
        }
    }

    /** Promise 11. */
    public int page(int program, int page, int what)
            throws IllegalStateException, IndexOutOfBoundsException, IllegalArgumentException {
        needPage(program, page);
        needWithin(what, 0, 8);
        int row = Machine.row(program, page);
        switch (what) {
            case 0:
                return now.pages.get(row, Machine.FRAME);
            case 1:
                return now.pages.get(row, Machine.USED);
            case 2:
                return now.pages.get(row, Machine.PINNED);
            case 3:
                return now.isShared(row) ? 1 : 0;
            case 4:
                return now.isSold(row) ? 1 : 0;
            case 5:
                return now.pages.get(row, Machine.SOLD_AT);
            case 6:
                return now.pages.get(row, Machine.PAID);
            case 7:
                return now.isOffer(row, now.time()) ? 1 : 0;
            default:
                return now.isIn(row) ? now.priceOf(row) : NONE;
        }
    }

    /** Promise 12. */
    public int frame(int frame, int what)
            throws IllegalStateException, IndexOutOfBoundsException, IllegalArgumentException {
        needMachine();
        if (frame < 0 || frame >= now.frameCount()) {
            throw new IndexOutOfBoundsException("there is no such frame");
        }
        needWithin(what, 0, 5);
        int row = now.firstPageIn(frame);
        switch (what) {
            case 0:
                return now.stateOf(frame);
            case 1:
                return now.frames.get(frame, Machine.DIRTY);
            case 2:
                return now.frames.get(frame, Machine.UNTIL);
            case 3:
                return now.frames.get(frame, Machine.INSIDE);
            case 4:
                return row == NONE ? NONE : row / PAGES_EACH;
            default:
                return row == NONE ? NONE : row % PAGES_EACH;
        }
    }

    // ---- offers and looks

    /** Promise 13. */
    public int offer(int index, int what)
            throws IllegalStateException, IndexOutOfBoundsException, IllegalArgumentException {
        int row = needOffer(index);
        needWithin(what, 0, 2);
        switch (what) {
            case 0:
                return row / PAGES_EACH;
            case 1:
                return row % PAGES_EACH;
            default:
                return now.priceOf(row);
        }
    }

    /** Promise 14. */
    public float worth(int index) throws IllegalStateException, IndexOutOfBoundsException {
        int row = needOffer(index);
        return now.worthOf(row, now.priceOf(row));
    }

    /** Promise 15. */
    public int costOf(int pages) throws IllegalStateException, IllegalArgumentException {
        needMachine();
        needWithin(pages, 1, ALL_PAGES);
        offers.list(now);
        int bought = Math.min(pages, offers.size());
        int cost = 0;
        for (int i = 0; i < bought; i++) {
            cost += now.priceOf(offers.rowAt(i));
        }
        return cost;
    }

    /** Promise 16. */
    public int nextFree() throws IllegalStateException {
        needMachine();
        return now.earliestLanding();
    }

    /** Promise 17. */
    public int idlest() throws IllegalStateException {
        needMachine();
        return now.idlestRow(0, ALL_PAGES, false);
    }

    /** Promise 18. */
    public int leastTrusted() throws IllegalStateException {
        needMachine();
        int least = NONE;
        for (int program = 0; program < now.programCount(); program++) {
            if (!now.hasEnded(program) && (least == NONE || trustOf(program) < trustOf(least))) {
                least = program;
            }
        }
        return least;
    }

    /** Promise 19. */
    public int richest() throws IllegalStateException {
        needMachine();
        int richest = NONE;
        for (int program = 0; program < now.programCount(); program++) {
            if (richest == NONE || creditOf(program) > creditOf(richest)) {
                richest = program;
            }
        }
        return richest;
    }

    /** Promise 20. */
    public int priceStep(int price) throws IllegalStateException, IllegalArgumentException {
        needMachine();
        needWithin(price, 0, MOST_STEP);
        int least = NONE;
        for (int row = 0; row < ALL_PAGES; row++) {
            int its = now.priceOf(row);
            if (its > price && (least == NONE || its < least) && now.isOffer(row, now.time())) {
                least = its;
            }
        }
        return least;
    }

    /** Promise 21. */
    public int sharers(int program, int page) throws IllegalStateException, IndexOutOfBoundsException {
        needPage(program, page);
        int row = Machine.row(program, page);
        if (!now.isIn(row)) {
            return 0;
        }
        int frame = now.pages.get(row, Machine.FRAME);
        int set = 0;
        for (int other = 0; other < ALL_PAGES; other++) {
            if (now.pages.get(other, Machine.FRAME) == frame) {
                set |= 1 << other / PAGES_EACH;
            }
        }
        return set;
    }

    /** Promise 22. */
    public float hitShare() throws IllegalStateException {
        needMachine();
        int touches = now.totals.get(0, Machine.TOUCHES);
        int hits = touches - now.totals.get(0, Machine.FETCHES);
        return touches > 0 ? (float) hits / (float) touches : 0.0f;
    }

    /** Promise 23. */
    public double meanTrust() throws IllegalStateException {
        needMachine();
        int sum = 0;
        for (int program = 0; program < now.programCount(); program++) {
            sum += now.hasEnded(program) ? 0 : trustOf(program);
        }
        int programs = now.livePrograms();
        return programs > 0 ? (double) sum / (double) programs : 0.0;
    }

    /** Promise 24. */
    public int written(int program) throws IllegalStateException, IndexOutOfBoundsException {
        needProgram(program);
        return Long.bitCount(now.framesOf(program, true));
    }

    // ---- what would be (nothing is changed)

    /** Promise 25. */
    public int would(int program, int page, boolean write)
            throws IllegalStateException, IndexOutOfBoundsException, IllegalArgumentException {
        needPage(program, page);
        needLive(program);
        trial.copy(now);
        return trial.touchPage(program, page, write);
    }

    /** Promise 26. */
    public int freeIn(int ticks) throws IllegalStateException, IllegalArgumentException {
        needMachine();
        needWithin(ticks, 0, MOST_TICKS);
        return now.framesFreeAt(now.time() + ticks);
    }

    /** Promise 27. */
    public int offersIn(int ticks) throws IllegalStateException, IllegalArgumentException {
        needMachine();
        needWithin(ticks, 0, MOST_TICKS);
        return now.offersAt(now.time() + ticks);
    }

    /** Promise 28. */
    public int ticksTo(int frames) throws IllegalStateException, IllegalArgumentException {
        needMachine();
        needWithin(frames, 0, now.frameCount());
        for (int ticks = 0; ticks <= MOST_FLIGHT; ticks++) {
            if (now.framesFreeAt(now.time() + ticks) >= frames) {
                return ticks;
            }
        }
        return NONE;
    }

    /** Promise 29. */
    public int creditIf(int program, int pages)
            throws IllegalStateException, IndexOutOfBoundsException, IllegalArgumentException {
        needProgram(program);
        needWithin(pages, 1, ALL_PAGES);
        offers.list(now);
        int bought = Math.min(pages, offers.size());
        int credit = creditOf(program);
        for (int i = 0; i < bought; i++) {
            int row = offers.rowAt(i);
            credit += row / PAGES_EACH == program ? now.priceOf(row) : 0;
        }
        return credit;
    }

    /** Promise 30. */
    public int victim(int pages) throws IllegalStateException, IllegalArgumentException {
        needMachine();
        needWithin(pages, 1, ALL_PAGES);
        trial.copy(now);
        int last = NONE;
        for (int i = 0; i < pages; i++) {
            last = trial.takePage();
            if (last == NONE) {
                return NONE;
            }
        }
        return last;
    }

    /** Promise 31. */
    public int leastPrice(int program) throws IllegalStateException, IndexOutOfBoundsException {
        needProgram(program);
        offers.list(now);
        for (int price = 1; price <= MOST_PRICE; price++) {
            if (!offers.sellsFirst(now, program, price)) {
                return price;
            }
        }
        return NONE;
    }

    // ---- texts

    /** Promise 32. */
    public int writeProgram(int program) throws IllegalStateException, IndexOutOfBoundsException {
        needProgram(program);
        writer.tellProgram(now, program);
        return text.length();
    }

    /** Promise 33. */
    public int writeFrames() throws IllegalStateException {
        needMachine();
        writer.tellFrames(now);
        return text.length();
    }

    /** Promise 34. */
    public int writeOffers() throws IllegalStateException {
        needMachine();
        offers.list(now);
        writer.tellOffers(now, offers);
        return text.length();
    }

    /** Promise 35. */
    public int textByte(int i) throws IndexOutOfBoundsException {
        if (i < 0 || i >= text.length()) {
            throw new IndexOutOfBoundsException("there is no such byte");
        }
        return text.at(i);
    }

    // ---- changes (each can be undone, the latest one first)

    /** Promise 36. */
    public int touch(int program, int page, boolean write)
            throws IllegalStateException, IndexOutOfBoundsException, IllegalArgumentException {
        needPage(program, page);
        needLive(program);
        history.keep(now);
        return now.touchPage(program, page, write);
    }

    /** Promise 37. */
    public int ask(int pages) throws IllegalStateException, IllegalArgumentException {
        needMachine();
        needWithin(pages, 1, ALL_PAGES);
        history.keep(now);
        offers.list(now);
        int bought = Math.min(pages, offers.size());
        for (int i = 0; i < bought; i++) {
            now.buyPage(offers.rowAt(i));
        }
        return bought;
    }

    /** Promise 38. */
    public int take(int pages) throws IllegalStateException, IllegalArgumentException {
        needMachine();
        needWithin(pages, 1, ALL_PAGES);
        history.keep(now);
        int taken = 0;
        while (taken < pages && now.takePage() != NONE) {
            taken++;
        }
        return taken;
    }

    /** Promise 39. */
    public int tick(int ticks) throws IllegalStateException, IllegalArgumentException {
        needMachine();
        needWithin(ticks, 1, MOST_TICKS);
        if (now.time() + ticks > LAST_TIME) {
            throw new IllegalArgumentException("the time would be too great");
        }
        history.keep(now);
        return now.passTime(ticks);
    }

    /** Promise 40. */
    public int share(int program, int page, int other, int its)
            throws IllegalStateException, IndexOutOfBoundsException, IllegalArgumentException {
        needPage(program, page);
        needPage(other, its);
        needLive(program);
        needLive(other);
        int row = Machine.row(program, page);
        int comer = Machine.row(other, its);
        if (!now.isIn(row) || now.isIn(comer)) {
            throw new IllegalArgumentException("the first page is out, or the other one is in");
        }
        history.keep(now);
        return now.joinPage(comer, now.pages.get(row, Machine.FRAME));
    }

    /** Promise 41. */
    public int drop(int program, int page)
            throws IllegalStateException, IndexOutOfBoundsException, IllegalArgumentException {
        needPage(program, page);
        needLive(program);
        int row = Machine.row(program, page);
        if (!now.isIn(row) || now.isPinned(row)) {
            throw new IllegalArgumentException("the page is out, or it is pinned");
        }
        history.keep(now);
        int frame = now.pages.get(row, Machine.FRAME);
        now.leave(row, true);
        return now.frames.get(frame, Machine.INSIDE);
    }

    /** Promise 42. */
    public boolean pin(int program, int page, boolean is)
            throws IllegalStateException, IndexOutOfBoundsException, IllegalArgumentException {
        needPage(program, page);
        needLive(program);
        history.keep(now);
        int row = Machine.row(program, page);
        boolean was = now.isPinned(row);
        now.pages.put(row, Machine.PINNED, is ? 1 : 0);
        return was;
    }

    /** Promise 43. */
    public int end(int program) throws IllegalStateException, IndexOutOfBoundsException, IllegalArgumentException {
        needProgram(program);
        needLive(program);
        history.keep(now);
        return now.endProgram(program);
    }

    /** Promise 44. */
    public int setPrice(int program, int price)
            throws IllegalStateException, IndexOutOfBoundsException, IllegalArgumentException {
        needProgram(program);
        needWithin(price, 1, MOST_PRICE);
        history.keep(now);
        int before = now.programs.get(program, Machine.PRICE);
        now.programs.put(program, Machine.PRICE, price);
        return before;
    }

    /** Promise 45. */
    public int trust(int program, int by)
            throws IllegalStateException, IndexOutOfBoundsException, IllegalArgumentException {
        needProgram(program);
        needWithin(by, -MOST_BY, MOST_BY);
        history.keep(now);
        now.addTrust(program, by);
        return trustOf(program);
    }

    /** Promise 46. */
    public boolean watch(int place, int program, int page) throws IllegalStateException, IndexOutOfBoundsException {
        needPage(program, page);
        needPlace(place);
        history.keep(now);
        int row = Machine.row(program, page);
        if (now.isShared(row) != (place >= FIRST_SHARED_PLACE)) {
            return false;
        }
        now.places.put(place, 0, row);
        return true;
    }

    /** Promise 47. */
    public int watched(int place) throws IllegalStateException, IndexOutOfBoundsException {
        needMachine();
        needPlace(place);
        return now.places.get(place, 0);
    }

    /** Promise 48. */
    public int unwatch() throws IllegalStateException {
        needMachine();
        history.keep(now);
        int emptied = 0;
        for (int place = 0; place < PLACES; place++) {
            emptied += now.places.get(place, 0) == NONE ? 0 : 1;
        }
        now.places.fill(0, NONE);
        return emptied;
    }

    /** Promise 49. */
    public int undo() throws IllegalStateException {
        if (history.size() == 0) {
            throw new IllegalStateException("there is no change to undo");
        }
        history.goBack(now);
        return history.size();
    }

    /** Promise 50. */
    public int undoable() {
        return history.size();
    }

    /** Promise 51. */
    public int save(int slot) throws IllegalStateException, IndexOutOfBoundsException {
        needMachine();
        savedIn(slot).copy(now);
        return now.time();
    }

    /** Promise 52. */
    public int restore(int slot) throws IndexOutOfBoundsException, IllegalStateException {
        Machine saved = savedIn(slot);
        if (!saved.isLoaded) {
            throw new IllegalStateException("nothing is saved there");
        }
        now.copy(saved);
        history.clear();
        return now.time();
    }

    // ---- what a call needs

    private void needMachine() {
        if (!now.isLoaded) {
            throw new IllegalStateException("no text was loaded");
        }
    }

    private void needBuffered(int n) {
        if (n < 0 || n > input.length()) {
            throw new IndexOutOfBoundsException("there are not so many bytes");
        }
    }

    private void needProgram(int program) {
        needMachine();
        if (program < 0 || program >= now.programCount()) {
            throw new IndexOutOfBoundsException("there is no such program");
        }
    }

    private void needPage(int program, int page) {
        needProgram(program);
        if (page < 0 || page >= now.programs.get(program, Machine.PAGES)) {
            throw new IndexOutOfBoundsException("there is no such page");
        }
    }

    private void needPlace(int place) {
        if (place < 0 || place >= PLACES) {
            throw new IndexOutOfBoundsException("there is no such place");
        }
    }

    /** Lists the offers for this, and returns the row of the page. */
    private int needOffer(int index) {
        needMachine();
        offers.list(now);
        if (index < 0 || index >= offers.size()) {
            throw new IndexOutOfBoundsException("there is no such offer");
        }
        return offers.rowAt(index);
    }

    private void needLive(int program) {
        if (now.hasEnded(program)) {
            throw new IllegalArgumentException("the program has ended");
        }
    }

    private static void needWithin(int value, int least, int most) {
        if (value < least || value > most) {
            throw new IllegalArgumentException("a number is out of range");
        }
    }

    private Machine savedIn(int slot) {
        if (slot < 0 || slot >= SLOTS) {
            throw new IndexOutOfBoundsException("there is no such slot");
        }
        return slot == 0 ? savedFirst : savedSecond;
    }

    private int trustOf(int program) {
        return now.programs.get(program, Machine.TRUST);
    }

    private int creditOf(int program) {
        return now.programs.get(program, Machine.CREDIT);
    }

    /** Bytes that are added one behind the other, up to a limit. */
    private static final class Bytes {
        private final int[] bytes;
        private int length;

        Bytes(int limit) {
            bytes = new int[Math.max(0, limit)];
        }

        int length() {
            return length;
        }

        void clear() {
            length = 0;
        }

        void add(int value) {
            if (length >= 0 && length < bytes.length) {
                bytes[length] = value & 255;
                length++;
            }
        }

        void addInt(int value) {
            add(value >> 24);
            add(value >> 16);
            add(value >> 8);
            add(value);
        }

        int at(int i) {
            return i >= 0 && i < bytes.length ? bytes[i] : 0;
        }

        /** Returns the packed name that the first n bytes are, or NONE. */
        int nameOf(int n) {
            if (n < 1 || n > LETTERS) {
                return NONE;
            }
            int name = 0;
            for (int i = 0; i < n; i++) {
                if (!isLetter(at(i))) {
                    return NONE;
                }
                name = withLetter(name, at(i));
            }
            return name;
        }

        static boolean isLetter(int value) {
            return value >= 'a' && value <= 'z';
        }

        static boolean isDigit(int value) {
            return value >= '0' && value <= '9';
        }

        /** Five bits a letter: six letters fit into an int, and no two names are the same number. */
        static int withLetter(int name, int letter) {
            return name * 32 + (letter - 'a' + 1);
        }
    }

    /** Numbers in rows and columns; a place that is not there reads as 0 and takes nothing. */
    private static final class Table {
        private final int rows;
        private final int columns;
        private final int[] cells;

        Table(int rows, int columns) {
            this.rows = rows;
            this.columns = columns;
            cells = new int[Math.max(0, rows * columns)];
        }

        int get(int row, int column) {
            int cell = row * columns + column;
            if (column < 0 || column >= columns || cell < 0 || cell >= cells.length) {
                return 0;
            }
            return cells[cell];
        }

        void put(int row, int column, int value) {
            int cell = row * columns + column;
            if (column < 0 || column >= columns || cell < 0 || cell >= cells.length) {
                return;
            }
            cells[cell] = value;
        }

        void add(int row, int column, int by) {
            put(row, column, get(row, column) + by);
        }

        void clear() {
            Arrays.fill(cells, 0);
        }

        void fill(int column, int value) {
            for (int row = 0; row < rows; row++) {
                put(row, column, value);
            }
        }

        void copy(Table from) {
            int length = Math.min(cells.length, from.cells.length);
            System.arraycopy(from.cells, 0, cells, 0, length);
        }
    }

    /** Frames, programs, pages, the time, what was counted and the watch list, and how they change. */
    private static final class Machine {
        // The columns of settings, as promise 9 numbers them.
        static final int FRAMES = 0;
        static final int IDLE = 1;
        static final int FLIGHT = 2;
        static final int WARRANTY = 3;
        static final int LIE = 4;

        // The columns of totals, those up to 13 as promise 8 numbers them.
        static final int PROGRAMS_TOLD = 0;
        static final int TIME = 5;
        static final int TOUCHES = 6;
        static final int ALL_FAULTS = 7;
        static final int STALLS = 8;
        static final int COPIES = 9;
        static final int BOUGHT = 10;
        static final int TAKEN = 11;
        static final int REFUNDS = 12;
        static final int ALL_LIES = 13;
        // Faults that were no stalls.
        static final int FETCHES = 14;

        // The columns of programs, those up to 10 as promise 10 numbers them.
        static final int PRICE = 0;
        static final int PAGES = 1;
        static final int BLUFF = 2;
        static final int CREDIT = 3;
        static final int TRUST = 4;
        static final int FAULTS = 8;
        static final int LIES = 9;
        static final int ENDED = 10;
        static final int NAME = 11;

        // The columns of pages.
        static final int FRAME = 0;
        static final int USED = 1;
        static final int PINNED = 2;
        static final int SOLD_AT = 3;
        static final int PAID = 4;

        // The columns of frames: how many pages are inside, 1 if dirty, and the time up to which it is in flight.
        static final int INSIDE = 0;
        static final int DIRTY = 1;
        static final int UNTIL = 2;

        // The states of a frame, as promise 12 numbers them.
        static final int FREE = 0;
        static final int HELD = 1;
        static final int FLYING = 2;

        // What touch() returns.
        static final int WAS_IN = 0;
        static final int COPIED = 1;
        static final int FAULTED = 2;
        static final int REFUNDED = 3;
        static final int LIED = 4;
        static final int STALLED = 5;

        static final int FIRST_TRUST = 50;
        static final int LEAST_TRUST = 1;
        static final int MOST_TRUST = 100;
        static final int TRUST_GAINED = 1;
        static final int TRUST_LOST = 10;
        static final int DIRTY_EXTRA = 2;
        static final int TAKE_FACTOR = 3;

        final Table settings = new Table(1, 5);
        final Table totals = new Table(1, 15);
        final Table programs = new Table(PROGRAMS, 12);
        final Table pages = new Table(ALL_PAGES, 5);
        final Table frames = new Table(MOST_FRAMES, 3);
        final Table places = new Table(PLACES, 1);
        boolean isLoaded;

        static int row(int program, int page) {
            return program * PAGES_EACH + page;
        }

        void clear() {
            isLoaded = false;
            settings.clear();
            totals.clear();
            programs.clear();
            pages.clear();
            pages.fill(FRAME, NONE);
            pages.fill(SOLD_AT, NONE);
            pages.fill(PAID, NONE);
            frames.clear();
            frames.fill(UNTIL, NONE);
            places.fill(0, NONE);
        }

        void copy(Machine from) {
            isLoaded = from.isLoaded;
            settings.copy(from.settings);
            totals.copy(from.totals);
            programs.copy(from.programs);
            pages.copy(from.pages);
            frames.copy(from.frames);
            places.copy(from.places);
        }

        void addProgram(int name, int price, int pageCount, int bluff) {
            int program = programCount();
            programs.put(program, NAME, name);
            programs.put(program, PRICE, price);
            programs.put(program, PAGES, pageCount);
            programs.put(program, BLUFF, bluff);
            programs.put(program, TRUST, FIRST_TRUST);
            totals.add(0, PROGRAMS_TOLD, 1);
        }

        int time() {
            return totals.get(0, TIME);
        }

        int frameCount() {
            return settings.get(0, FRAMES);
        }

        // ---- programs

        int programCount() {
            return totals.get(0, PROGRAMS_TOLD);
        }

        int programNamed(int name) {
            for (int program = 0; program < programCount(); program++) {
                if (programs.get(program, NAME) == name) {
                    return program;
                }
            }
            return NONE;
        }

        boolean hasEnded(int program) {
            return programs.get(program, ENDED) != 0;
        }

        int livePrograms() {
            int live = 0;
            for (int program = 0; program < programCount(); program++) {
                live += hasEnded(program) ? 0 : 1;
            }
            return live;
        }

        void addTrust(int program, int by) {
            int trust = programs.get(program, TRUST) + by;
            programs.put(program, TRUST, Math.max(LEAST_TRUST, Math.min(MOST_TRUST, trust)));
        }

        int pagesIn(int program) {
            int in = 0;
            for (int page = 0; page < PAGES_EACH; page++) {
                in += isIn(row(program, page)) ? 1 : 0;
            }
            return in;
        }

        int soldPages(int program) {
            int sold = 0;
            for (int page = 0; page < PAGES_EACH; page++) {
                sold += isSold(row(program, page)) ? 1 : 0;
            }
            return sold;
        }

        /** Returns the frames in which a page of a program is, as a set: all, or only the dirty ones. */
        long framesOf(int program, boolean onlyDirty) {
            long set = 0;
            for (int page = 0; page < PAGES_EACH; page++) {
                int frame = pages.get(row(program, page), FRAME);
                if (frame != NONE && (!onlyDirty || isDirty(frame))) {
                    set |= 1L << frame;
                }
            }
            return set;
        }

        // ---- pages

        boolean isIn(int row) {
            return pages.get(row, FRAME) != NONE;
        }

        boolean isShared(int row) {
            // A page that is out has the frame NONE, where no page is.
            return frames.get(pages.get(row, FRAME), INSIDE) > 1;
        }

        boolean isPinned(int row) {
            return pages.get(row, PINNED) != 0;
        }

        boolean isSold(int row) {
            return pages.get(row, SOLD_AT) != NONE;
        }

        /** Whether a page could be bought or taken, however long it was not used. */
        boolean isLoose(int row) {
            return isIn(row) && !isShared(row) && !isPinned(row) && !hasEnded(row / PAGES_EACH);
        }

        boolean isOffer(int row, int time) {
            int idle = time - pages.get(row, USED) + programs.get(row / PAGES_EACH, BLUFF);
            return idle >= settings.get(0, IDLE) && isLoose(row);
        }

        int offersOf(int program, int time) {
            int offers = 0;
            for (int page = 0; page < PAGES_EACH; page++) {
                offers += isOffer(row(program, page), time) ? 1 : 0;
            }
            return offers;
        }

        int offersAt(int time) {
            int offers = 0;
            for (int program = 0; program < programCount(); program++) {
                offers += offersOf(program, time);
            }
            return offers;
        }

        int priceOf(int row) {
            int price = programs.get(row / PAGES_EACH, PRICE);
            return isIn(row) && isDirty(pages.get(row, FRAME)) ? price + DIRTY_EXTRA : price;
        }

        float worthOf(int row, int price) {
            int trust = Math.max(LEAST_TRUST, programs.get(row / PAGES_EACH, TRUST));
            return (float) (price * 100) / (float) trust;
        }

        /** Returns the row from a first one up to a limit that was used last the earliest, of those that are in. */
        int idlestRow(int first, int limit, boolean onlyLoose) {
            int idlest = NONE;
            for (int row = first; row < limit; row++) {
                boolean counts = onlyLoose ? isLoose(row) : isIn(row);
                if (counts && (idlest == NONE || pages.get(row, USED) < pages.get(idlest, USED))) {
                    idlest = row;
                }
            }
            return idlest;
        }

        // ---- frames

        boolean isDirty(int frame) {
            return frames.get(frame, DIRTY) != 0;
        }

        int stateOf(int frame) {
            if (frames.get(frame, INSIDE) > 0) {
                return HELD;
            }
            return frames.get(frame, UNTIL) == NONE ? FREE : FLYING;
        }

        int framesThatAre(int state) {
            int found = 0;
            for (int frame = 0; frame < frameCount(); frame++) {
                found += stateOf(frame) == state ? 1 : 0;
            }
            return found;
        }

        int sharedFrames() {
            int shared = 0;
            for (int frame = 0; frame < frameCount(); frame++) {
                shared += frames.get(frame, INSIDE) > 1 ? 1 : 0;
            }
            return shared;
        }

        int framesFreeAt(int time) {
            int free = 0;
            for (int frame = 0; frame < frameCount(); frame++) {
                // A frame that is free has NONE there, which is less than any time.
                boolean isEmpty = frames.get(frame, INSIDE) == 0;
                free += isEmpty && frames.get(frame, UNTIL) <= time ? 1 : 0;
            }
            return free;
        }

        int earliestLanding() {
            int earliest = NONE;
            for (int frame = 0; frame < frameCount(); frame++) {
                int until = frames.get(frame, UNTIL);
                if (until != NONE && (earliest == NONE || until < earliest)) {
                    earliest = until;
                }
            }
            return earliest;
        }

        int freeFrame() {
            for (int frame = 0; frame < frameCount(); frame++) {
                if (stateOf(frame) == FREE) {
                    return frame;
                }
            }
            return NONE;
        }

        int firstPageIn(int frame) {
            for (int row = 0; row < ALL_PAGES; row++) {
                if (pages.get(row, FRAME) == frame) {
                    return row;
                }
            }
            return NONE;
        }

        void enter(int row, int frame) {
            pages.put(row, FRAME, frame);
            frames.add(frame, INSIDE, 1);
        }

        /** A page leaves its frame; whether this frame is in flight then, if it is dirty and nobody holds it. */
        void leave(int row, boolean mayFly) {
            int frame = pages.get(row, FRAME);
            pages.put(row, FRAME, NONE);
            frames.add(frame, INSIDE, -1);
            if (frames.get(frame, INSIDE) > 0) {
                return;
            }
            int flight = settings.get(0, FLIGHT);
            if (mayFly && isDirty(frame) && flight > 0) {
                frames.put(frame, UNTIL, time() + flight);
            }
            frames.put(frame, DIRTY, 0);
        }

        // ---- touching

        int touchPage(int program, int page, boolean write) {
            int row = row(program, page);
            if (!isIn(row)) {
                return fetchPage(program, row, write);
            }
            if (write && isShared(row)) {
                return copyPage(row);
            }
            use(row, write);
            return WAS_IN;
        }

        private void use(int row, boolean write) {
            pages.put(row, USED, time());
            totals.add(0, TOUCHES, 1);
            if (write) {
                frames.put(pages.get(row, FRAME), DIRTY, 1);
            }
        }

        private int copyPage(int row) {
            int frame = freeFrame();
            if (frame == NONE) {
                totals.add(0, STALLS, 1);
                return STALLED;
            }
            leave(row, true);
            enter(row, frame);
            use(row, true);
            totals.add(0, COPIES, 1);
            return COPIED;
        }

        private int fetchPage(int program, int row, boolean write) {
            totals.add(0, ALL_FAULTS, 1);
            programs.add(program, FAULTS, 1);
            int frame = freeFrame();
            if (frame == NONE) {
                totals.add(0, STALLS, 1);
                return STALLED;
            }
            totals.add(0, FETCHES, 1);
            enter(row, frame);
            use(row, write);
            return isSold(row) ? judge(program, row) : FAULTED;
        }

        private int judge(int program, int row) {
            int age = time() - pages.get(row, SOLD_AT);
            int paid = pages.get(row, PAID);
            forgetSale(row);
            if (age >= settings.get(0, WARRANTY)) {
                addTrust(program, TRUST_GAINED);
                return FAULTED;
            }
            programs.add(program, CREDIT, -paid);
            totals.add(0, REFUNDS, 1);
            if (age >= settings.get(0, LIE)) {
                return REFUNDED;
            }
            addTrust(program, -TRUST_LOST);
            programs.add(program, LIES, 1);
            totals.add(0, ALL_LIES, 1);
            return LIED;
        }

        private void forgetSale(int row) {
            pages.put(row, SOLD_AT, NONE);
            pages.put(row, PAID, NONE);
        }

        // ---- the other changes

        void buyPage(int row) {
            int price = priceOf(row);
            programs.add(row / PAGES_EACH, CREDIT, price);
            pages.put(row, SOLD_AT, time());
            pages.put(row, PAID, price);
            leave(row, true);
            totals.add(0, BOUGHT, 1);
        }

        /** Takes one page, and returns its row; NONE if there is none to take. */
        int takePage() {
            int victim = NONE;
            int most = 0;
            for (int program = 0; program < programCount(); program++) {
                int held = Long.bitCount(framesOf(program, false));
                int row = idlestRow(row(program, 0), row(program + 1, 0), true);
                if (row != NONE && held > most) {
                    victim = row;
                    most = held;
                }
            }
            if (victim != NONE) {
                takeAway(victim);
            }
            return victim;
        }

        private void takeAway(int row) {
            int program = row / PAGES_EACH;
            leave(row, false);
            programs.add(program, CREDIT, TAKE_FACTOR * programs.get(program, PRICE));
            totals.add(0, TAKEN, 1);
        }

        /** Lets time pass, and returns how many frames land by that. */
        int passTime(int ticks) {
            totals.add(0, TIME, ticks);
            int landed = 0;
            for (int frame = 0; frame < frameCount(); frame++) {
                int until = frames.get(frame, UNTIL);
                if (until != NONE && until <= time()) {
                    frames.put(frame, UNTIL, NONE);
                    landed++;
                }
            }
            return landed;
        }

        /** A page that is out comes into a frame that is held; returns how many pages are in it then. */
        int joinPage(int row, int frame) {
            enter(row, frame);
            pages.put(row, USED, time());
            forgetSale(row);
            return frames.get(frame, INSIDE);
        }

        /** Ends a program, and returns how many frames become free by that. */
        int endProgram(int program) {
            int before = framesThatAre(FREE);
            for (int page = 0; page < PAGES_EACH; page++) {
                int row = row(program, page);
                if (isIn(row)) {
                    leave(row, false);
                }
                pages.put(row, PINNED, 0);
                forgetSale(row);
            }
            programs.put(program, ENDED, 1);
            return framesThatAre(FREE) - before;
        }
    }

    /** The latest states before changes, in a ring. */
    private static final class History {
        private final Machine[] ring = new Machine[UNDOS];
        private int next;
        private int size;

        History() {
            for (int i = 0; i < ring.length; i++) {
                ring[i] = new Machine();
            }
        }

        int size() {
            return size;
        }

        void clear() {
            size = 0;
        }

        void keep(Machine machine) {
            Machine kept = at(next);
            if (kept == null) {
                return;
            }
            kept.copy(machine);
            next = (next + 1) % UNDOS;
            size = Math.min(UNDOS, size + 1);
        }

        void goBack(Machine machine) {
            int latest = (next + UNDOS - 1) % UNDOS;
            Machine kept = at(latest);
            if (kept == null || size == 0) {
                return;
            }
            machine.copy(kept);
            next = latest;
            size--;
        }

        private Machine at(int i) {
            return i >= 0 && i < ring.length ? ring[i] : null;
        }
    }

    /** The offers of a machine, as rows of its pages, in their order. */
    private static final class Offers {
        private final int[] rows = new int[ALL_PAGES];
        private final float[] worths = new float[ALL_PAGES];
        private int size;

        int size() {
            return size;
        }

        int rowAt(int i) {
            return i >= 0 && i < rows.length ? rows[i] : NONE;
        }

        private float worthAt(int i) {
            return i >= 0 && i < worths.length ? worths[i] : 0.0f;
        }

        void list(Machine machine) {
            size = 0;
            for (int row = 0; row < ALL_PAGES; row++) {
                if (machine.isOffer(row, machine.time())) {
                    insert(machine, row);
                }
            }
        }

        /** The rows come in ascending order, so that behind an equal one is the right place. */
        private void insert(Machine machine, int row) {
            float worth = machine.worthOf(row, machine.priceOf(row));
            int place = size;
            for (; place > 0 && isBefore(machine, row, worth, place - 1); place--) {
                put(place, rowAt(place - 1), worthAt(place - 1));
            }
            put(place, row, worth);
            size++;
        }

        private void put(int place, int row, float worth) {
            if (place >= 0 && place < rows.length && place < worths.length) {
                rows[place] = row;
                worths[place] = worth;
            }
        }

        /** Whether an offer of a row, with a worth, comes before the one that is listed at a place. */
        private boolean isBefore(Machine machine, int row, float worth, int place) {
            int other = rowAt(place);
            float otherWorth = worthAt(place);
            if (worth != otherWorth) {
                return worth < otherWorth;
            }
            int used = machine.pages.get(row, Machine.USED);
            int otherUsed = machine.pages.get(other, Machine.USED);
            return used != otherUsed ? used < otherUsed : row < other;
        }

        /** Whether a program would sell the first page, with another PRICE than it has in the listed machine. */
        boolean sellsFirst(Machine machine, int program, int price) {
            int rival = firstOfOthers(program);
            int rise = price - machine.programs.get(program, Machine.PRICE);
            for (int place = 0; place < size; place++) {
                int row = rowAt(place);
                if (row / PAGES_EACH == program) {
                    float worth = machine.worthOf(row, machine.priceOf(row) + rise);
                    if (rival == NONE || isBefore(machine, row, worth, rival)) {
                        return true;
                    }
                }
            }
            return false;
        }

        private int firstOfOthers(int program) {
            for (int place = 0; place < size; place++) {
                if (rowAt(place) / PAGES_EACH != program) {
                    return place;
                }
            }
            return NONE;
        }
    }

    /** Writes a machine as texts. */
    private static final class Writer {
        final Bytes text = new Bytes(TEXT_BYTES);

        void tellProgram(Machine machine, int program) {
            text.clear();
            addName(machine.programs.get(program, Machine.NAME));
            text.add(' ');
            for (int page = 0; page < machine.programs.get(program, Machine.PAGES); page++) {
                addPage(machine, Machine.row(program, page));
            }
            if (machine.hasEnded(program)) {
                text.add('x');
            }
        }

        private void addPage(Machine machine, int row) {
            text.add(letterOf(machine, row));
            if (machine.isPinned(row)) {
                text.add('!');
            }
            if (machine.isSold(row)) {
                text.add('*');
            }
        }

        private static char letterOf(Machine machine, int row) {
            if (!machine.isIn(row)) {
                return 'o';
            }
            if (machine.isShared(row)) {
                return 's';
            }
            return machine.isDirty(machine.pages.get(row, Machine.FRAME)) ? 'd' : 'i';
        }

        void tellFrames(Machine machine) {
            text.clear();
            for (int frame = 0; frame < machine.frameCount(); frame++) {
                switch (machine.stateOf(frame)) {
                    case Machine.FREE:
                        text.add('.');
                        break;
                    case Machine.FLYING:
                        text.add('~');
                        break;
                    default:
                        addNumber(Math.min(9, machine.frames.get(frame, Machine.INSIDE)));
                        break;
                }
            }
        }

        void tellOffers(Machine machine, Offers offers) {
            text.clear();
            for (int place = 0; place < offers.size(); place++) {
                if (place > 0) {
                    text.add(' ');
                }
                int row = offers.rowAt(place);
                addName(machine.programs.get(row / PAGES_EACH, Machine.NAME));
                text.add('.');
                addNumber(row % PAGES_EACH);
                text.add(':');
                addNumber(machine.priceOf(row));
            }
        }

        private void addName(int name) {
            for (int shift = 5 * (LETTERS - 1); shift >= 0; shift -= 5) {
                int letter = name >> shift & 31;
                if (letter > 0) {
                    text.add('a' + letter - 1);
                }
            }
        }

        /** Numbers here are 0 to 101. */
        private void addNumber(int number) {
            if (number >= 100) {
                text.add('0' + number / 100);
            }
            if (number >= 10) {
                text.add('0' + number / 10 % 10);
            }
            text.add('0' + number % 10);
        }
    }

    /** Parses a text into a machine. Behind the first error it finds no other one, and what it reads does not count. */
    private static final class Parser {
        private static final int END = 0;
        private static final int WORD = 1;
        private static final int NUMBER = 2;
        private static final int SEMICOLON = 3;
        private static final int OTHER = 4;

        private static final int NOT_ALLOWED = 1;
        private static final int OUT_OF_BOUNDS = 2;
        private static final int WRONG_NAME_OR_PAGE = 3;
        private static final int NO_ROOM = 4;

        final Bytes text = new Bytes(INPUT_BYTES);
        final Machine machine = new Machine();
        private int limit;
        private int next;
        private int kind;
        private int start;
        private int value;
        private int error;
        private int errorPlace;

        int errorPlace() {
            return errorPlace;
        }

        /** Parses the first n bytes, and returns the code of the error, or 0. */
        int parse(int n) {
            limit = n;
            next = 0;
            error = 0;
            errorPlace = NONE;
            machine.clear();
            scan();
            settings();
            // A line takes a byte at least, its semicolon.
            for (int i = 0; i < n && kind != END && error == 0; i++) {
                line();
            }
            machine.isLoaded = error == 0;
            return error;
        }

        private void settings() {
            literal("frames");
            machine.settings.put(0, Machine.FRAMES, number(LEAST_FRAMES, MOST_FRAMES));
            machine.settings.put(0, Machine.IDLE, number(0, MOST_IDLE));
            machine.settings.put(0, Machine.FLIGHT, number(0, MOST_FLIGHT));
            int warranty = number(0, MOST_WARRANTY);
            machine.settings.put(0, Machine.WARRANTY, warranty);
            machine.settings.put(0, Machine.LIE, number(0, warranty));
        }

        private void line() {
            if (kind != SEMICOLON) {
                fail(NOT_ALLOWED, start);
                return;
            }
            scan();
            if (isWord("run")) {
                runLine();
            } else if (isWord("in")) {
                inLine();
            } else {
                literal("pin");
                pinPage(knownProgram());
            }
        }

        private void runLine() {
            if (machine.programCount() >= PROGRAMS) {
                fail(NO_ROOM, start);
                return;
            }
            scan();
            int name = freshName();
            int price = number(1, MOST_PRICE);
            int pages = number(1, PAGES_EACH);
            int bluff = 0;
            if (isWord("bluff")) {
                scan();
                bluff = number(0, MOST_BLUFF);
            }
            machine.addProgram(name, price, pages, bluff);
        }

        private void inLine() {
            scan();
            int program = knownProgram();
            putPageIn(program);
            for (int i = 1; i < PAGES_EACH + 1 && kind == NUMBER && error == 0; i++) {
                putPageIn(program);
            }
        }

        private void putPageIn(int program) {
            int place = start;
            int page = number(0, machine.programs.get(program, Machine.PAGES) - 1);
            int row = Machine.row(program, page);
            if (machine.isIn(row)) {
                fail(WRONG_NAME_OR_PAGE, place);
            }
            int frame = machine.freeFrame();
            if (frame == NONE) {
                fail(NO_ROOM, place);
            }
            if (error == 0) {
                machine.enter(row, frame);
            }
        }

        private void pinPage(int program) {
            int place = start;
            int page = number(0, machine.programs.get(program, Machine.PAGES) - 1);
            int row = Machine.row(program, page);
            if (machine.isPinned(row)) {
                fail(WRONG_NAME_OR_PAGE, place);
            }
            if (error == 0) {
                machine.pages.put(row, Machine.PINNED, 1);
            }
        }

        // ---- tokens

        private void literal(String word) {
            if (isWord(word)) {
                scan();
            } else {
                fail(NOT_ALLOWED, start);
            }
        }

        private int number(int least, int most) {
            if (kind != NUMBER) {
                return fail(NOT_ALLOWED, start);
            }
            if (value < least || value > most) {
                return fail(OUT_OF_BOUNDS, start);
            }
            int number = value;
            scan();
            return number;
        }

        private int freshName() {
            if (kind != WORD) {
                return fail(NOT_ALLOWED, start);
            }
            if (machine.programNamed(value) != NONE) {
                return fail(WRONG_NAME_OR_PAGE, start);
            }
            int name = value;
            scan();
            return name;
        }

        private int knownProgram() {
            if (kind != WORD) {
                return fail(NOT_ALLOWED, start);
            }
            int program = machine.programNamed(value);
            if (program == NONE) {
                return fail(WRONG_NAME_OR_PAGE, start);
            }
            scan();
            return program;
        }

        private boolean isWord(String word) {
            int name = 0;
            for (int i = 0; i < word.length(); i++) {
                name = Bytes.withLetter(name, word.charAt(i));
            }
            return kind == WORD && value == name;
        }

        /** Keeps the first error that is told, and returns NONE. */
        private int fail(int code, int place) {
            if (error == 0) {
                error = code;
                errorPlace = place;
            }
            return NONE;
        }

        /** Reads the next token; it starts at the end of the text if there is none. */
        private void scan() {
            while (next < limit && text.at(next) == ' ') {
                next++;
            }
            start = next;
            value = 0;
            if (next >= limit) {
                kind = END;
            } else if (Bytes.isLetter(text.at(next))) {
                while (next < limit && Bytes.isLetter(text.at(next))) {
                    value = Bytes.withLetter(value, text.at(next));
                    next++;
                }
                kind = next - start <= LETTERS ? WORD : OTHER;
            } else if (Bytes.isDigit(text.at(next))) {
                while (next < limit && Bytes.isDigit(text.at(next))) {
                    value = value * 10 + (text.at(next) - '0');
                    next++;
                }
                kind = next - start <= DIGITS ? NUMBER : OTHER;
            } else {
                kind = text.at(next) == ';' ? SEMICOLON : OTHER;
                next++;
            }
        }
    }
}
