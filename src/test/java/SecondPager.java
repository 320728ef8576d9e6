import java.util.ArrayDeque;
import java.util.ArrayList;
import java.util.Comparator;
import java.util.Deque;
import java.util.List;
import java.util.TreeSet;
import java.util.regex.Matcher;
import java.util.regex.Pattern;

/**
 * The document a second time, written to be compared with and not to be quick: pages are objects, a state is copied
 * whole for each change and for each look at what would be, and nothing is counted that can be looked up.
 */
final class SecondPager {
    static final int NONE = -1;

    private static final class Program {
        String name;
        int price;
        int pages;
        int bluff;
        int credit;
        int trust = 50;
        int faults;
        int lies;
        boolean ended;
    }

    private static final class Page {
        Program program;
        int programNumber;
        int number;
        int frame = NONE;
        int used;
        boolean pinned;
        boolean sold;
        int soldAt;
        int paid;

        int key() {
            return 12 * programNumber + number;
        }
    }

    private static final class Wrong extends Exception {
        private static final long serialVersionUID = 1;
        final int code;
        final int place;

        Wrong(int code, int place) {
            this.code = code;
            this.place = place;
        }
    }

    private static final class State {
        int frames;
        int idle;
        int flight;
        int warranty;
        int lie;
        int time;
        int touches;
        int faults;
        int faultsThatStalled;
        int stalls;
        int copies;
        int bought;
        int taken;
        int refunds;
        int lies;
        final List<Program> programs = new ArrayList<>();
        final List<Page> pages = new ArrayList<>();
        // A frame is in flight if no page is in it and the time is not yet this one.
        int[] until;
        boolean[] dirty;
        final int[] watched = {NONE, NONE, NONE, NONE, NONE, NONE};

        State copy() {
            State copy = new State();
            copy.frames = frames;
            copy.idle = idle;
            copy.flight = flight;
            copy.warranty = warranty;
            copy.lie = lie;
            copy.time = time;
            copy.touches = touches;
            copy.faults = faults;
            copy.faultsThatStalled = faultsThatStalled;
            copy.stalls = stalls;
            copy.copies = copies;
            copy.bought = bought;
            copy.taken = taken;
            copy.refunds = refunds;
            copy.lies = lies;
            for (Program program : programs) {
                Program its = new Program();
                its.name = program.name;
                its.price = program.price;
                its.pages = program.pages;
                its.bluff = program.bluff;
                its.credit = program.credit;
                its.trust = program.trust;
                its.faults = program.faults;
                its.lies = program.lies;
                its.ended = program.ended;
                copy.programs.add(its);
            }
            for (Page page : pages) {
                Page its = copy.newPage(page.programNumber, page.number);
                its.frame = page.frame;
                its.used = page.used;
                its.pinned = page.pinned;
                its.sold = page.sold;
                its.soldAt = page.soldAt;
                its.paid = page.paid;
            }
            copy.until = until.clone();
            copy.dirty = dirty.clone();
            System.arraycopy(watched, 0, copy.watched, 0, watched.length);
            return copy;
        }

        Page newPage(int program, int number) {
            Page page = new Page();
            page.program = programs.get(program);
            page.programNumber = program;
            page.number = number;
            pages.add(page);
            return page;
        }

        Page page(int program, int number) {
            for (Page page : pages) {
                if (page.programNumber == program && page.number == number) {
                    return page;
                }
            }
            throw new IndexOutOfBoundsException();
        }

        List<Page> inside(int frame) {
            List<Page> inside = new ArrayList<>();
            for (Page page : pages) {
                if (page.frame == frame) {
                    inside.add(page);
                }
            }
            return inside;
        }

        boolean isFree(int frame) {
            return inside(frame).isEmpty() && time >= until[frame];
        }

        int freeFrames() {
            int free = 0;
            for (int frame = 0; frame < frames; frame++) {
                free += isFree(frame) ? 1 : 0;
            }
            return free;
        }

        int neededFrame() {
            for (int frame = 0; frame < frames; frame++) {
                if (isFree(frame)) {
                    return frame;
                }
            }
            return NONE;
        }

        boolean shares(Page page) {
            return page.frame != NONE && inside(page.frame).size() >= 2;
        }

        int price(Page page) {
            return page.program.price + (dirty[page.frame] ? 2 : 0);
        }

        boolean canGo(Page page) {
            return page.frame != NONE && !page.program.ended && !shares(page) && !page.pinned;
        }

        float worth(Page page) {
            return (float) (price(page) * 100) / (float) page.program.trust;
        }

        List<Page> offers() {
            List<Page> offers = new ArrayList<>();
            for (Page page : pages) {
                if (canGo(page) && time - page.used + page.program.bluff >= idle) {
                    offers.add(page);
                }
            }
            offers.sort(Comparator.comparing(this::worth).thenComparing(page -> page.used)
                    .thenComparing(page -> page.programNumber).thenComparing(page -> page.number));
            return offers;
        }

        void comesInto(Page page, int frame) {
            page.frame = frame;
            until[frame] = 0;
        }

        void leaves(Page page, boolean atOnce) {
            int frame = page.frame;
            page.frame = NONE;
            if (inside(frame).isEmpty()) {
                until[frame] = dirty[frame] && !atOnce ? time + flight : 0;
                dirty[frame] = false;
            }
        }

        int touch(Page page, boolean write) {
            if (page.frame == NONE) {
                return fault(page, write);
            }
            int answer = 0;
            if (write && shares(page)) {
                int frame = neededFrame();
                if (frame == NONE) {
                    stalls++;
                    return 5;
                }
                leaves(page, false);
                comesInto(page, frame);
                copies++;
                answer = 1;
            }
            touches++;
            page.used = time;
            dirty[page.frame] |= write;
            return answer;
        }

        private int fault(Page page, boolean write) {
            faults++;
            page.program.faults++;
            int frame = neededFrame();
            if (frame == NONE) {
                stalls++;
                faultsThatStalled++;
                return 5;
            }
            comesInto(page, frame);
            page.used = time;
            dirty[frame] = write;
            touches++;
            if (!page.sold) {
                return 2;
            }
            page.sold = false;
            int age = time - page.soldAt;
            if (age >= warranty) {
                page.program.trust = Math.min(100, page.program.trust + 1);
                return 2;
            }
            page.program.credit -= page.paid;
            refunds++;
            if (age >= lie) {
                return 3;
            }
            lies++;
            page.program.lies++;
            page.program.trust = Math.max(1, page.program.trust - 10);
            return 4;
        }

        int ask(int wanted) {
            List<Page> offers = offers();
            int buys = Math.min(wanted, offers.size());
            for (Page page : offers.subList(0, buys)) {
                page.sold = true;
                page.soldAt = time;
                page.paid = price(page);
                page.program.credit += page.paid;
                leaves(page, false);
            }
            bought += buys;
            return buys;
        }

        int framesOf(int program) {
            TreeSet<Integer> held = new TreeSet<>();
            for (Page page : pages) {
                if (page.programNumber == program && page.frame != NONE) {
                    held.add(page.frame);
                }
            }
            return held.size();
        }

        Page takeOne() {
            Page victim = null;
            for (Page page : pages) {
                if (canGo(page) && (victim == null || isBefore(page, victim))) {
                    victim = page;
                }
            }
            if (victim != null) {
                leaves(victim, true);
                victim.program.credit += victim.program.price * 3;
                taken++;
            }
            return victim;
        }

        private boolean isBefore(Page page, Page other) {
            int held = framesOf(page.programNumber);
            int othersHeld = framesOf(other.programNumber);
            if (held != othersHeld) {
                return held > othersHeld;
            }
            if (page.programNumber != other.programNumber) {
                return page.programNumber < other.programNumber;
            }
            return page.used != other.used ? page.used < other.used : page.number < other.number;
        }
    }

    private final StringBuilder input = new StringBuilder();
    private final Deque<State> history = new ArrayDeque<>();
    private final State[] saved = new State[2];
    private State now;
    private String text = "";
    private int code;
    private int place = NONE;

    // ---- input

    int append(int a, int b, int c, int d, int e) {
        if (input.length() > 580) {
            return NONE;
        }
        for (int word : new int[] {a, b, c, d, e}) {
            for (int i = 3; i >= 0; i--) {
                input.append((char) (word >>> 8 * i & 0xff));
            }
        }
        return input.length();
    }

    int load(int n) {
        index(n >= 0 && n <= input.length());
        String parsed = input.substring(0, n);
        input.setLength(0);
        State state;
        try {
            state = parse(parsed);
        } catch (Wrong wrong) {
            code = wrong.code;
            place = wrong.place;
            throw new IllegalArgumentException();
        }
        code = 0;
        place = NONE;
        now = state;
        history.clear();
        saved[0] = null;
        saved[1] = null;
        return now.programs.size();
    }

    int parseError() {
        return code;
    }

    int errorPosition() {
        return place;
    }

    int buffered() {
        return input.length();
    }

    int find(int n) {
        loaded();
        index(n >= 0 && n <= input.length());
        String name = input.substring(0, n);
        input.setLength(0);
        for (int program = 0; program < now.programs.size(); program++) {
            if (now.programs.get(program).name.equals(name)) {
                return program;
            }
        }
        return NONE;
    }

    // ---- parsing: a list of tokens first, then line by line

    private static final class Token {
        final String text;
        final int place;

        Token(String text, int place) {
            this.text = text;
            this.place = place;
        }

        boolean isWord() {
            return text.matches("[a-z]{1,6}");
        }

        boolean isNumber() {
            return text.matches("[0-9]{1,3}");
        }

        Wrong wrong(int code) {
            return new Wrong(code, place);
        }

        int number(int least, int most) throws Wrong {
            if (!isNumber()) {
                throw wrong(1);
            }
            int number = Integer.parseInt(text);
            if (number < least || number > most) {
                throw wrong(2);
            }
            return number;
        }
    }

    private static State parse(String all) throws Wrong {
        Deque<Token> tokens = new ArrayDeque<>();
        Matcher matcher = Pattern.compile("[a-z]+|[0-9]+|[^ ]", Pattern.DOTALL).matcher(all);
        while (matcher.find()) {
            tokens.add(new Token(matcher.group(), matcher.start()));
        }
        tokens.add(new Token("", all.length()));
        State state = new State();
        expect(tokens.poll(), "frames");
        state.frames = next(tokens).number(2, 64);
        state.idle = next(tokens).number(0, 200);
        state.flight = next(tokens).number(0, 20);
        state.warranty = next(tokens).number(0, 200);
        state.lie = next(tokens).number(0, state.warranty);
        state.until = new int[state.frames];
        state.dirty = new boolean[state.frames];
        while (!tokens.peek().text.isEmpty()) {
            expect(tokens.poll(), ";");
            line(state, tokens);
        }
        return state;
    }

    /** The end of the text is never taken away, as nothing that is right comes behind it. */
    private static Token next(Deque<Token> tokens) {
        return tokens.size() > 1 ? tokens.poll() : tokens.peek();
    }

    private static void expect(Token token, String text) throws Wrong {
        if (!token.text.equals(text)) {
            throw token.wrong(1);
        }
    }

    private static void line(State state, Deque<Token> tokens) throws Wrong {
        Token first = next(tokens);
        switch (first.text) {
            case "run":
                if (state.programs.size() == 6) {
                    throw first.wrong(4);
                }
                runLine(state, tokens);
                break;
            case "in":
                int in = program(state, next(tokens));
                do {
                    putIn(state, in, next(tokens));
                } while (tokens.peek().text.matches("[0-9]+"));
                break;
            case "pin":
                int pins = program(state, next(tokens));
                Token token = next(tokens);
                Page page = state.page(pins, token.number(0, state.programs.get(pins).pages - 1));
                if (page.pinned) {
                    throw token.wrong(3);
                }
                page.pinned = true;
                break;
            default:
                throw first.wrong(1);
        }
    }

    private static void runLine(State state, Deque<Token> tokens) throws Wrong {
        Program program = new Program();
        Token name = next(tokens);
        if (!name.isWord()) {
            throw name.wrong(1);
        }
        for (Program other : state.programs) {
            if (other.name.equals(name.text)) {
                throw name.wrong(3);
            }
        }
        program.name = name.text;
        program.price = next(tokens).number(1, 99);
        program.pages = next(tokens).number(1, 12);
        if (tokens.peek().text.equals("bluff")) {
            tokens.poll();
            program.bluff = next(tokens).number(0, 99);
        }
        state.programs.add(program);
        for (int number = 0; number < program.pages; number++) {
            state.newPage(state.programs.size() - 1, number);
        }
    }

    private static int program(State state, Token token) throws Wrong {
        if (!token.isWord()) {
            throw token.wrong(1);
        }
        for (int program = 0; program < state.programs.size(); program++) {
            if (state.programs.get(program).name.equals(token.text)) {
                return program;
            }
        }
        throw token.wrong(3);
    }

    private static void putIn(State state, int program, Token token) throws Wrong {
        Page page = state.page(program, token.number(0, state.programs.get(program).pages - 1));
        if (page.frame != NONE) {
            throw token.wrong(3);
        }
        if (state.neededFrame() == NONE) {
            throw token.wrong(4);
        }
        state.comesInto(page, state.neededFrame());
    }

    // ---- what a call needs

    private static void index(boolean holds) {
        if (!holds) {
            throw new IndexOutOfBoundsException();
        }
    }

    private static void argument(boolean holds) {
        if (!holds) {
            throw new IllegalArgumentException();
        }
    }

    private void loaded() {
        if (now == null) {
            throw new IllegalStateException();
        }
    }

    private Program its(int program) {
        loaded();
        index(program >= 0 && program < now.programs.size());
        return now.programs.get(program);
    }

    private Page its(int program, int page) {
        its(program);
        return now.page(program, page);
    }

    private void change() {
        history.push(now.copy());
        if (history.size() == 9) {
            history.removeLast();
        }
    }

    // ---- what there is

    int count(int what) {
        loaded();
        argument(what >= 0 && what <= 15);
        int held = 0;
        int shared = 0;
        for (int frame = 0; frame < now.frames; frame++) {
            held += now.inside(frame).isEmpty() ? 0 : 1;
            shared += now.inside(frame).size() > 1 ? 1 : 0;
        }
        int live = 0;
        for (Program program : now.programs) {
            live += program.ended ? 0 : 1;
        }
        int flying = now.frames - now.freeFrames() - held;
        return new int[] {now.programs.size(), live, now.freeFrames(), held, flying, now.time, now.touches, now.faults,
            now.stalls, now.copies, now.bought, now.taken, now.refunds, now.lies, now.offers().size(), shared}[what];
    }

    int setting(int what) {
        loaded();
        argument(what >= 0 && what <= 4);
        return new int[] {now.frames, now.idle, now.flight, now.warranty, now.lie}[what];
    }

    int program(int number, int what) {
        Program program = its(number);
        argument(what >= 0 && what <= 11);
        int in = 0;
        int offers = 0;
        int sold = 0;
        for (Page page : now.pages) {
            if (page.program == program) {
                in += page.frame == NONE ? 0 : 1;
                offers += now.offers().contains(page) ? 1 : 0;
                sold += page.sold ? 1 : 0;
            }
        }
        return new int[] {program.price, program.pages, program.bluff, program.credit, program.trust, in,
            now.framesOf(number), offers, program.faults, program.lies, program.ended ? 1 : 0, sold}[what];
    }

    int page(int program, int number, int what) {
        Page page = its(program, number);
        argument(what >= 0 && what <= 8);
        return new int[] {page.frame, page.used, page.pinned ? 1 : 0, now.shares(page) ? 1 : 0, page.sold ? 1 : 0,
            page.sold ? page.soldAt : NONE, page.sold ? page.paid : NONE, now.offers().contains(page) ? 1 : 0,
            page.frame == NONE ? NONE : now.price(page)}[what];
    }

    int frame(int frame, int what) {
        loaded();
        index(frame >= 0 && frame < now.frames);
        argument(what >= 0 && what <= 5);
        List<Page> inside = now.inside(frame);
        int state = !inside.isEmpty() ? 1 : now.isFree(frame) ? 0 : 2;
        return new int[] {state, now.dirty[frame] ? 1 : 0, state == 2 ? now.until[frame] : NONE, inside.size(),
            state == 1 ? inside.get(0).programNumber : NONE, state == 1 ? inside.get(0).number : NONE}[what];
    }

    // ---- offers and looks

    int offer(int index, int what) {
        loaded();
        index(index >= 0 && index < now.offers().size());
        argument(what >= 0 && what <= 2);
        Page page = now.offers().get(index);
        return what == 0 ? page.programNumber : what == 1 ? page.number : now.price(page);
    }

    float worth(int index) {
        loaded();
        index(index >= 0 && index < now.offers().size());
        return now.worth(now.offers().get(index));
    }

    int costOf(int pages) {
        loaded();
        argument(pages >= 1 && pages <= 72);
        int cost = 0;
        for (Page page : now.offers()) {
            cost += pages-- > 0 ? now.price(page) : 0;
        }
        return cost;
    }

    int nextFree() {
        loaded();
        int least = Integer.MAX_VALUE;
        for (int frame = 0; frame < now.frames; frame++) {
            least = frame(frame, 0) == 2 ? Math.min(least, now.until[frame]) : least;
        }
        return least == Integer.MAX_VALUE ? NONE : least;
    }

    int idlest() {
        loaded();
        return now.pages.stream().filter(page -> page.frame != NONE).min(Comparator.comparing(page -> page.used))
                .map(Page::key).orElse(NONE);
    }

    int leastTrusted() {
        loaded();
        return now.programs.stream().filter(program -> !program.ended)
                .min(Comparator.comparing(program -> program.trust)).map(now.programs::indexOf).orElse(NONE);
    }

    int richest() {
        loaded();
        return now.programs.stream().min(Comparator.comparing(program -> -program.credit))
                .map(now.programs::indexOf).orElse(NONE);
    }

    int priceStep(int price) {
        loaded();
        argument(price >= 0 && price <= 200);
        return now.offers().stream().mapToInt(now::price).filter(its -> its > price).min().orElse(NONE);
    }

    int sharers(int program, int number) {
        Page page = its(program, number);
        int set = 0;
        for (Page other : now.pages) {
            set |= page.frame != NONE && other.frame == page.frame ? 1 << other.programNumber : 0;
        }
        return set;
    }

    float hitShare() {
        loaded();
        int hits = now.touches - (now.faults - now.faultsThatStalled);
        return now.touches == 0 ? 0.0f : (float) hits / (float) now.touches;
    }

    double meanTrust() {
        loaded();
        return now.programs.stream().filter(program -> !program.ended).mapToInt(program -> program.trust).average()
                .orElse(0.0);
    }

    int written(int program) {
        its(program);
        int written = 0;
        for (int frame = 0; frame < now.frames; frame++) {
            boolean holds = now.inside(frame).stream().anyMatch(page -> page.programNumber == program);
            written += holds && now.dirty[frame] ? 1 : 0;
        }
        return written;
    }

    // ---- what would be

    int would(int program, int page, boolean write) {
        argument(!its(program, page).program.ended);
        State then = now.copy();
        return then.touch(then.page(program, page), write);
    }

    int freeIn(int ticks) {
        loaded();
        argument(ticks >= 0 && ticks <= 200);
        State then = now.copy();
        then.time += ticks;
        return then.freeFrames();
    }

    int offersIn(int ticks) {
        loaded();
        argument(ticks >= 0 && ticks <= 200);
        State then = now.copy();
        then.time += ticks;
        return then.offers().size();
    }

    int ticksTo(int frames) {
        loaded();
        argument(frames >= 0 && frames <= now.frames);
        State then = now.copy();
        for (int ticks = 0; ticks <= 300; ticks++) {
            if (then.freeFrames() >= frames) {
                return ticks;
            }
            then.time++;
        }
        return NONE;
    }

    int creditIf(int program, int pages) {
        its(program);
        argument(pages >= 1 && pages <= 72);
        State then = now.copy();
        then.ask(pages);
        return then.programs.get(program).credit;
    }

    int victim(int pages) {
        loaded();
        argument(pages >= 1 && pages <= 72);
        State then = now.copy();
        Page last = null;
        for (int i = 0; i < pages; i++) {
            last = then.takeOne();
        }
        return last == null ? NONE : last.key();
    }

    int leastPrice(int program) {
        its(program);
        State then = now.copy();
        for (int price = 1; price <= 99; price++) {
            then.programs.get(program).price = price;
            List<Page> offers = then.offers();
            if (offers.isEmpty() || offers.get(0).programNumber != program) {
                return price;
            }
        }
        return NONE;
    }

    // ---- texts

    int writeProgram(int number) {
        Program program = its(number);
        StringBuilder line = new StringBuilder(program.name).append(' ');
        for (Page page : now.pages) {
            if (page.program == program) {
                boolean isIn = page.frame != NONE;
                line.append(!isIn ? "o" : now.shares(page) ? "s" : now.dirty[page.frame] ? "d" : "i");
                line.append(page.pinned ? "!" : "").append(page.sold ? "*" : "");
            }
        }
        text = line.append(program.ended ? "x" : "").toString();
        return text.length();
    }

    int writeFrames() {
        loaded();
        StringBuilder line = new StringBuilder();
        for (int frame = 0; frame < now.frames; frame++) {
            int inside = now.inside(frame).size();
            line.append(now.isFree(frame) ? "." : inside == 0 ? "~" : inside > 9 ? "9" : "" + inside);
        }
        text = line.toString();
        return text.length();
    }

    int writeOffers() {
        loaded();
        List<String> each = new ArrayList<>();
        for (Page page : now.offers()) {
            each.add(page.program.name + "." + page.number + ":" + now.price(page));
        }
        text = String.join(" ", each);
        return text.length();
    }

    int textByte(int i) {
        index(i >= 0 && i < text.length());
        return text.charAt(i);
    }

    // ---- changes

    int touch(int program, int page, boolean write) {
        argument(!its(program, page).program.ended);
        change();
        return now.touch(its(program, page), write);
    }

    int ask(int pages) {
        loaded();
        argument(pages >= 1 && pages <= 72);
        change();
        return now.ask(pages);
    }

    int take(int pages) {
        loaded();
        argument(pages >= 1 && pages <= 72);
        change();
        int before = now.taken;
        for (int i = 0; i < pages; i++) {
            now.takeOne();
        }
        return now.taken - before;
    }

    int tick(int ticks) {
        loaded();
        argument(ticks >= 1 && ticks <= 200 && now.time + ticks <= 9999);
        change();
        int before = now.freeFrames();
        now.time += ticks;
        return now.freeFrames() - before;
    }

    int share(int program, int number, int other, int its) {
        its(program, number);
        its(other, its);
        argument(!its(program).ended && !its(other).ended);
        argument(its(program, number).frame != NONE && its(other, its).frame == NONE);
        change();
        Page comer = its(other, its);
        comer.frame = its(program, number).frame;
        comer.used = now.time;
        comer.sold = false;
        return now.inside(comer.frame).size();
    }

    int drop(int program, int number) {
        Page page = its(program, number);
        argument(!page.program.ended && page.frame != NONE && !page.pinned);
        change();
        int frame = page.frame;
        now.leaves(page, false);
        return now.inside(frame).size();
    }

    boolean pin(int program, int number, boolean is) {
        Page page = its(program, number);
        argument(!page.program.ended);
        change();
        boolean was = page.pinned;
        page.pinned = is;
        return was;
    }

    int end(int number) {
        Program program = its(number);
        argument(!program.ended);
        change();
        int before = now.freeFrames();
        for (Page page : now.pages) {
            if (page.program == program) {
                if (page.frame != NONE) {
                    now.leaves(page, true);
                }
                page.pinned = false;
                page.sold = false;
            }
        }
        program.ended = true;
        return now.freeFrames() - before;
    }

    int setPrice(int number, int price) {
        Program program = its(number);
        argument(price >= 1 && price <= 99);
        change();
        int before = program.price;
        program.price = price;
        return before;
    }

    int trust(int number, int by) {
        Program program = its(number);
        argument(by >= -99 && by <= 99);
        change();
        program.trust = Math.min(100, Math.max(1, program.trust + by));
        return program.trust;
    }

    boolean watch(int place, int program, int number) {
        Page page = its(program, number);
        index(place >= 0 && place <= 5);
        change();
        boolean fits = now.shares(page) == (place == 4 || place == 5);
        now.watched[place] = fits ? page.key() : now.watched[place];
        return fits;
    }

    int watched(int place) {
        loaded();
        index(place >= 0 && place <= 5);
        return now.watched[place];
    }

    int unwatch() {
        loaded();
        change();
        int emptied = 0;
        for (int place = 0; place < 6; place++) {
            emptied += now.watched[place] == NONE ? 0 : 1;
            now.watched[place] = NONE;
        }
        return emptied;
    }

    int undo() {
        if (history.isEmpty()) {
            throw new IllegalStateException();
        }
        now = history.pop();
        return history.size();
    }

    int undoable() {
        return history.size();
    }

    int save(int slot) {
        loaded();
        index(slot == 0 || slot == 1);
        saved[slot] = now.copy();
        return now.time;
    }

    int restore(int slot) {
        index(slot == 0 || slot == 1);
        if (saved[slot] == null) {
            throw new IllegalStateException();
        }
        now = saved[slot].copy();
        history.clear();
        return now.time;
    }
}
