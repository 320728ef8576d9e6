import java.util.ArrayList;
import java.util.List;

/**
 * Each call that is refused, and what stays behind it: "A call of a method that throws an exception changes nothing".
 * Two objects are led the same way, and on one of them the call is refused; then both have to tell the same, to the
 * bytes in the input buffer, the text, the saved states, and each state that undo leads back to.
 */
public final class RefusedTest {
    private static final String MACHINE = "frames 6 2 4 9 4;run a 5 4;run b 3 2 bluff 9;run c 1 1;run gone 2 3"
            + ";in a 0 1;in b 0;in c 0;in gone 0;pin a 1";
    private static final int LEAST = Integer.MIN_VALUE;
    private static final int MOST = Integer.MAX_VALUE;

    private interface Call {
        void on(SparePager pager);
    }

    private interface Maker {
        SparePager make();
    }

    private static final class Refusal {
        final String name;
        final Class<?> kind;
        final Call call;

        Refusal(String name, Class<?> kind, Call call) {
            this.name = name;
            this.kind = kind;
            this.call = call;
        }
    }

    private static final List<Refusal> LOADED = new ArrayList<>();
    private static final List<Refusal> NOT_LOADED = new ArrayList<>();

    private RefusedTest() {
    }

    public static void main(String[] args) {
        input();
        looks();
        whatWouldBe();
        texts();
        changes();
        sharesAndWatches();
        undoAndSlots();
        notLoaded();
        for (Refusal refusal : LOADED) {
            keepsAll(refusal, RefusedTest::rich);
            keepsAll(refusal, RefusedTest::richBehindAnError);
        }
        for (Refusal refusal : NOT_LOADED) {
            keepsAll(refusal, RefusedTest::empty);
            keepsAll(refusal, RefusedTest::emptyBehindAnError);
        }
        refusedLoadEmptiesTheBuffer();
        Due.end();
    }

    // ---- objects on which calls are refused

    /** Something of everything: shared, dirty, sold, pinned, in flight, ended, watched, saved, written, buffered. */
    private static SparePager rich() {
        SparePager pager = Due.loaded(MACHINE);
        pager.end(3);
        pager.tick(3);
        pager.touch(0, 0, true);
        pager.share(0, 0, 1, 1);
        pager.touch(0, 2, true);
        pager.watch(1, 0, 2);
        pager.save(0);
        pager.drop(0, 2);
        pager.ask(1);
        pager.touch(0, 3, true);
        pager.watch(4, 1, 1);
        pager.trust(0, 7);
        pager.writeProgram(0);
        Due.feed(pager, "frames 3 1 0 0 0;run kept 9 9;in kept 8");
        return pager;
    }

    private static SparePager richBehindAnError() {
        SparePager pager = rich();
        Due.refuses("an error", Due.ARGUMENT, () -> pager.load(14));
        Due.feed(pager, "gone");
        return pager;
    }

    private static SparePager empty() {
        SparePager pager = new SparePager();
        Due.feed(pager, "frames 3 1 0 0 0;run kept 9 9;in kept 8");
        return pager;
    }

    private static SparePager emptyBehindAnError() {
        SparePager pager = new SparePager();
        Due.feed(pager, "frames 3 1 0 0 1");
        Due.refuses("an error", Due.ARGUMENT, () -> pager.load(16));
        return pager;
    }

    // ---- comparing

    private static void keepsAll(Refusal refusal, Maker maker) {
        for (int way = 0; way < 3; way++) {
            SparePager refused = maker.make();
            SparePager other = maker.make();
            Due.refuses(refusal.name, refusal.kind, () -> refusal.call.on(refused));
            Due.isText("told behind " + refusal.name, all(refused, way), all(other, way));
        }
    }

    /** All that an object tells; it is used up by that, in one of three ways. */
    private static String all(SparePager pager, int way) {
        StringBuilder all = new StringBuilder(Due.told(pager)).append('\n').append(text(pager)).append('\n');
        switch (way) {
            case 0 -> {
                while (pager.undoable() > 0) {
                    all.append(pager.undo()).append('\n').append(Due.machine(pager)).append('\n');
                }
            }
            case 1 -> {
                for (int slot = 0; slot <= 1; slot++) {
                    all.append(restored(pager, slot)).append('\n').append(Due.machine(pager)).append('\n');
                }
            }
            default -> {
                try {
                    all.append(pager.load(Math.min(39, pager.buffered())));
                } catch (IllegalArgumentException e) {
                    all.append("an error");
                }
                all.append('\n').append(Due.told(pager)).append('\n').append(text(pager));
            }
        }
        return all.toString();
    }

    private static String restored(SparePager pager, int slot) {
        try {
            return "restored at " + pager.restore(slot);
        } catch (IllegalStateException e) {
            return "nothing saved";
        }
    }

    private static String text(SparePager pager) {
        StringBuilder text = new StringBuilder();
        try {
            for (int i = 0; i < 2000; i++) {
                text.append((char) pager.textByte(i));
            }
        } catch (IndexOutOfBoundsException e) {
            text.append('|');
        }
        return text.toString();
    }

    // ---- the calls

    private static void index(String name, Call call) {
        LOADED.add(new Refusal(name, Due.INDEX, call));
    }

    private static void argument(String name, Call call) {
        LOADED.add(new Refusal(name, Due.ARGUMENT, call));
    }

    private static void state(String name, Call call) {
        LOADED.add(new Refusal(name, Due.STATE, call));
    }

    private static void input() {
        for (int n : new int[] {-1, LEAST, 601, MOST}) {
            index("3: load of " + n, pager -> pager.load(n));
            index("7: find of " + n, pager -> pager.find(n));
        }
        index("3: load of one too many", pager -> pager.load(pager.buffered() + 1));
        index("7: find of one too many", pager -> pager.find(pager.buffered() + 1));
    }

    private static void looks() {
        for (int far : new int[] {-1, LEAST, 16, MOST}) {
            argument("8: count " + far, pager -> pager.count(far));
            argument("9: setting " + far, pager -> pager.setting(far == 16 ? 5 : far));
            argument("10: what " + far, pager -> pager.program(0, far == 16 ? 12 : far));
            argument("11: what " + far, pager -> pager.page(0, 0, far == 16 ? 9 : far));
            argument("12: what " + far, pager -> pager.frame(0, far == 16 ? 6 : far));
            index("10: program " + far, pager -> pager.program(far == 16 ? 4 : far, 0));
            index("11: program " + far, pager -> pager.page(far == 16 ? 4 : far, 0, 0));
            index("11: page " + far, pager -> pager.page(1, far == 16 ? 2 : far, 0));
            index("12: frame " + far, pager -> pager.frame(far == 16 ? 6 : far, 0));
            index("13: offer " + far, pager -> pager.offer(far == 16 ? pager.count(14) : far, 0));
            index("14: worth " + far, pager -> pager.worth(far == 16 ? pager.count(14) : far));
            index("21: program " + far, pager -> pager.sharers(far == 16 ? 4 : far, 0));
            index("21: page " + far, pager -> pager.sharers(1, far == 16 ? 2 : far));
            index("24: program " + far, pager -> pager.written(far == 16 ? 4 : far));
        }
        for (int pages : new int[] {0, -1, 73, LEAST, MOST}) {
            argument("15: costOf " + pages, pager -> pager.costOf(pages));
        }
        for (int price : new int[] {-1, 201, LEAST, MOST}) {
            argument("20: priceStep " + price, pager -> pager.priceStep(price));
        }
        index("10: that comes first", pager -> pager.program(4, 12));
        index("11: that comes first", pager -> pager.page(0, 4, 9));
        index("12: that comes first", pager -> pager.frame(6, 6));
        index("13: that comes first", pager -> pager.offer(99, 3));
        argument("13: what -1", pager -> pager.offer(0, -1));
        argument("13: what 3", pager -> pager.offer(0, 3));
    }

    private static void whatWouldBe() {
        for (boolean write : new boolean[] {false, true}) {
            index("25: program -1", pager -> pager.would(-1, 0, write));
            index("25: program 4", pager -> pager.would(4, 0, write));
            index("25: page -1", pager -> pager.would(0, -1, write));
            index("25: page 4", pager -> pager.would(0, 4, write));
            index("25: no such page of an ended one", pager -> pager.would(3, 3, write));
            argument("25: ended", pager -> pager.would(3, 0, write));
        }
        for (int ticks : new int[] {-1, 201, LEAST, MOST}) {
            argument("26: freeIn " + ticks, pager -> pager.freeIn(ticks));
            argument("27: offersIn " + ticks, pager -> pager.offersIn(ticks));
        }
        for (int frames : new int[] {-1, 7, LEAST, MOST}) {
            argument("28: ticksTo " + frames, pager -> pager.ticksTo(frames));
        }
        for (int pages : new int[] {0, -1, 73, LEAST, MOST}) {
            argument("29: creditIf " + pages, pager -> pager.creditIf(0, pages));
            argument("30: victim " + pages, pager -> pager.victim(pages));
            index("29: that comes first", pager -> pager.creditIf(4, pages));
        }
        for (int program : new int[] {-1, 4, LEAST, MOST}) {
            index("29: program " + program, pager -> pager.creditIf(program, 1));
            index("31: leastPrice " + program, pager -> pager.leastPrice(program));
        }
    }

    private static void texts() {
        for (int program : new int[] {-1, 4, LEAST, MOST}) {
            index("32: writeProgram " + program, pager -> pager.writeProgram(program));
        }
        for (int i : new int[] {-1, 1024, LEAST, MOST}) {
            index("35: textByte " + i, pager -> pager.textByte(i));
        }
        index("35: behind the text", pager -> pager.textByte(text(pager).length() - 1));
    }

    private static void changes() {
        for (int program : new int[] {-1, 4, 6, LEAST, MOST}) {
            index("36: program " + program, pager -> pager.touch(program, 0, true));
            index("41: program " + program, pager -> pager.drop(program, 0));
            index("42: program " + program, pager -> pager.pin(program, 0, true));
            index("43: program " + program, pager -> pager.end(program));
            index("44: program " + program, pager -> pager.setPrice(program, 0));
            index("45: program " + program, pager -> pager.trust(program, 100));
        }
        for (int page : new int[] {-1, 4, 12, LEAST, MOST}) {
            index("36: page " + page, pager -> pager.touch(0, page, false));
            index("41: page " + page, pager -> pager.drop(0, page));
            index("42: page " + page, pager -> pager.pin(0, page, true));
            index("36: page of an ended one " + page, pager -> pager.touch(3, page, false));
            index("41: page of an ended one " + page, pager -> pager.drop(3, page));
            index("42: page of an ended one " + page, pager -> pager.pin(3, page, false));
        }
        argument("36: ended", pager -> pager.touch(3, 0, true));
        argument("41: ended", pager -> pager.drop(3, 0));
        argument("42: ended", pager -> pager.pin(3, 0, true));
        argument("43: ended", pager -> pager.end(3));
        argument("41: out", pager -> pager.drop(0, 2));
        argument("41: pinned", pager -> pager.drop(0, 1));
        for (int far : new int[] {0, -1, 73, LEAST, MOST}) {
            argument("37: ask " + far, pager -> pager.ask(far));
            argument("38: take " + far, pager -> pager.take(far));
            argument("39: tick " + far, pager -> pager.tick(far == 73 ? 201 : far));
            argument("44: price " + far, pager -> pager.setPrice(0, far == 73 ? 100 : far));
        }
        for (int by : new int[] {-100, 100, LEAST, MOST}) {
            argument("45: by " + by, pager -> pager.trust(0, by));
        }
    }

    private static void sharesAndWatches() {
        for (int far : new int[] {-1, 4, 12, LEAST, MOST}) {
            index("40: program " + far, pager -> pager.share(far, 0, 0, 2));
            index("40: page " + far, pager -> pager.share(0, far, 0, 2));
            index("40: other " + far, pager -> pager.share(0, 0, far, 0));
            index("40: its " + far, pager -> pager.share(0, 0, 0, far));
            index("40: its of an ended one " + far, pager -> pager.share(0, 0, 3, far));
            index("46: program " + far, pager -> pager.watch(0, far, 0));
            index("46: page " + far, pager -> pager.watch(0, 0, far));
        }
        argument("40: the first one has ended", pager -> pager.share(3, 0, 0, 2));
        argument("40: the other one has ended", pager -> pager.share(0, 0, 3, 0));
        argument("40: the first page is out", pager -> pager.share(0, 2, 0, 2));
        argument("40: the other one is in", pager -> pager.share(0, 0, 0, 1));
        argument("40: the same page", pager -> pager.share(0, 0, 0, 0));
        for (int place : new int[] {-1, 6, LEAST, MOST}) {
            index("46: place " + place, pager -> pager.watch(place, 0, 0));
            index("47: place " + place, pager -> pager.watched(place));
        }
    }

    private static void undoAndSlots() {
        for (int slot : new int[] {-1, 2, LEAST, MOST}) {
            index("51: slot " + slot, pager -> pager.save(slot));
            index("52: slot " + slot, pager -> pager.restore(slot));
        }
        state("52: nothing saved", pager -> pager.restore(1));
    }

    private static void none(String name, Call call) {
        NOT_LOADED.add(new Refusal(name + " without a machine", Due.STATE, call));
    }

    /** "IllegalStateException is thrown if no text was loaded": with arguments that would be right, too. */
    private static void notLoaded() {
        none("7: find", pager -> pager.find(1));
        none("7: find", pager -> pager.find(-1));
        for (int number : new int[] {0, 1, -1, MOST}) {
            none("8: count", pager -> pager.count(number));
            none("9: setting", pager -> pager.setting(number));
            none("10: program", pager -> pager.program(number, 0));
            none("11: page", pager -> pager.page(0, number, 0));
            none("12: frame", pager -> pager.frame(number, 0));
            none("13: offer", pager -> pager.offer(number, 0));
            none("14: worth", pager -> pager.worth(number));
            none("15: costOf", pager -> pager.costOf(number));
            none("20: priceStep", pager -> pager.priceStep(number));
            none("21: sharers", pager -> pager.sharers(0, number));
            none("24: written", pager -> pager.written(number));
            none("25: would", pager -> pager.would(0, number, true));
            none("26: freeIn", pager -> pager.freeIn(number));
            none("27: offersIn", pager -> pager.offersIn(number));
            none("28: ticksTo", pager -> pager.ticksTo(number));
            none("29: creditIf", pager -> pager.creditIf(number, 1));
            none("30: victim", pager -> pager.victim(number));
            none("31: leastPrice", pager -> pager.leastPrice(number));
            none("32: writeProgram", pager -> pager.writeProgram(number));
            none("36: touch", pager -> pager.touch(number, 0, true));
            none("37: ask", pager -> pager.ask(number));
            none("38: take", pager -> pager.take(number));
            none("39: tick", pager -> pager.tick(number));
            none("40: share", pager -> pager.share(0, 0, number, 1));
            none("41: drop", pager -> pager.drop(number, 0));
            none("42: pin", pager -> pager.pin(0, number, true));
            none("43: end", pager -> pager.end(number));
            none("44: setPrice", pager -> pager.setPrice(0, number));
            none("45: trust", pager -> pager.trust(number, 0));
            none("46: watch", pager -> pager.watch(number, 0, 0));
            none("47: watched", pager -> pager.watched(number));
            none("51: save", pager -> pager.save(number));
        }
        none("16: nextFree", SparePager::nextFree);
        none("17: idlest", SparePager::idlest);
        none("18: leastTrusted", SparePager::leastTrusted);
        none("19: richest", SparePager::richest);
        none("22: hitShare", SparePager::hitShare);
        none("23: meanTrust", SparePager::meanTrust);
        none("33: writeFrames", SparePager::writeFrames);
        none("34: writeOffers", SparePager::writeOffers);
        none("48: unwatch", SparePager::unwatch);
        none("49: undo", SparePager::undo);
        none("52: restore", pager -> pager.restore(0));
        none("52: restore", pager -> pager.restore(1));
        for (int far : new int[] {-1, 601, LEAST, MOST}) {
            NOT_LOADED.add(new Refusal("3: load " + far, Due.INDEX, pager -> pager.load(far)));
            NOT_LOADED.add(new Refusal("35: textByte " + far, Due.INDEX, pager -> pager.textByte(far)));
            NOT_LOADED.add(new Refusal("52: restore " + far, Due.INDEX, pager -> pager.restore(far)));
        }
        NOT_LOADED.add(new Refusal("35: textByte 0", Due.INDEX, pager -> pager.textByte(0)));
    }

    /** "except that load, by IllegalArgumentException, empties the input buffer and sets parseError() ...". */
    private static void refusedLoadEmptiesTheBuffer() {
        SparePager refused = rich();
        SparePager other = rich();
        Due.refuses("3: an error", Due.ARGUMENT, () -> refused.load(14));
        Due.is("3: the buffer is empty", refused.buffered(), 0);
        Due.is("4: parseError", refused.parseError(), 1);
        Due.is("5: errorPosition", refused.errorPosition(), 14);
        Due.isText("3: the machine stays", Due.machine(refused), Due.machine(other));
        Due.isText("3: the text stays", text(refused), text(other));
        while (other.undoable() > 0) {
            Due.is("3: what can be undone stays", refused.undo(), other.undo());
            Due.isText("3: the machine before it", Due.machine(refused), Due.machine(other));
        }
        Due.is("3: what is saved stays", refused.restore(0), other.restore(0));
        Due.isText("3: the machine that was saved", Due.machine(refused), Due.machine(other));
        Due.refuses("3: the other slot", Due.STATE, () -> refused.restore(1));
    }
}
