/**
 * The sentences that name a boundary of promises 8 to 31: what there is, offers and looks, and what would be. Each has
 * a test of its own, which names the promise. (What stays behind a refused call is in RefusedTest.)
 */
public final class LookEdgesTest {
    private static final int[] FAR = {Integer.MIN_VALUE, Integer.MIN_VALUE + 1, -1000, 1000, Integer.MAX_VALUE};
    private static final String SIX = "frames 64 0 5 9 4;run a 1 12;run b 1 12;run c 1 12;run d 1 12"
            + ";run e 1 12;run f 1 12";

    private interface Look {
        void at(int number);
    }

    private LookEdgesTest() {
    }

    public static void main(String[] args) {
        countWhat();
        countOfNothing();
        countOfAllThereCanBe();
        countKeepsEndedPrograms();
        countOfSharedFrames();
        settingWhat();
        settingsAtTheirBounds();
        programWhat();
        programNumbers();
        programThatHasEnded();
        programHoldsEachFrameOnce();
        pageWhat();
        pageThatIsOut();
        pageThatIsNotSold();
        pageSoldAtTheTimeNought();
        pagePriceOfASharedPage();
        frameWhat();
        frameWithoutPages();
        frameInFlight();
        frameFirstProgramAndPage();
        offerWhat();
        offerIndexes();
        worthIndexes();
        costOfPages();
        costOfAll();
        nextFreeNone();
        nextFreeIsTheSmallest();
        idlestNone();
        idlestOfSeveral();
        leastTrustedNone();
        leastTrustedOfSeveral();
        richestNone();
        richestOfSeveral();
        priceStepPrices();
        priceStepIsGreater();
        sharersOfNoneAndAll();
        hitShareWithoutTouches();
        hitShareEdges();
        meanTrustEdges();
        writtenEdges();
        wouldEachAnswer();
        wouldOfAnEndedProgram();
        freeInTicks();
        freeInAtTheLanding();
        offersInTicks();
        offersInAtIdle();
        ticksToFrames();
        ticksToNever();
        creditIfPages();
        creditIfFewerOffers();
        victimPages();
        victimNotSoMany();
        leastPriceEdges();
        leastPriceWithoutOffers();
        leastPriceOfTheOnlyOne();
        leastPriceAgainstARival();
        looksBeyondTheLastTime();
        Due.end();
    }

    /** Every number from the least to the most is taken, and those outside are refused. */
    private static void range(String what, int least, int most, Look look) {
        for (int number = least; number <= most; number++) {
            try {
                look.at(number);
            } catch (RuntimeException e) {
                Due.tell(what + " " + number + " threw " + e);
            }
        }
        Due.refuses(what + " " + (least - 1), Due.ARGUMENT, () -> look.at(least - 1));
        Due.refuses(what + " " + (most + 1), Due.ARGUMENT, () -> look.at(most + 1));
        for (int far : FAR) {
            Due.refuses(what + " " + far, Due.ARGUMENT, () -> look.at(far));
        }
    }

    private static void indexes(String what, int most, Look look) {
        for (int number = 0; number <= most; number++) {
            look.at(number);
        }
        Due.refuses(what + " -1", Due.INDEX, () -> look.at(-1));
        Due.refuses(what + " " + (most + 1), Due.INDEX, () -> look.at(most + 1));
        for (int far : FAR) {
            Due.refuses(what + " " + far, Due.INDEX, () -> look.at(far));
        }
    }

    // ---- 8: count

    private static void countWhat() {
        SparePager pager = Due.loaded("frames 2 0 0 0 0;run a 1 1");
        range("8: what", 0, 15, pager::count);
    }

    private static void countOfNothing() {
        SparePager pager = Due.loaded("frames 2 0 0 0 0");
        for (int what = 0; what <= 15; what++) {
            Due.is("8: count " + what, pager.count(what), what == 2 ? 2 : 0);
        }
    }

    /** Six programs, 72 pages in 64 frames, all of them free, held, shared, in flight. */
    private static void countOfAllThereCanBe() {
        SparePager pager = Due.loaded(SIX);
        Due.is("8: programs", pager.count(0), 6);
        Due.is("8: free", pager.count(2), 64);
        for (int row = 0; row < 64; row++) {
            pager.touch(row / 12, row % 12, true);
        }
        Due.is("8: none free", pager.count(2), 0);
        Due.is("8: held", pager.count(3), 64);
        Due.is("8: offers", pager.count(14), 64);
        Due.is("8: touches", pager.count(6), 64);
        Due.is("8: faults", pager.count(7), 64);
        for (int row = 64; row < 72; row++) {
            Due.is("8: a stall", pager.touch(5, row % 12, false), 5);
            pager.share(0, row - 64, 5, row % 12);
        }
        Due.is("8: stalls", pager.count(8), 8);
        Due.is("8: faults, stalls too", pager.count(7), 72);
        Due.is("8: touches, no stalls", pager.count(6), 64);
        Due.is("8: shared", pager.count(15), 8);
        Due.is("8: offers", pager.count(14), 56);
        Due.is("37: ask", pager.ask(72), 56);
        Due.is("8: bought", pager.count(10), 56);
        Due.is("8: in flight", pager.count(4), 56);
        Due.is("8: held", pager.count(3), 8);
        for (int row = 0; row < 8; row++) {
            pager.drop(0, row);
            pager.drop(5, 4 + row);
        }
        Due.is("8: all in flight", pager.count(4), 64);
        Due.is("8: none held", pager.count(3), 0);
        pager.tick(5);
        Due.is("8: all free", pager.count(2), 64);
        Due.is("8: none in flight", pager.count(4), 0);
    }

    /** "0 programs (ended or not), 1 those that have not ended". */
    private static void countKeepsEndedPrograms() {
        SparePager pager = Due.loaded(SIX);
        for (int program = 0; program < 6; program++) {
            Due.is("8: not ended", pager.count(1), 6 - program);
            pager.end(program);
            Due.is("8: ended or not", pager.count(0), 6);
        }
        Due.is("8: not ended", pager.count(1), 0);
    }

    /** "15 frames that are shared": from two pages on, of one program or of several. */
    private static void countOfSharedFrames() {
        SparePager pager = Due.loaded(SIX + ";in a 0 1");
        Due.is("8: none", pager.count(15), 0);
        pager.share(0, 0, 0, 2);
        Due.is("8: one", pager.count(15), 1);
        pager.share(0, 0, 1, 2);
        Due.is("8: one", pager.count(15), 1);
        pager.share(0, 1, 1, 1);
        Due.is("8: two", pager.count(15), 2);
        pager.drop(0, 0);
        Due.is("8: two", pager.count(15), 2);
        pager.drop(0, 2);
        Due.is("8: one", pager.count(15), 1);
    }

    // ---- 9: setting

    private static void settingWhat() {
        SparePager pager = Due.loaded("frames 2 0 0 0 0;run a 1 1");
        range("9: what", 0, 4, pager::setting);
    }

    private static void settingsAtTheirBounds() {
        SparePager least = Due.loaded("frames 2 0 0 0 0");
        SparePager most = Due.loaded("frames 64 200 20 200 200");
        int[] want = {64, 200, 20, 200, 200};
        for (int what = 0; what <= 4; what++) {
            Due.is("9: least " + what, least.setting(what), what == 0 ? 2 : 0);
            Due.is("9: most " + what, most.setting(what), want[what]);
        }
    }

    // ---- 10: program

    private static void programWhat() {
        SparePager pager = Due.loaded(SIX);
        range("10: what", 0, 11, what -> pager.program(5, what));
        Due.refuses("10: no such program first", Due.INDEX, () -> pager.program(6, 12));
        Due.refuses("10: no such program first", Due.INDEX, () -> pager.program(-1, -1));
    }

    private static void programNumbers() {
        SparePager pager = Due.loaded(SIX);
        indexes("10: program", 5, program -> pager.program(program, 0));
        SparePager none = Due.loaded("frames 2 0 0 0 0");
        Due.refuses("10: none at all", Due.INDEX, () -> none.program(0, 0));
    }

    /** "10 1 if it has ended, otherwise 0"; the others are told of it, too. */
    private static void programThatHasEnded() {
        SparePager pager = Due.loaded(SIX + ";in b 0 1");
        pager.ask(1);
        pager.touch(1, 0, false);
        pager.setPrice(1, 99);
        Due.is("10: not ended", pager.program(1, 10), 0);
        pager.end(1);
        int[] want = {99, 12, 0, 0, 40, 0, 0, 0, 1, 1, 1, 0};
        for (int what = 0; what <= 11; what++) {
            Due.is("10: ended, " + what, pager.program(1, what), want[what]);
        }
        Due.is("10: the next one has not", pager.program(2, 10), 0);
    }

    /** "5 its pages that are in, 6 the frames that it holds". */
    private static void programHoldsEachFrameOnce() {
        SparePager pager = Due.loaded(SIX + ";in a 0 1");
        for (int page = 2; page < 12; page++) {
            pager.share(0, page % 2, 0, page);
        }
        Due.is("10: pages", pager.program(0, 5), 12);
        Due.is("10: frames", pager.program(0, 6), 2);
        Due.is("10: frames of b", pager.program(1, 6), 0);
        pager.share(0, 0, 1, 0);
        Due.is("10: frames of b", pager.program(1, 6), 1);
        SparePager last = Due.loaded(SIX);
        for (int row = 0; row < 64; row++) {
            last.touch(row / 12, row % 12, false);
        }
        Due.is("10: frames 60 to 63", last.program(5, 6), 4);
        Due.is("10: frames 0 to 11", last.program(0, 6), 12);
    }

    // ---- 11: page

    private static void pageWhat() {
        SparePager pager = Due.loaded("frames 2 0 0 0 0;run a 1 2;in a 0");
        range("11: what", 0, 8, what -> pager.page(0, 1, what));
        Due.refuses("11: no such page first", Due.INDEX, () -> pager.page(0, 2, 9));
        Due.refuses("11: no such page first", Due.INDEX, () -> pager.page(0, -1, -1));
        Due.refuses("11: no such program first", Due.INDEX, () -> pager.page(1, 0, 9));
        indexes("11: page", 1, page -> pager.page(0, page, 0));
        indexes("11: program", 0, program -> pager.page(program, 0, 0));
    }

    /** "0 its frame (NONE if it is out) ... 8 its price, if it is in (NONE if it is out)". */
    private static void pageThatIsOut() {
        SparePager pager = Due.loaded("frames 2 0 0 0 0;run a 99 2;in a 0");
        int[] out = {-1, 0, 0, 0, 0, -1, -1, 0, -1};
        int[] in = {0, 0, 0, 0, 0, -1, -1, 1, 99};
        for (int what = 0; what <= 8; what++) {
            Due.is("11: in, " + what, pager.page(0, 0, what), in[what]);
            Due.is("11: out, " + what, pager.page(0, 1, what), out[what]);
        }
        pager.touch(0, 0, true);
        Due.is("11: dirty", pager.page(0, 0, 8), 101);
        pager.drop(0, 0);
        for (int what = 0; what <= 8; what++) {
            Due.is("11: dropped, " + what, pager.page(0, 0, what), out[what]);
        }
    }

    /** "5 the time at which it was sold and 6 what was paid for it (NONE if it is not sold)". */
    private static void pageThatIsNotSold() {
        SparePager pager = Due.loaded("frames 2 0 0 9 0;run a 99 2;in a 0");
        pager.tick(200);
        pager.touch(0, 0, true);
        pager.ask(1);
        Due.is("11: sold", pager.page(0, 0, 4), 1);
        Due.is("11: at", pager.page(0, 0, 5), 200);
        Due.is("11: for", pager.page(0, 0, 6), 101);
        pager.touch(0, 0, false);
        Due.is("11: sold", pager.page(0, 0, 4), 0);
        Due.is("11: at", pager.page(0, 0, 5), -1);
        Due.is("11: for", pager.page(0, 0, 6), -1);
    }

    /** The time 0 is a time, too. */
    private static void pageSoldAtTheTimeNought() {
        SparePager pager = Due.loaded("frames 2 0 0 9 0;run a 1 2;in a 0");
        pager.ask(1);
        Due.is("11: sold", pager.page(0, 0, 4), 1);
        Due.is("11: at", pager.page(0, 0, 5), 0);
        Due.is("11: for", pager.page(0, 0, 6), 1);
        Due.is("10: sold", pager.program(0, 11), 1);
    }

    private static void pagePriceOfASharedPage() {
        SparePager pager = Due.loaded("frames 2 0 0 9 0;run a 1 2;run b 7 1;in a 0");
        pager.share(0, 0, 1, 0);
        Due.is("11: clean", pager.page(0, 0, 8) + 10 * pager.page(1, 0, 8), 71);
        pager.undo();
        pager.touch(0, 0, true);
        pager.share(0, 0, 1, 0);
        Due.is("11: dirty", pager.page(0, 0, 8) + 10 * pager.page(1, 0, 8), 93);
        Due.is("11: shares", pager.page(0, 0, 3) + pager.page(1, 0, 3), 2);
        Due.is("11: no offers", pager.page(0, 0, 7) + pager.page(1, 0, 7), 0);
    }

    // ---- 12: frame

    private static void frameWhat() {
        SparePager pager = Due.loaded("frames 2 0 0 0 0;run a 1 2;in a 0");
        range("12: what", 0, 5, what -> pager.frame(1, what));
        indexes("12: frame", 1, frame -> pager.frame(frame, 0));
        Due.refuses("12: no such frame first", Due.INDEX, () -> pager.frame(2, 6));
        Due.refuses("12: no such frame first", Due.INDEX, () -> pager.frame(-1, -1));
        SparePager most = Due.loaded("frames 64 0 0 0 0");
        indexes("12: frame", 63, frame -> most.frame(frame, 0));
    }

    private static void frame(String what, SparePager pager, int frame, int... want) {
        for (int i = 0; i < want.length; i++) {
            Due.is("12: " + what + ", " + i, pager.frame(frame, i), want[i]);
        }
    }

    private static void frameWithoutPages() {
        SparePager pager = Due.loaded("frames 2 0 0 0 0;run a 1 2;in a 0");
        frame("held", pager, 0, 1, 0, -1, 1, 0, 0);
        frame("free", pager, 1, 0, 0, -1, 0, -1, -1);
    }

    /** "1 1 if it is held and dirty, otherwise 0, 2 the time up to which it is in flight (NONE if it is not)". */
    private static void frameInFlight() {
        SparePager pager = Due.loaded("frames 2 0 20 0 0;run a 1 2;in a 0");
        pager.touch(0, 0, true);
        frame("dirty", pager, 0, 1, 1, -1, 1, 0, 0);
        pager.drop(0, 0);
        frame("in flight", pager, 0, 2, 0, 20, 0, -1, -1);
        pager.tick(19);
        frame("in flight still", pager, 0, 2, 0, 20, 0, -1, -1);
        pager.tick(1);
        frame("free", pager, 0, 0, 0, -1, 0, -1, -1);
        pager.undo();
        frame("in flight again", pager, 0, 2, 0, 20, 0, -1, -1);
    }

    /** "4 the first program of which a page is in it ..., 5 its smallest page in it". */
    private static void frameFirstProgramAndPage() {
        SparePager pager = Due.loaded(SIX + ";in f 11");
        frame("f.11", pager, 0, 1, 0, -1, 1, 5, 11);
        pager.share(5, 11, 5, 3);
        frame("f.3", pager, 0, 1, 0, -1, 2, 5, 3);
        pager.share(5, 11, 2, 9);
        frame("c.9", pager, 0, 1, 0, -1, 3, 2, 9);
        pager.share(5, 11, 2, 10);
        frame("c.9 still", pager, 0, 1, 0, -1, 4, 2, 9);
        pager.share(5, 11, 0, 0);
        frame("a.0", pager, 0, 1, 0, -1, 5, 0, 0);
        pager.drop(0, 0);
        pager.drop(2, 9);
        frame("c.10", pager, 0, 1, 0, -1, 3, 2, 10);
    }

    // ---- 13 and 14: offer, worth

    private static void offerWhat() {
        SparePager pager = Due.loaded("frames 9 0 20 0 0;run a 1 2;in a 0 1");
        range("13: what", 0, 2, what -> pager.offer(1, what));
        Due.refuses("13: no such offer first", Due.INDEX, () -> pager.offer(2, 3));
        Due.refuses("13: no such offer first", Due.INDEX, () -> pager.offer(-1, -1));
    }

    private static void offerIndexes() {
        SparePager pager = Due.loaded("frames 9 0 20 0 0;run a 1 2;in a 0 1");
        indexes("13: index", 1, index -> pager.offer(index, 0));
        pager.ask(1);
        indexes("13: index", 0, index -> pager.offer(index, 0));
        pager.ask(1);
        Due.refuses("13: no offers", Due.INDEX, () -> pager.offer(0, 0));
        Due.refuses("13: no offers", Due.INDEX, () -> pager.offer(-1, 0));
    }

    private static void worthIndexes() {
        SparePager pager = Due.loaded("frames 9 0 20 0 0;run a 1 2;in a 0 1");
        indexes("14: index", 1, pager::worth);
        pager.ask(1);
        indexes("14: index", 0, pager::worth);
        pager.ask(1);
        Due.refuses("14: no offers", Due.INDEX, () -> pager.worth(0));
        Due.refuses("14: no offers", Due.INDEX, () -> pager.worth(-1));
    }

    // ---- 15: costOf

    private static void costOfPages() {
        SparePager pager = Due.loaded("frames 9 0 20 0 0;run a 1 2;in a 0 1");
        range("15: pages", 1, 72, pager::costOf);
    }

    private static void costOfAll() {
        SparePager pager = Due.loaded("frames 9 0 20 0 0;run a 99 2;run b 1 2;in a 0 1;in b 0");
        pager.touch(0, 1, true);
        int[] want = {0, 1, 100, 201, 201, 201};
        for (int pages = 1; pages <= 5; pages++) {
            Due.is("15: " + pages, pager.costOf(pages), want[pages]);
        }
        Due.is("15: 72", pager.costOf(72), 201);
        pager.ask(72);
        Due.is("15: no offers", pager.costOf(1) + pager.costOf(72), 0);
    }

    // ---- 16 to 24

    private static void nextFreeNone() {
        SparePager pager = Due.loaded("frames 9 0 20 0 0;run a 99 2;in a 0 1");
        Due.is("16: none", pager.nextFree(), -1);
        pager.touch(0, 0, true);
        pager.drop(0, 1);
        Due.is("16: dirty, and free", pager.nextFree(), -1);
        pager.drop(0, 0);
        Due.is("16: in flight", pager.nextFree(), 20);
        pager.tick(19);
        Due.is("16: still", pager.nextFree(), 20);
        pager.tick(1);
        Due.is("16: landed", pager.nextFree(), -1);
    }

    private static void nextFreeIsTheSmallest() {
        SparePager pager = Due.loaded("frames 9 0 20 0 0;run a 99 3;in a 0 1 2");
        for (int page = 2; page >= 0; page--) {
            pager.touch(0, page, true);
            pager.drop(0, page);
            pager.tick(1);
        }
        Due.is("16: frame 2", pager.nextFree(), 20);
        pager.tick(17);
        Due.is("16: frame 1", pager.nextFree(), 21);
        pager.tick(1);
        Due.is("16: frame 0", pager.nextFree(), 22);
        pager.tick(1);
        Due.is("16: none", pager.nextFree(), -1);
    }

    private static void idlestNone() {
        SparePager pager = Due.loaded("frames 9 0 20 0 0;run a 99 3;in a 2");
        Due.is("17: the only one", pager.idlest(), 2);
        pager.drop(0, 2);
        Due.is("17: none is in", pager.idlest(), -1);
        Due.is("17: no program", Due.loaded("frames 2 0 0 0 0").idlest(), -1);
    }

    /** "of several the smallest such number": pinned, shared or not. */
    private static void idlestOfSeveral() {
        SparePager pager = Due.loaded("frames 9 0 20 0 0;run a 99 3;run b 1 12;in b 11 0;in a 2 1;pin a 1");
        Due.is("17: a.1", pager.idlest(), 1);
        pager.tick(1);
        pager.touch(0, 1, false);
        Due.is("17: a.2", pager.idlest(), 2);
        pager.share(0, 1, 0, 0);
        pager.touch(0, 2, false);
        Due.is("17: b.0", pager.idlest(), 12);
        pager.touch(1, 0, false);
        Due.is("17: b.11", pager.idlest(), 23);
        pager.touch(1, 11, false);
        Due.is("17: a.0, by the share", pager.idlest(), 0);
        pager.end(0);
        Due.is("17: b.0", pager.idlest(), 12);
    }

    private static void leastTrustedNone() {
        SparePager pager = Due.loaded("frames 9 0 20 0 0;run a 99 3");
        Due.is("18: the only one", pager.leastTrusted(), 0);
        pager.end(0);
        Due.is("18: it has ended", pager.leastTrusted(), -1);
        Due.is("18: no program", Due.loaded("frames 2 0 0 0 0").leastTrusted(), -1);
    }

    private static void leastTrustedOfSeveral() {
        SparePager pager = Due.loaded(SIX);
        Due.is("18: all alike", pager.leastTrusted(), 0);
        pager.trust(5, -49);
        Due.is("18: 1", pager.leastTrusted(), 5);
        pager.trust(3, -49);
        Due.is("18: the smallest number", pager.leastTrusted(), 3);
        pager.end(3);
        Due.is("18: which has not ended", pager.leastTrusted(), 5);
        for (int program = 0; program < 6; program++) {
            pager.trust(program, 99);
        }
        Due.is("18: 100", pager.leastTrusted(), 0);
    }

    private static void richestNone() {
        Due.is("19: no program", Due.loaded("frames 2 0 0 0 0").richest(), -1);
        SparePager pager = Due.loaded("frames 9 0 20 0 0;run a 99 3");
        pager.end(0);
        Due.is("19: ended or not", pager.richest(), 0);
    }

    private static void richestOfSeveral() {
        SparePager pager = Due.loaded("frames 9 0 0 9 0;run a 1 2;run b 2 2;run c 2 2;in b 0;in c 0");
        Due.is("19: all alike", pager.richest(), 0);
        pager.ask(2);
        Due.is("19: the smallest number", pager.richest(), 1);
        pager.end(1);
        Due.is("19: ended or not", pager.richest(), 1);
        pager.touch(2, 1, false);
        pager.take(1);
        Due.is("19: the greatest", pager.richest(), 2);
    }

    private static void priceStepPrices() {
        SparePager pager = Due.loaded("frames 9 0 20 0 0;run a 99 3");
        range("20: price", 0, 200, pager::priceStep);
    }

    /** "the least price of an offer that is greater than a price". */
    private static void priceStepIsGreater() {
        SparePager pager = Due.loaded("frames 9 0 20 0 0;run a 99 3;run b 1 3;in a 0;in b 0 1;pin b 1");
        pager.touch(0, 0, true);
        Due.is("20: 0", pager.priceStep(0), 1);
        Due.is("20: 1", pager.priceStep(1), 101);
        Due.is("20: 100", pager.priceStep(100), 101);
        Due.is("20: 101", pager.priceStep(101), -1);
        Due.is("20: 200", pager.priceStep(200), -1);
        pager.touch(1, 0, true);
        Due.is("20: 0, dirty", pager.priceStep(0), 3);
        Due.is("20: 2", pager.priceStep(2), 3);
        Due.is("20: 3", pager.priceStep(3), 101);
        pager.ask(72);
        Due.is("20: no offers", pager.priceStep(0), -1);
    }

    private static void sharersOfNoneAndAll() {
        SparePager pager = Due.loaded(SIX + ";in d 0");
        indexes("21: program", 5, program -> pager.sharers(program, 0));
        indexes("21: page", 11, page -> pager.sharers(5, page));
        Due.is("21: out", pager.sharers(3, 1), 0);
        Due.is("21: alone", pager.sharers(3, 0), 8);
        pager.touch(0, 0, false);
        Due.is("21: the first page of the first program", pager.sharers(0, 0), 1);
        pager.touch(5, 11, false);
        Due.is("21: the last page of the last program", pager.sharers(5, 11), 32);
        pager.drop(5, 11);
        int want = 8;
        for (int program = 0; program < 6; program++) {
            pager.share(3, 0, program, 11);
            want |= 1 << program;
            Due.is("21: of several", pager.sharers(3, 0), want);
            Due.is("21: the same for each", pager.sharers(program, 11), want);
        }
        Due.is("21: all", pager.sharers(3, 0), 63);
        pager.drop(3, 0);
        Due.is("21: another page of it is in", pager.sharers(3, 11), 63);
        Due.is("21: out", pager.sharers(3, 0), 0);
        pager.drop(3, 11);
        Due.is("21: none of it", pager.sharers(0, 11), 55);
    }

    private static void hitShareWithoutTouches() {
        SparePager pager = Due.loaded("frames 2 0 20 0 0;run a 99 3;in a 0 1");
        Due.isReal("22: none", pager.hitShare(), 0.0);
        pager.touch(0, 2, false);
        Due.is("8: a fault that stalls", pager.count(7) + pager.count(8), 2);
        Due.isReal("22: none that succeeded", pager.hitShare(), 0.0);
        pager.touch(0, 0, false);
        Due.isReal("22: stalls do not count", pager.hitShare(), 1.0);
    }

    private static void hitShareEdges() {
        SparePager pager = Due.loaded("frames 3 0 20 0 0;run a 99 3;in a 0 1");
        pager.touch(0, 2, false);
        Due.isReal("22: faults only", pager.hitShare(), 0.0);
        pager.touch(0, 0, false);
        Due.isReal("22: 1 of 2", pager.hitShare(), 0.5);
        pager.touch(0, 0, false);
        Due.isReal("22: 2 of 3", pager.hitShare(), 2.0f / 3.0f);
        SparePager copied = Due.loaded("frames 3 0 20 0 0;run a 99 3;in a 0");
        copied.share(0, 0, 0, 1);
        copied.touch(0, 1, true);
        Due.isReal("22: a copy is no fault", copied.hitShare(), 1.0);
    }

    private static void meanTrustEdges() {
        Due.isReal("23: no program", Due.loaded("frames 2 0 0 0 0").meanTrust(), 0.0);
        SparePager pager = Due.loaded(SIX);
        Due.isReal("23: six", pager.meanTrust(), 50.0);
        pager.trust(0, 50);
        pager.trust(1, -49);
        Due.isReal("23: 301 of six", pager.meanTrust(), 301.0 / 6.0);
        for (int program = 2; program < 6; program++) {
            pager.end(program);
        }
        Due.isReal("23: 101 of two", pager.meanTrust(), 50.5);
        pager.end(0);
        Due.isReal("23: 1 of one", pager.meanTrust(), 1.0);
        pager.end(1);
        Due.isReal("23: all have ended", pager.meanTrust(), 0.0);
    }

    private static void writtenEdges() {
        SparePager pager = Due.loaded(SIX);
        indexes("24: program", 5, pager::written);
        for (int row = 0; row < 64; row++) {
            pager.touch(row / 12, row % 12, true);
        }
        Due.is("24: twelve", pager.written(0), 12);
        Due.is("24: frames 60 to 63", pager.written(5), 4);
        pager.share(0, 0, 5, 4);
        pager.share(0, 0, 5, 5);
        Due.is("24: a shared one, once", pager.written(5), 5);
        Due.is("38: a.1 is taken", pager.take(1), 1);
        Due.is("24: eleven are left", pager.written(0), 11);
        pager.drop(1, 11);
        Due.is("24: in flight", pager.written(1), 11);
    }

    // ---- 25 to 31

    /** "what touch() would return": 0 to 5, in this order. */
    private static void wouldEachAnswer() {
        SparePager pager = Due.loaded("frames 3 0 0 9 4;run a 5 9;run b 5 9;in a 0 1 2");
        would(pager, 0, false, 0);
        pager.share(0, 0, 1, 0);
        pager.drop(0, 2);
        would(pager, 12, true, 1);
        would(pager, 3, false, 2);
        pager.ask(1);
        pager.tick(4);
        would(pager, 1, true, 3);
        pager.undo();
        would(pager, 1, true, 4);
        pager.tick(9);
        would(pager, 1, true, 2);
        pager.touch(1, 3, false);
        pager.touch(1, 4, false);
        would(pager, 1, false, 5);
        would(pager, 12, true, 5);
    }

    private static void would(SparePager pager, int key, boolean write, int want) {
        String before = Due.told(pager);
        Due.is("25: would", pager.would(key / 12, key % 12, write), want);
        Due.isText("25: nothing is changed", Due.told(pager), before);
        Due.is("36: touch", pager.touch(key / 12, key % 12, write), want);
        pager.undo();
        Due.is("25: would again", pager.would(key / 12, key % 12, write), want);
    }

    private static void wouldOfAnEndedProgram() {
        SparePager pager = Due.loaded(SIX);
        indexes("25: program", 5, program -> pager.would(program, 0, true));
        indexes("25: page", 11, page -> pager.would(5, page, true));
        pager.end(5);
        Due.refuses("25: ended", Due.ARGUMENT, () -> pager.would(5, 0, false));
        Due.refuses("25: no such page first", Due.INDEX, () -> pager.would(5, 12, false));
    }

    private static SparePager flying() {
        SparePager pager = Due.loaded("frames 5 0 20 0 0;run a 5 9;in a 0 1 2");
        pager.touch(0, 0, true);
        pager.touch(0, 1, true);
        pager.drop(0, 0);
        pager.tick(1);
        pager.drop(0, 1);
        return pager;
    }

    private static void freeInTicks() {
        range("26: ticks", 0, 200, flying()::freeIn);
    }

    private static void freeInAtTheLanding() {
        SparePager pager = flying();
        Due.is("26: now", pager.freeIn(0), 2);
        Due.is("26: 18", pager.freeIn(18), 2);
        Due.is("26: 19", pager.freeIn(19), 3);
        Due.is("26: 20", pager.freeIn(20), 4);
        Due.is("26: 200, the held one is not", pager.freeIn(200), 4);
        Due.is("26: all", Due.loaded("frames 64 0 0 0 0").freeIn(0), 64);
    }

    private static void offersInTicks() {
        range("27: ticks", 0, 200, flying()::offersIn);
    }

    private static void offersInAtIdle() {
        SparePager pager = Due.loaded("frames 5 200 0 0 0;run a 5 9;run b 5 1 bluff 99;in a 0 1 2;in b 0;pin a 2");
        pager.tick(1);
        pager.touch(0, 1, false);
        Due.is("27: 99", pager.offersIn(99), 0);
        Due.is("27: 100, with BLUFF 99", pager.offersIn(100), 1);
        Due.is("27: 198", pager.offersIn(198), 1);
        Due.is("27: 199", pager.offersIn(199), 2);
        Due.is("27: 200, the pinned one is not", pager.offersIn(200), 3);
        Due.is("27: 0", pager.offersIn(0), 0);
    }

    private static void ticksToFrames() {
        SparePager pager = flying();
        range("28: frames", 0, 5, pager::ticksTo);
        SparePager most = Due.loaded("frames 64 0 0 0 0");
        range("28: frames", 0, 64, most::ticksTo);
        SparePager least = Due.loaded("frames 2 0 0 0 0");
        range("28: frames", 0, 2, least::ticksTo);
        Due.is("28: all are free", most.ticksTo(64), 0);
    }

    private static void ticksToNever() {
        SparePager pager = flying();
        int[] want = {0, 0, 0, 19, 20, -1};
        for (int frames = 0; frames <= 5; frames++) {
            Due.is("28: " + frames, pager.ticksTo(frames), want[frames]);
        }
        SparePager held = Due.loaded("frames 2 0 0 0 0;run a 1 2;in a 0 1");
        Due.is("28: 0 of none", held.ticksTo(0), 0);
        Due.is("28: never", held.ticksTo(1), -1);
    }

    private static void creditIfPages() {
        SparePager pager = Due.loaded("frames 9 0 20 0 0;run a 1 2;run b 1 1;in a 0 1");
        range("29: pages", 1, 72, pages -> pager.creditIf(1, pages));
        indexes("29: program", 1, program -> pager.creditIf(program, 1));
        Due.refuses("29: no such program first", Due.INDEX, () -> pager.creditIf(2, 0));
        Due.refuses("29: no such program first", Due.INDEX, () -> pager.creditIf(-1, 73));
    }

    private static void creditIfFewerOffers() {
        SparePager pager = Due.loaded("frames 9 0 20 9 0;run a 7 3;run b 1 1;in a 0 1 2;in b 0;pin a 2");
        pager.take(1);
        pager.touch(0, 0, true);
        int credit = pager.program(0, 3);
        Due.is("29: b comes first", pager.creditIf(1, 1), 1);
        Due.is("29: a does not", pager.creditIf(0, 1), credit);
        Due.is("29: then a", pager.creditIf(0, 2), credit + 7);
        Due.is("29: then the dirty one", pager.creditIf(0, 3), credit + 16);
        Due.is("29: not so many", pager.creditIf(0, 72), credit + 16);
        pager.ask(72);
        Due.is("29: no offers", pager.creditIf(0, 72), credit + 16);
        pager.end(0);
        Due.is("29: has ended", pager.creditIf(0, 1), credit + 16);
    }

    private static void victimPages() {
        SparePager pager = Due.loaded("frames 9 0 20 0 0;run a 1 2;in a 0 1");
        range("30: pages", 1, 72, pager::victim);
    }

    /** "NONE if there are not so many". */
    private static void victimNotSoMany() {
        SparePager pager = Due.loaded("frames 9 0 20 0 0;run a 1 3;in a 2 0 1;pin a 1");
        Due.is("30: 1", pager.victim(1), 0);
        Due.is("30: 2", pager.victim(2), 2);
        Due.is("30: 3", pager.victim(3), -1);
        Due.is("30: 72", pager.victim(72), -1);
        Due.is("30: no program", Due.loaded("frames 2 0 0 0 0").victim(1), -1);
        SparePager most = Due.loaded(SIX);
        for (int row = 71; row >= 8; row--) {
            most.touch(row / 12, row % 12, false);
        }
        Due.is("30: 64 of 64", most.victim(64) >= 8, true);
        Due.is("30: 65 of 64", most.victim(65), -1);
        Due.is("30: it changes nothing", most.count(3), 64);
    }

    /** "the least PRICE of a program, 1 to 99 ...; NONE if it would sell one with each PRICE". */
    private static void leastPriceEdges() {
        SparePager pager = Due.loaded("frames 9 0 20 0 0;run a 50 1;run b 98 1;run c 99 1;run d 1 1;in a 0;in b 0");
        indexes("31: program", 3, pager::leastPrice);
        Due.is("31: sells up to 98", pager.leastPrice(0), 99);
        pager.setPrice(1, 99);
        Due.is("31: sells with 99, too", pager.leastPrice(0), -1);
        pager.setPrice(1, 1);
        Due.is("31: sells with 1 only", pager.leastPrice(0), 2);
        Due.is("31: b sells below 50", pager.leastPrice(1), 50);
        pager.touch(0, 0, true);
        Due.is("31: dirty, it does not sell with 1", pager.leastPrice(0), 1);
        pager.end(1);
        Due.is("31: without a rival", pager.leastPrice(0), -1);
    }

    /** "without offers of it: 1". */
    private static void leastPriceWithoutOffers() {
        SparePager pager = Due.loaded("frames 9 9 20 0 0;run a 50 1;run b 98 1;in a 0");
        Due.is("31: no offers at all", pager.leastPrice(0), 1);
        pager.tick(9);
        Due.is("31: an offer", pager.leastPrice(0), -1);
        Due.is("31: none of b", pager.leastPrice(1), 1);
        pager.pin(0, 0, true);
        Due.is("31: pinned", pager.leastPrice(0), 1);
        pager.end(0);
        Due.is("31: ended", pager.leastPrice(0), 1);
        Due.is("31: changes nothing", pager.program(1, 0), 98);
    }

    /** "the first offer is none of it then": what was an offer before does not count. */
    private static void leastPriceOfTheOnlyOne() {
        SparePager pager = Due.loaded("frames 9 0 20 0 0;run a 1 1;run b 99 1;in b 0");
        Due.is("31: b alone", pager.leastPrice(1), -1);
        pager.touch(0, 0, false);
        Due.is("31: a before b", pager.leastPrice(0), -1);
        Due.is("31: b not even with 1", pager.leastPrice(1), 1);
        pager.setPrice(1, 98);
        Due.is("31: a up to 98", pager.leastPrice(0), 99);
        pager.drop(1, 0);
        Due.is("31: a alone", pager.leastPrice(0), -1);
        Due.is("31: b without offers", pager.leastPrice(1), 1);
    }

    /** Of the same worth the page that was used earlier comes first, then the program with the smaller number. */
    private static void leastPriceAgainstARival() {
        SparePager pager = Due.loaded("frames 9 0 20 0 0;run a 9 2;run b 9 2;in a 0;in b 0");
        Due.is("31: a with 9, too", pager.leastPrice(0), 10);
        Due.is("31: b with 8", pager.leastPrice(1), 9);
        pager.tick(1);
        pager.touch(0, 0, false);
        Due.is("31: a with 8", pager.leastPrice(0), 9);
        Due.is("31: b with 9, too", pager.leastPrice(1), 10);
        pager.trust(0, -25);
        Due.is("31: a of half the trust, with 4", pager.leastPrice(0), 5);
        Due.is("31: b with 18, too", pager.leastPrice(1), 19);
        pager.touch(1, 1, true);
        Due.is("31: b sells the clean one", pager.leastPrice(1), 19);
        pager.drop(1, 0);
        Due.is("31: b sells the dirty one, with 15", pager.leastPrice(1), 16);
    }

    /** "if only time passed": up to 200 ticks, also where tick() would refuse them. */
    private static void looksBeyondTheLastTime() {
        SparePager pager = Due.loaded("frames 3 200 20 0 0;run a 9 2;in a 0 1");
        for (int i = 0; i < 49; i++) {
            pager.tick(200);
        }
        pager.tick(199);
        pager.touch(0, 0, true);
        pager.touch(0, 1, true);
        pager.drop(0, 1);
        Due.is("16: nextFree", pager.nextFree(), 10019);
        Due.is("26: 19", pager.freeIn(19), 1);
        Due.is("26: 20", pager.freeIn(20), 2);
        Due.is("27: 199", pager.offersIn(199), 0);
        Due.is("27: 200", pager.offersIn(200), 1);
        Due.is("28: 2", pager.ticksTo(2), 20);
        Due.refuses("39: 10000", Due.ARGUMENT, () -> pager.tick(1));
    }
}
