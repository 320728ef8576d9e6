/**
 * The sentences of the document's "Terms", sections 1 to 5, that name a boundary: each has a test of its own, which
 * quotes it. (Section 6 is in TextEdgesTest, section 7 in RefusedTest and ChangeEdgesTest.)
 */
public final class TermsEdgesTest {
    private static final int FREE = 0;
    private static final int HELD = 1;
    private static final int FLYING = 2;

    private TermsEdgesTest() {
    }

    public static void main(String[] args) {
        framesAreNumberedFromNought();
        programsAreNumberedFromNought();
        pagesAreNumberedFromNought();
        creditIsNoughtAtFirst();
        trustIsFiftyAtFirst();
        usedLastIsNoughtAtFirst();
        neededFrameIsTheSmallestFreeOne();
        neededFrameIsNotTheOneInFlight();
        neededFrameIsNotDirty();
        leftCleanFrameIsFreeAtOnce();
        leftDirtyFrameIsInFlight();
        flightOfNoughtIsFreeAtOnce();
        longestFlight();
        leftFrameWithAnotherPageStaysHeld();
        inFlightUpToTheTime();
        readOfAPageThatIsIn();
        writeOfAPageThatIsAlone();
        writeOfASharedPageIsCopied();
        frameThatACopyLeavesStaysAsItIs();
        copyWithoutAFreeFrameStalls();
        faultWithoutAFreeFrameStalls();
        faultIsCountedForItsProgram();
        faultReadIsClean();
        faultWriteIsDirty();
        pageThatIsNotSoldIsNotJudged();
        ageBelowWarranty();
        ageBelowLie();
        lieAsLongAsWarranty();
        warrantyOfNought();
        refundIsWhatWasPaid();
        trustNotBelowOne();
        trustNotAboveHundred();
        judgedOnlyOnce();
        stallDoesNotJudge();
        offerHasNotEnded();
        offerIsIn();
        offerDoesNotShare();
        offerIsNotPinned();
        offerIsIdle();
        offerWithIdleNought();
        offerWithGreatestIdle();
        bluffCountsAsTime();
        priceOfADirtyPage();
        worthAtTheEdges();
        orderByWorth();
        orderByTime();
        orderByProgramThenPage();
        askForMoreThanThereAre();
        askInTheOrderAtFirst();
        askDoesNotChangeTrust();
        takeLooksAnewForEach();
        takeFromTheOneThatHoldsTheMost();
        takeCountsSharedFramesOnce();
        takeFromTheSmallestNumber();
        takeTheIdlestPage();
        takeTheSmallestPage();
        takeDoesNotLookAtProgramsWithoutSuchPages();
        takeOfADirtyFrame();
        takePaysThreeTimes();
        takeSellsNothing();
        placesForPagesThatDoNotShare();
        placesForPagesThatShare();
        placeKeepsWhatBecomesOfThePage();
        Due.end();
    }

    private static void state(String what, SparePager pager, int frame, int state, int dirty, int until) {
        Due.is(what + ": state of frame " + frame, pager.frame(frame, 0), state);
        Due.is(what + ": dirty, frame " + frame, pager.frame(frame, 1), dirty);
        Due.is(what + ": up to, frame " + frame, pager.frame(frame, 2), until);
    }

    // ---- 1: frames, programs, pages

    /** "There are FRAMES frames (2 to 64), numbered from 0". */
    private static void framesAreNumberedFromNought() {
        for (int frames : new int[] {2, 3, 63, 64}) {
            SparePager pager = Due.loaded("frames " + frames + " 0 0 0 0");
            Due.is("frame 0", pager.frame(0, 0), FREE);
            Due.is("the last frame", pager.frame(frames - 1, 0), FREE);
            Due.refuses("one frame further", Due.INDEX, () -> pager.frame(frames, 0));
            Due.refuses("frame -1", Due.INDEX, () -> pager.frame(-1, 0));
            Due.is("free ones", pager.count(2), frames);
        }
    }

    /** "Programs are numbered from 0". */
    private static void programsAreNumberedFromNought() {
        StringBuilder text = new StringBuilder("frames 2 0 0 0 0");
        for (int programs = 1; programs <= 6; programs++) {
            text.append(";run ").append((char) ('a' + programs)).append(' ').append(10 + programs).append(" 1");
            SparePager pager = Due.loaded(text.toString());
            Due.is("program 0", pager.program(0, 0), 11);
            Due.is("the last program", pager.program(programs - 1, 0), 10 + programs);
            int next = programs;
            Due.refuses("one program further", Due.INDEX, () -> pager.program(next, 0));
            Due.refuses("program -1", Due.INDEX, () -> pager.program(-1, 0));
        }
    }

    /** "PAGES (1 to 12; its pages are numbered from 0)". */
    private static void pagesAreNumberedFromNought() {
        for (int pages : new int[] {1, 2, 11, 12}) {
            SparePager pager = Due.loaded("frames 2 0 0 0 0;run a 1 " + pages + ";run b 1 12");
            Due.is("page 0", pager.page(0, 0, 0), -1);
            Due.is("the last page", pager.page(0, pages - 1, 0), -1);
            Due.refuses("one page further", Due.INDEX, () -> pager.page(0, pages, 0));
            Due.refuses("page -1", Due.INDEX, () -> pager.page(0, -1, 0));
            Due.refuses("page -1 of the second program", Due.INDEX, () -> pager.page(1, -1, 0));
        }
    }

    /** "credit (0 at first ...)". */
    private static void creditIsNoughtAtFirst() {
        SparePager pager = Due.loaded("frames 2 0 0 0 0;run a 99 1;run b 1 1");
        Due.is("credit of a", pager.program(0, 3), 0);
        Due.is("credit of b", pager.program(1, 3), 0);
    }

    /** "trust (50 at first, 1 to 100)". */
    private static void trustIsFiftyAtFirst() {
        SparePager pager = Due.loaded("frames 2 0 0 0 0;run a 99 1;run b 1 1");
        Due.is("trust of a", pager.program(0, 4), 50);
        Due.is("trust of b", pager.program(1, 4), 50);
    }

    /** "The time at which a page was used last is 0 at first." */
    private static void usedLastIsNoughtAtFirst() {
        SparePager pager = Due.loaded("frames 2 0 0 0 0;run a 99 2;in a 0");
        pager.tick(9);
        Due.is("of a page that is in", pager.page(0, 0, 1), 0);
        Due.is("of a page that is out", pager.page(0, 1, 1), 0);
    }

    /** "A frame that is needed is the free one with the smallest number". */
    private static void neededFrameIsTheSmallestFreeOne() {
        SparePager pager = Due.loaded("frames 5 0 0 0 0;run a 1 6;in a 0 1 2 3 4");
        pager.drop(0, 3);
        pager.drop(0, 1);
        pager.touch(0, 5, false);
        Due.is("the smaller one", pager.page(0, 5, 0), 1);
        pager.touch(0, 1, false);
        Due.is("then the other one", pager.page(0, 1, 0), 3);
    }

    /** The same sentence: one in flight is not free, although its number is smaller. */
    private static void neededFrameIsNotTheOneInFlight() {
        SparePager pager = Due.loaded("frames 3 0 2 0 0;run a 1 6;in a 0 1");
        pager.touch(0, 0, true);
        pager.drop(0, 0);
        pager.touch(0, 5, false);
        Due.is("the free one", pager.page(0, 5, 0), 2);
        pager.tick(2);
        pager.touch(0, 4, false);
        Due.is("it has landed", pager.page(0, 4, 0), 0);
    }

    /** "it is not dirty then": however a dirty frame became free. */
    private static void neededFrameIsNotDirty() {
        for (int way = 0; way < 5; way++) {
            SparePager pager = Due.loaded("frames 2 0 " + (way == 1 ? 3 : 0) + " 0 0;run a 1 6;run b 1 1;in a 0");
            pager.touch(0, 0, true);
            switch (way) {
                case 0 -> pager.drop(0, 0);
                case 1 -> {
                    pager.drop(0, 0);
                    pager.tick(3);
                }
                case 2 -> pager.take(1);
                case 3 -> pager.ask(1);
                default -> pager.end(0);
            }
            pager.touch(1, 0, false);
            Due.is("way " + way + ": its frame", pager.page(1, 0, 0), 0);
            state("way " + way, pager, 0, HELD, 0, -1);
        }
    }

    /** "the frame is not held any more: it is free at once if it is not dirty". */
    private static void leftCleanFrameIsFreeAtOnce() {
        SparePager pager = Due.loaded("frames 3 0 20 0 0;run a 1 6;in a 0 1");
        pager.drop(0, 0);
        state("dropped", pager, 0, FREE, 0, -1);
        pager.ask(1);
        state("bought", pager, 1, FREE, 0, -1);
    }

    /** "otherwise it is in flight up to the time plus FLIGHT". */
    private static void leftDirtyFrameIsInFlight() {
        SparePager pager = Due.loaded("frames 3 0 7 0 0;run a 1 6;in a 0 1");
        pager.tick(5);
        pager.touch(0, 0, true);
        pager.touch(0, 1, true);
        pager.drop(0, 0);
        state("dropped", pager, 0, FLYING, 0, 12);
        pager.tick(1);
        pager.ask(1);
        state("bought", pager, 1, FLYING, 0, 13);
        state("the first one", pager, 0, FLYING, 0, 12);
    }

    /** "FLIGHT (0 to 20; with 0 it is free at once)". */
    private static void flightOfNoughtIsFreeAtOnce() {
        SparePager pager = Due.loaded("frames 3 0 0 0 0;run a 1 6;in a 0 1");
        pager.touch(0, 0, true);
        pager.touch(0, 1, true);
        Due.is("drop", pager.drop(0, 0), 0);
        state("dropped", pager, 0, FREE, 0, -1);
        pager.ask(1);
        state("bought", pager, 1, FREE, 0, -1);
        Due.is("16: none in flight", pager.nextFree(), -1);
        Due.is("39: none lands", pager.tick(1), 0);
    }

    /** The same sentence, with 1 and with 20. */
    private static void longestFlight() {
        for (int flight : new int[] {1, 20}) {
            SparePager pager = Due.loaded("frames 3 0 " + flight + " 0 0;run a 1 6;in a 0 1");
            pager.touch(0, 0, true);
            pager.drop(0, 0);
            state("FLIGHT " + flight, pager, 0, FLYING, 0, flight);
            if (flight > 1) {
                Due.is("not yet", pager.tick(flight - 1), 0);
            }
            Due.is("now", pager.tick(1), 1);
            state("FLIGHT " + flight, pager, 0, FREE, 0, -1);
        }
    }

    /** "With another page in it it stays held, and dirty if it was." */
    private static void leftFrameWithAnotherPageStaysHeld() {
        SparePager pager = Due.loaded("frames 4 0 3 0 0;run a 1 6;in a 0 1");
        pager.touch(0, 0, true);
        pager.share(0, 0, 0, 2);
        pager.share(0, 1, 0, 3);
        pager.drop(0, 0);
        state("it was dirty", pager, 0, HELD, 1, -1);
        Due.is("its last page", pager.frame(0, 5), 2);
        pager.drop(0, 3);
        state("it was not", pager, 1, HELD, 0, -1);
        pager.drop(0, 2);
        state("the last one leaves", pager, 0, FLYING, 0, 3);
    }

    /** "A frame that is in flight up to a time is free as soon as the time is that one or greater." */
    private static void inFlightUpToTheTime() {
        for (int ticks = 3; ticks <= 5; ticks++) {
            SparePager pager = Due.loaded("frames 2 0 4 0 0;run a 1 6;run b 1 1;in a 0;in b 0");
            pager.touch(0, 0, true);
            pager.drop(0, 0);
            Due.is("39: behind " + ticks, pager.tick(ticks), ticks >= 4 ? 1 : 0);
            state("behind " + ticks, pager, 0, ticks >= 4 ? FREE : FLYING, 0, ticks >= 4 ? -1 : 4);
            Due.is("36: behind " + ticks, pager.touch(0, 1, false), ticks >= 4 ? 2 : 5);
        }
    }

    // ---- 2: touching

    /** "If the page is in: it is used now." */
    private static void readOfAPageThatIsIn() {
        SparePager pager = Due.loaded("frames 2 0 4 0 0;run a 1 6;in a 0 1");
        pager.tick(3);
        Due.is("read", pager.touch(0, 1, false), 0);
        Due.is("used now", pager.page(0, 1, 1), 3);
        Due.is("the other page is not", pager.page(0, 0, 1), 0);
        state("read", pager, 1, HELD, 0, -1);
        Due.is("a touch that succeeded", pager.count(6), 1);
        Due.is("no fault, no stall, no copy", pager.count(7) + pager.count(8) + pager.count(9), 0);
    }

    /** "If it is written and does not share its frame, this one is dirty." */
    private static void writeOfAPageThatIsAlone() {
        SparePager pager = Due.loaded("frames 2 0 4 0 0;run a 1 6;in a 0 1");
        Due.is("without a free frame", pager.touch(0, 1, true), 0);
        state("written", pager, 1, HELD, 1, -1);
        state("the other one", pager, 0, HELD, 0, -1);
        Due.is("read again", pager.touch(0, 1, false), 0);
        state("stays dirty", pager, 1, HELD, 1, -1);
    }

    /** "it leaves its frame and is in the free one, which is dirty". */
    private static void writeOfASharedPageIsCopied() {
        SparePager pager = Due.loaded("frames 4 0 4 0 0;run a 1 6;run b 1 1;in a 0 1 2");
        pager.share(0, 2, 1, 0);
        pager.drop(0, 0);
        pager.tick(2);
        Due.is("the smallest free frame", pager.touch(1, 0, true), 1);
        Due.is("the smallest free frame", pager.page(1, 0, 0), 0);
        state("copied", pager, 0, HELD, 1, -1);
        Due.is("used now", pager.page(1, 0, 1), 2);
        Due.is("the page that stays is not", pager.page(0, 2, 1), 0);
        Due.is("copies", pager.count(9), 1);
        Due.is("a touch", pager.count(6), 1);
        Due.is("no fault", pager.count(7), 0);
    }

    /** "the frame that it leaves stays as it is": held, dirty or not. */
    private static void frameThatACopyLeavesStaysAsItIs() {
        for (boolean isDirty : new boolean[] {false, true}) {
            SparePager pager = Due.loaded("frames 3 0 4 0 0;run a 1 6;run b 1 1;in a 0");
            pager.touch(0, 0, isDirty);
            pager.share(0, 0, 1, 0);
            pager.touch(0, 0, true);
            state("left by a copy", pager, 0, HELD, isDirty ? 1 : 0, -1);
            Due.is("one page in it", pager.frame(0, 3), 1);
            Due.is("it is alone then", pager.touch(1, 0, true), 0);
        }
    }

    /** "without a free frame this is a stall: nothing happens but that stalls are counted". */
    private static void copyWithoutAFreeFrameStalls() {
        SparePager pager = Due.loaded("frames 2 0 4 0 0;run a 1 6;run b 1 1;in a 0 1");
        pager.share(0, 0, 1, 0);
        pager.tick(3);
        String before = Due.machine(pager);
        Due.is("a stall", pager.touch(1, 0, true), 5);
        Due.is("counted", pager.count(8), 1);
        Due.is("no fault", pager.count(7) + pager.program(1, 8), 0);
        Due.is("not used", pager.page(1, 0, 1), 0);
        Due.is("no touch", pager.count(6), 0);
        pager.undo();
        Due.isText("undone", Due.machine(pager), before);
        pager.touch(0, 1, true);
        pager.drop(0, 1);
        Due.is("a frame in flight is not free", pager.touch(1, 0, true), 5);
        pager.tick(4);
        Due.is("behind the flight", pager.touch(1, 0, true), 1);
    }

    /** "Without a free frame it is a stall, too, and nothing else happens (it is no touch that succeeded)." */
    private static void faultWithoutAFreeFrameStalls() {
        SparePager pager = Due.loaded("frames 2 0 4 0 0;run a 1 6;run b 1 1;in a 0 1");
        pager.tick(3);
        for (boolean write : new boolean[] {false, true}) {
            Due.is("a stall", pager.touch(1, 0, write), 5);
            Due.is("out still", pager.page(1, 0, 0), -1);
            Due.is("not used", pager.page(1, 0, 1), 0);
            Due.is("no touch", pager.count(6), 0);
        }
        Due.is("stalls", pager.count(8), 2);
        Due.is("faults, too", pager.count(7), 2);
    }

    /** "this is a fault, which is counted (for the program, too)": with and without a stall. */
    private static void faultIsCountedForItsProgram() {
        SparePager pager = Due.loaded("frames 2 0 4 0 0;run a 1 6;run b 1 2;in a 0");
        pager.touch(1, 0, false);
        pager.touch(1, 1, false);
        pager.touch(0, 0, true);
        Due.is("faults", pager.count(7), 2);
        Due.is("faults of b", pager.program(1, 8), 2);
        Due.is("faults of a", pager.program(0, 8), 0);
    }

    /** "Otherwise the page is in the free frame and is used now". */
    private static void faultReadIsClean() {
        SparePager pager = Due.loaded("frames 2 0 4 0 0;run a 1 6;in a 0");
        pager.tick(7);
        Due.is("read", pager.touch(0, 5, false), 2);
        Due.is("its frame", pager.page(0, 5, 0), 1);
        Due.is("used now", pager.page(0, 5, 1), 7);
        state("read", pager, 1, HELD, 0, -1);
        Due.is("a touch that succeeded", pager.count(6), 1);
    }

    /** "if it is written, the frame is dirty". */
    private static void faultWriteIsDirty() {
        SparePager pager = Due.loaded("frames 2 0 4 0 0;run a 1 6;in a 0");
        Due.is("write", pager.touch(0, 5, true), 2);
        state("written", pager, 1, HELD, 1, -1);
    }

    /** "Then, if it is sold, it is judged": one that left its frame in another way is not. */
    private static void pageThatIsNotSoldIsNotJudged() {
        SparePager pager = Due.loaded("frames 4 0 0 9 9;run a 5 6;in a 0 1");
        pager.drop(0, 0);
        pager.take(1);
        Due.is("never in", pager.touch(0, 2, false), 2);
        Due.is("dropped", pager.touch(0, 0, false), 2);
        Due.is("taken", pager.touch(0, 1, false), 2);
        Due.is("trust", pager.program(0, 4), 50);
        Due.is("credit", pager.program(0, 3), 15);
        Due.is("refunds and lies", pager.count(12) + pager.count(13), 0);
    }

    /** A page that was sold for 5 with WARRANTY and LIE so long ago. */
    private static SparePager sold(int warranty, int lie, int age) {
        SparePager pager = Due.loaded("frames 2 0 0 " + warranty + " " + lie + ";run a 5 2;in a 0");
        pager.tick(10);
        pager.ask(1);
        if (age > 0) {
            pager.tick(age);
        }
        return pager;
    }

    private static void judged(SparePager pager, int answer, int credit, int trust, int refunds, int lies) {
        Due.is("judged", pager.touch(0, 0, true), answer);
        Due.is("credit", pager.program(0, 3), credit);
        Due.is("trust", pager.program(0, 4), trust);
        Due.is("refunds", pager.count(12), refunds);
        Due.is("lies", pager.count(13), lies);
        Due.is("lies of a", pager.program(0, 9), lies);
    }

    /** "if the age is less than WARRANTY (0 to 200), there is a refund". */
    private static void ageBelowWarranty() {
        judged(sold(7, 0, 6), 3, 0, 50, 1, 0);
        judged(sold(7, 0, 7), 2, 5, 51, 0, 0);
        judged(sold(7, 0, 8), 2, 5, 51, 0, 0);
        judged(sold(200, 0, 199), 3, 0, 50, 1, 0);
        judged(sold(200, 0, 200), 2, 5, 51, 0, 0);
        judged(sold(1, 0, 0), 3, 0, 50, 1, 0);
        judged(sold(1, 0, 1), 2, 5, 51, 0, 0);
    }

    /** "if the age is less than LIE (0 to WARRANTY), a lie is found, too". */
    private static void ageBelowLie() {
        judged(sold(7, 3, 0), 4, 0, 40, 1, 1);
        judged(sold(7, 3, 2), 4, 0, 40, 1, 1);
        judged(sold(7, 3, 3), 3, 0, 50, 1, 0);
        judged(sold(7, 0, 0), 3, 0, 50, 1, 0);
        judged(sold(7, 1, 0), 4, 0, 40, 1, 1);
    }

    /** The same, with a LIE that is WARRANTY: a refund is a lie each time. */
    private static void lieAsLongAsWarranty() {
        judged(sold(7, 7, 6), 4, 0, 40, 1, 1);
        judged(sold(7, 7, 7), 2, 5, 51, 0, 0);
        judged(sold(200, 200, 199), 4, 0, 40, 1, 1);
        judged(sold(200, 200, 200), 2, 5, 51, 0, 0);
    }

    /** "If the age is WARRANTY or more, the trust becomes greater by 1": with 0, always. */
    private static void warrantyOfNought() {
        judged(sold(0, 0, 0), 2, 5, 51, 0, 0);
        judged(sold(0, 0, 1), 2, 5, 51, 0, 0);
    }

    /** "the credit becomes less by what was paid for it", whatever it costs now. */
    private static void refundIsWhatWasPaid() {
        SparePager pager = Due.loaded("frames 2 0 0 9 0;run a 5 2;in a 0");
        pager.touch(0, 0, true);
        pager.ask(1);
        Due.is("paid", pager.program(0, 3), 7);
        pager.setPrice(0, 99);
        judged(pager, 3, 0, 50, 1, 0);
    }

    /** "the trust of the program becomes less by 10, but not below 1". */
    private static void trustNotBelowOne() {
        int[] trust = {100, 12, 11, 10, 2, 1};
        int[] want = {90, 2, 1, 1, 1, 1};
        for (int i = 0; i < trust.length; i++) {
            SparePager pager = sold(7, 7, 0);
            pager.trust(0, trust[i] - 50);
            judged(pager, 4, 0, want[i], 1, 1);
        }
    }

    /** "the trust becomes greater by 1, but not above 100". */
    private static void trustNotAboveHundred() {
        int[] trust = {1, 98, 99, 100};
        int[] want = {2, 99, 100, 100};
        for (int i = 0; i < trust.length; i++) {
            SparePager pager = sold(7, 7, 7);
            pager.trust(0, trust[i] - 50);
            judged(pager, 2, 5, want[i], 0, 0);
        }
    }

    /** "It is not sold any more then." */
    private static void judgedOnlyOnce() {
        for (int age : new int[] {0, 5, 7}) {
            SparePager pager = sold(7, 3, age);
            pager.touch(0, 0, false);
            Due.is("sold", pager.page(0, 0, 4) + pager.program(0, 11), 0);
            int trust = pager.program(0, 4);
            int credit = pager.program(0, 3);
            pager.drop(0, 0);
            Due.is("again", pager.touch(0, 0, false), 2);
            Due.is("trust", pager.program(0, 4), trust);
            Due.is("credit", pager.program(0, 3), credit);
        }
    }

    /** "nothing else happens": a stall leaves the page sold, and it is judged when it comes in. */
    private static void stallDoesNotJudge() {
        SparePager pager = Due.loaded("frames 2 0 0 9 4;run a 5 2;run b 9 2;in a 0 1");
        pager.ask(1);
        pager.touch(1, 0, false);
        Due.is("a stall", pager.touch(0, 0, false), 5);
        Due.is("sold still", pager.page(0, 0, 4), 1);
        Due.is("trust", pager.program(0, 4), 50);
        Due.is("credit", pager.program(0, 3), 5);
        pager.drop(1, 0);
        Due.is("then it is judged", pager.touch(0, 0, false), 4);
    }

    // ---- 3: asking

    /** "An offer is a page of a program that has not ended". */
    private static void offerHasNotEnded() {
        SparePager pager = Due.loaded("frames 4 0 0 9 4;run a 5 2;run b 9 2;in a 0;in b 0");
        Due.is("two", pager.count(14), 2);
        pager.end(0);
        Due.is("one", pager.count(14), 1);
        Due.is("of b", pager.offer(0, 0), 1);
        Due.is("none of a", pager.program(0, 7) + pager.page(0, 0, 7), 0);
    }

    /** "if it is in". */
    private static void offerIsIn() {
        SparePager pager = Due.loaded("frames 4 0 0 9 4;run a 5 2;in a 0");
        Due.is("in", pager.page(0, 0, 7), 1);
        Due.is("out", pager.page(0, 1, 7), 0);
        pager.drop(0, 0);
        Due.is("out then", pager.page(0, 0, 7), 0);
        pager.touch(0, 1, false);
        Due.is("in then", pager.page(0, 1, 7), 1);
    }

    /** "does not share its frame". */
    private static void offerDoesNotShare() {
        SparePager pager = Due.loaded("frames 4 0 0 9 4;run a 5 3;in a 0");
        pager.share(0, 0, 0, 1);
        Due.is("two share it", pager.page(0, 0, 7) + pager.page(0, 1, 7), 0);
        pager.drop(0, 0);
        Due.is("alone then", pager.page(0, 1, 7), 1);
    }

    /** "is not pinned". */
    private static void offerIsNotPinned() {
        SparePager pager = Due.loaded("frames 4 0 0 9 4;run a 5 3;in a 0 1;pin a 1");
        Due.is("not pinned", pager.page(0, 0, 7), 1);
        Due.is("pinned", pager.page(0, 1, 7), 0);
        pager.pin(0, 1, false);
        Due.is("not any more", pager.page(0, 1, 7), 1);
    }

    /** "the time less the time at which it was used last, plus BLUFF of its program, is IDLE (0 to 200) or more". */
    private static void offerIsIdle() {
        SparePager pager = Due.loaded("frames 4 9 0 9 4;run a 5 3 bluff 4;in a 0");
        pager.tick(3);
        pager.touch(0, 0, false);
        Due.is("4", pager.page(0, 0, 7), 0);
        pager.tick(4);
        Due.is("8", pager.page(0, 0, 7), 0);
        pager.tick(1);
        Due.is("9", pager.page(0, 0, 7), 1);
        pager.tick(1);
        Due.is("10", pager.page(0, 0, 7), 1);
    }

    /** The same with IDLE 0: a page that is used now is an offer. */
    private static void offerWithIdleNought() {
        SparePager pager = Due.loaded("frames 4 0 0 9 4;run a 5 3;in a 0");
        pager.tick(3);
        pager.touch(0, 0, false);
        Due.is("used now", pager.page(0, 0, 7), 1);
    }

    /** The same with IDLE 200, the time alone and with the greatest BLUFF. */
    private static void offerWithGreatestIdle() {
        SparePager pager = Due.loaded("frames 4 200 0 9 4;run a 5 1;run b 5 1 bluff 99;in a 0;in b 0");
        pager.tick(100);
        Due.is("199, with BLUFF 99", pager.count(14), 0);
        pager.tick(1);
        Due.is("200, with BLUFF 99", pager.program(1, 7), 1);
        pager.tick(98);
        Due.is("199", pager.program(0, 7), 0);
        pager.tick(1);
        Due.is("200", pager.program(0, 7), 1);
    }

    /** The same with a BLUFF that is IDLE, at the time 0. */
    private static void bluffCountsAsTime() {
        SparePager pager = Due.loaded("frames 4 5 0 9 4;run a 5 1 bluff 4;run b 5 1 bluff 5;run c 5 1 bluff 6"
                + ";in a 0;in b 0;in c 0");
        Due.is("4", pager.program(0, 7), 0);
        Due.is("5", pager.program(1, 7), 1);
        Due.is("6", pager.program(2, 7), 1);
    }

    /** "Its price is PRICE of its program, and 2 more if its frame is dirty." */
    private static void priceOfADirtyPage() {
        SparePager pager = Due.loaded("frames 4 0 0 9 4;run a 1 1;run b 99 1;in a 0;in b 0");
        Due.is("least", pager.offer(0, 2), 1);
        Due.is("most", pager.offer(1, 2), 99);
        pager.touch(0, 0, true);
        pager.touch(1, 0, true);
        Due.is("least, dirty", pager.offer(0, 2), 3);
        Due.is("most, dirty", pager.offer(1, 2), 101);
    }

    /** "price times 100, converted to float, divided by the trust, converted to float, as a float". */
    private static void worthAtTheEdges() {
        SparePager pager = Due.loaded("frames 4 0 0 9 4;run a 1 1;run b 99 1;in a 0;in b 0");
        pager.trust(0, 50);
        pager.trust(1, -49);
        pager.touch(1, 0, true);
        Due.isReal("least", pager.worth(0), 1.0);
        Due.isReal("most", pager.worth(1), 10100.0);
        for (int trust = 1; trust <= 100; trust++) {
            pager.trust(0, -99);
            if (trust > 1) {
                pager.trust(0, trust - 1);
            }
            Due.isReal("trust " + trust, pager.worth(0), 100.0f / (float) trust);
        }
    }

    private static void order(String what, SparePager pager, int... keys) {
        Due.is(what + ": offers", pager.count(14), keys.length);
        for (int i = 0; i < keys.length; i++) {
            Due.is(what + ": offer " + i, 12 * pager.offer(i, 0) + pager.offer(i, 1), keys[i]);
        }
    }

    /** "by their worth, the least first": before the time at which they were used. */
    private static void orderByWorth() {
        SparePager pager = Due.loaded("frames 4 0 0 9 4;run a 50 1;run b 49 1;in a 0;in b 0");
        order("by price", pager, 12, 0);
        pager.tick(1);
        pager.touch(1, 0, false);
        order("although used later", pager, 12, 0);
        pager.trust(0, 2);
        order("by trust", pager, 0, 12);
        pager.touch(0, 0, true);
        order("dirty", pager, 12, 0);
    }

    /** "then by the time at which the page was used last, the earliest first": before the program. */
    private static void orderByTime() {
        SparePager pager = Due.loaded("frames 4 0 0 9 4;run a 5 2;run b 5 2;in a 0 1;in b 0 1");
        order("at first", pager, 0, 1, 12, 13);
        pager.tick(1);
        pager.touch(0, 0, false);
        pager.touch(1, 0, false);
        order("used", pager, 1, 13, 0, 12);
        pager.tick(1);
        pager.touch(0, 0, false);
        order("used again", pager, 1, 13, 12, 0);
    }

    /** "then by program, then by page": of the same worth (by another price and trust), used at the same time. */
    private static void orderByProgramThenPage() {
        SparePager pager = Due.loaded("frames 9 0 0 9 4;run a 10 12;run b 5 12;in b 11 3;in a 11 2;in b 0");
        pager.trust(0, 50);
        Due.isReal("the same worth", pager.worth(0), pager.worth(4));
        order("all alike", pager, 2, 11, 12, 15, 23);
    }

    /** "so many, or all if there are not so many". */
    private static void askForMoreThanThereAre() {
        for (int pages = 1; pages <= 5; pages++) {
            SparePager pager = Due.loaded("frames 9 0 0 9 4;run a 10 12;in a 0 1 2");
            Due.is("ask for " + pages, pager.ask(pages), Math.min(3, pages));
            Due.is("credit", pager.program(0, 3), 10 * Math.min(3, pages));
            Due.is("bought", pager.count(10), Math.min(3, pages));
        }
    }

    /** "the first offers in this order, as it is at first, are bought". */
    private static void askInTheOrderAtFirst() {
        SparePager pager = Due.loaded("frames 9 0 0 9 4;run a 10 2;run b 9 2;run c 8 1;in a 0 1;in b 0 1;in c 0");
        pager.touch(1, 0, true);
        Due.is("ask", pager.ask(3), 3);
        Due.is("c.0", pager.page(2, 0, 6), 8);
        Due.is("b.1", pager.page(1, 1, 6), 9);
        Due.is("a.0", pager.page(0, 0, 6), 10);
        order("left", pager, 1, 12);
    }

    /** "Trust does not change while it is asked." */
    private static void askDoesNotChangeTrust() {
        SparePager pager = Due.loaded("frames 9 0 0 9 4;run a 10 2;in a 0 1");
        pager.trust(0, -49);
        pager.ask(2);
        Due.is("1", pager.program(0, 4), 1);
        SparePager trusted = Due.loaded("frames 9 0 0 9 4;run a 10 2;in a 0 1");
        trusted.trust(0, 50);
        trusted.ask(2);
        Due.is("100", trusted.program(0, 4), 100);
    }

    // ---- 4: taking

    private static void victims(String what, SparePager pager, int... keys) {
        for (int i = 0; i < keys.length; i++) {
            Due.is(what + ": victim " + (i + 1), pager.victim(i + 1), keys[i]);
        }
        Due.is(what + ": no more", pager.victim(keys.length + 1), -1);
        for (int i = 0; i < keys.length; i++) {
            Due.is(what + ": take", pager.take(1), 1);
            Due.is(what + ": it is out", pager.page(keys[i] / 12, keys[i] % 12, 0), -1);
        }
        Due.is(what + ": no more", pager.take(1), 0);
        for (int i = 0; i < keys.length; i++) {
            pager.undo();
        }
        pager.undo();
        Due.is(what + ": all at once", pager.take(72), keys.length);
    }

    /** "one behind the other (all is looked at anew for each)". */
    private static void takeLooksAnewForEach() {
        victims("2 and 4", Due.loaded("frames 9 0 0 9 4;run a 10 9;run b 1 9;in a 0 1;in b 0 1 2 3"),
                12, 13, 0, 14, 1, 15);
    }

    /** "one of the program that holds the most frames (shared ones, too ...)". */
    private static void takeFromTheOneThatHoldsTheMost() {
        SparePager pager = Due.loaded("frames 9 0 0 9 4;run a 10 9;run b 1 9;run c 1 9;in a 0 1;in b 0;in c 0 1");
        pager.share(2, 0, 1, 1);
        pager.share(2, 1, 1, 2);
        victims("b holds three", pager, 12, 0, 1);
    }

    /** "each frame once": three pages in one frame are one frame. */
    private static void takeCountsSharedFramesOnce() {
        SparePager pager = Due.loaded("frames 9 0 0 9 4;run a 10 9;run b 1 9;in b 0;in a 0 1;in b 1");
        pager.share(1, 0, 1, 2);
        pager.share(1, 0, 1, 3);
        Due.is("frames of b", pager.program(1, 6), 2);
        Due.is("pages of b", pager.program(1, 5), 4);
        victims("two each", pager, 0, 13, 1);
    }

    /** "of several programs of the smallest number". */
    private static void takeFromTheSmallestNumber() {
        victims("one each", Due.loaded("frames 9 0 0 9 4;run a 10 9;run b 1 9;run c 2 1;in c 0;in b 0;in a 0"),
                0, 12, 24);
    }

    /** "of its pages the one that was used last the earliest". */
    private static void takeTheIdlestPage() {
        SparePager pager = Due.loaded("frames 9 200 0 9 4;run a 10 9;in a 0 1 2");
        pager.tick(1);
        pager.touch(0, 1, false);
        pager.tick(1);
        pager.touch(0, 0, false);
        victims("by the time", pager, 2, 1, 0);
        SparePager two = Due.loaded("frames 9 200 0 9 4;run a 10 1;run b 10 2;run c 10 1;in a 0;in b 0 1;in c 0");
        two.tick(1);
        two.touch(1, 0, false);
        two.touch(1, 1, false);
        victims("a page of another program was used earlier", two, 12, 0, 13, 24);
    }

    /** "of several the smallest number". */
    private static void takeTheSmallestPage() {
        victims("by the number", Due.loaded("frames 12 200 0 9 4;run a 10 12;in a 11 3 0 7"), 0, 3, 7, 11);
    }

    /** "programs without such pages are not looked at": however many frames they hold. */
    private static void takeDoesNotLookAtProgramsWithoutSuchPages() {
        SparePager pager = Due.loaded("frames 9 0 0 9 4;run a 10 9;run b 1 9;run c 2 1;in b 0 1 2;in c 0"
                + ";pin b 0;pin b 1");
        pager.share(1, 2, 0, 0);
        Due.is("b holds three", pager.program(1, 6), 3);
        victims("c alone", pager, 24);
        victims("none", Due.loaded("frames 9 0 0 9 4;run a 10 9"));
    }

    /** "It leaves its frame, which is free at once, also if it is dirty (it is not in flight)". */
    private static void takeOfADirtyFrame() {
        SparePager pager = Due.loaded("frames 9 0 20 9 4;run a 10 9;in a 0 1");
        pager.touch(0, 0, true);
        pager.take(2);
        state("dirty", pager, 0, FREE, 0, -1);
        state("clean", pager, 1, FREE, 0, -1);
        Due.is("16: none in flight", pager.nextFree(), -1);
    }

    /** "the credit of its program becomes greater by three times its PRICE": also if it is dirty. */
    private static void takePaysThreeTimes() {
        for (int price : new int[] {1, 99}) {
            SparePager pager = Due.loaded("frames 9 0 20 9 4;run a " + price + " 9;in a 0 1");
            pager.touch(0, 0, true);
            pager.take(2);
            Due.is("credit", pager.program(0, 3), 6 * price);
        }
    }

    /** "It is not sold by that." */
    private static void takeSellsNothing() {
        SparePager pager = Due.loaded("frames 9 0 20 9 9;run a 7 9;in a 0");
        pager.take(1);
        Due.is("sold", pager.page(0, 0, 4) + pager.program(0, 11), 0);
        Due.is("no time", pager.page(0, 0, 5), -1);
        Due.is("nothing paid", pager.page(0, 0, 6), -1);
        Due.is("bought", pager.count(10), 0);
        Due.is("not judged", pager.touch(0, 0, false), 2);
    }

    // ---- 5: the watch list

    private static SparePager watchable() {
        SparePager pager = Due.loaded("frames 9 0 20 9 9;run a 7 9;run b 1 2;in a 0 1");
        pager.share(0, 1, 1, 1);
        return pager;
    }

    /** "places 0 to 3 are for pages that do not share their frames, or are out". */
    private static void placesForPagesThatDoNotShare() {
        for (int place = 0; place <= 3; place++) {
            SparePager pager = watchable();
            Due.is("alone", pager.watch(place, 0, 0), true);
            Due.is("alone", pager.watched(place), 0);
            Due.is("out", pager.watch(place, 0, 8), true);
            Due.is("out", pager.watched(place), 8);
            Due.is("shares", pager.watch(place, 0, 1), false);
            Due.is("what was there stays", pager.watched(place), 8);
        }
    }

    /** "places 4 and 5 are for pages that share their frames". */
    private static void placesForPagesThatShare() {
        for (int place = 4; place <= 5; place++) {
            SparePager pager = watchable();
            Due.is("alone", pager.watch(place, 0, 0), false);
            Due.is("out", pager.watch(place, 0, 8), false);
            Due.is("empty still", pager.watched(place), -1);
            Due.is("shares", pager.watch(place, 0, 1), true);
            Due.is("shares", pager.watched(place), 1);
            Due.is("the other one that shares", pager.watch(place, 1, 1), true);
            Due.is("in its place", pager.watched(place), 13);
            Due.is("alone", pager.watch(place, 0, 0), false);
            Due.is("what was there stays", pager.watched(place), 13);
        }
    }

    /** "What is put into a place stays there, whatever becomes of the page". */
    private static void placeKeepsWhatBecomesOfThePage() {
        SparePager pager = watchable();
        pager.watch(0, 0, 0);
        pager.watch(3, 0, 8);
        pager.watch(4, 0, 1);
        pager.watch(5, 1, 1);
        pager.share(0, 0, 1, 0);
        Due.is("shares now", pager.watched(0), 0);
        pager.drop(1, 1);
        Due.is("alone now", pager.watched(4), 1);
        Due.is("out now", pager.watched(5), 13);
        pager.touch(0, 8, true);
        Due.is("in now", pager.watched(3), 8);
        pager.ask(72);
        pager.take(72);
        pager.end(0);
        pager.end(1);
        int[] want = {0, -1, -1, 8, 1, 13};
        for (int place = 0; place < 6; place++) {
            Due.is("all have ended, place " + place, pager.watched(place), want[place]);
        }
    }
}
