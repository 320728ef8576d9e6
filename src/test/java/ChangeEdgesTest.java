/**
 * The sentences that name a boundary of promises 36 to 52, the changes, undo, save and restore. Each has a test of its
 * own, which names the promise. (What stays behind a refused call is in RefusedTest; touching, asking and taking as
 * such are in TermsEdgesTest.)
 */
public final class ChangeEdgesTest {
    private static final int[] FAR = {Integer.MIN_VALUE, Integer.MIN_VALUE + 1, -1000, 20000, Integer.MAX_VALUE};
    private static final String PLAIN = "frames 9 0 5 9 4;run a 7 4;run b 3 2;in a 0 1;in b 0";

    private interface Change {
        void by(SparePager pager, int number);
    }

    private ChangeEdgesTest() {
    }

    public static void main(String[] args) {
        touchNumbers();
        touchOfAnEndedProgram();
        touchAnswers();
        askPages();
        askForNothingThereIs();
        askForSixtyFour();
        takePages();
        takeAllOfThem();
        tickTicks();
        tickUpToTheLastTime();
        tickLandsSeveral();
        shareNumbers();
        shareRefusals();
        shareOfAllPages();
        shareIsNoTouch();
        shareForgetsTheSale();
        dropNumbers();
        dropRefusals();
        dropAnswers();
        pinNumbers();
        pinInAndOut();
        endNumbers();
        endTwice();
        endFreesWhatItHeldAlone();
        endOfAProgramThatHoldsNothing();
        endForgetsSalesAndPins();
        setPricePrices();
        setPriceOfAnEndedProgram();
        trustBy();
        trustAtItsBounds();
        trustOfAnEndedProgram();
        watchPlaces();
        watchOfAnEndedProgram();
        watchedPlaces();
        unwatchNoneAndAll();
        undoNone();
        undoOnlyEight();
        undoRingGoesRound();
        undoneIsGone();
        changesWithNothingDifferent();
        looksAreNoChanges();
        undoKeepsSavedStates();
        undoKeepsTheText();
        undoOfEachCount();
        saveSlots();
        saveReplaces();
        saveIsACopy();
        restoreSlots();
        restoreOfNothing();
        restoreStaysSaved();
        restoreClearsChanges();
        restoreBringsBackTime();
        loadForgetsSaved();
        loadLeavesNothing();
        failedLoadKeepsAll();
        Due.end();
    }

    /** Each number from the least to the most is taken and makes one change; those outside are refused. */
    private static void range(String what, int least, int most, Change change) {
        for (int number = least; number <= most; number++) {
            SparePager pager = Due.loaded(PLAIN);
            try {
                change.by(pager, number);
                Due.is(what + " " + number + " is a change", pager.undoable(), 1);
            } catch (RuntimeException e) {
                Due.tell(what + " " + number + " threw " + e);
            }
        }
        refuses(what, Due.ARGUMENT, least, most, change);
    }

    private static void indexes(String what, int most, Change change) {
        for (int number = 0; number <= most; number++) {
            change.by(Due.loaded(PLAIN), number);
        }
        refuses(what, Due.INDEX, 0, most, change);
    }

    private static void refuses(String what, Class<?> kind, int least, int most, Change change) {
        SparePager pager = Due.loaded(PLAIN);
        String before = Due.told(pager);
        Due.refuses(what + " " + (least - 1), kind, () -> change.by(pager, least - 1));
        Due.refuses(what + " " + (most + 1), kind, () -> change.by(pager, most + 1));
        for (int far : FAR) {
            Due.refuses(what + " " + far, kind, () -> change.by(pager, far));
        }
        Due.isText(what + ": all stays", Due.told(pager), before);
    }

    // ---- 36: touch

    private static void touchNumbers() {
        indexes("36: program", 1, (pager, program) -> pager.touch(program, 0, true));
        indexes("36: page of a", 3, (pager, page) -> pager.touch(0, page, true));
        indexes("36: page of b", 1, (pager, page) -> pager.touch(1, page, false));
    }

    private static void touchOfAnEndedProgram() {
        SparePager pager = Due.loaded(PLAIN);
        pager.end(1);
        Due.refuses("36: ended", Due.ARGUMENT, () -> pager.touch(1, 0, false));
        Due.refuses("36: no such page first", Due.INDEX, () -> pager.touch(1, 2, false));
        Due.is("36: the other one has not", pager.touch(0, 0, false), 0);
    }

    private static void touchAnswers() {
        SparePager pager = Due.loaded("frames 3 0 0 9 4;run a 7 4;run b 3 2;in a 0 1");
        Due.is("36: in", pager.touch(0, 0, true), 0);
        pager.share(0, 0, 1, 0);
        Due.is("36: copied", pager.touch(1, 0, true), 1);
        Due.is("36: a stall", pager.touch(0, 2, true), 5);
        pager.drop(0, 1);
        Due.is("36: a fault", pager.touch(0, 2, true), 2);
        pager.ask(1);
        pager.tick(4);
        Due.is("36: with a refund", pager.touch(1, 0, true), 3);
        pager.ask(1);
        pager.tick(3);
        Due.is("36: a lie", pager.touch(1, 0, true), 4);
    }

    // ---- 37: ask

    private static void askPages() {
        range("37: pages", 1, 72, SparePager::ask);
    }

    private static void askForNothingThereIs() {
        SparePager pager = Due.loaded("frames 9 0 5 9 4;run a 7 4");
        Due.is("37: no offers", pager.ask(1), 0);
        Due.is("37: a change", pager.undoable(), 1);
        Due.is("37: bought", pager.count(10), 0);
        Due.is("37: no program", Due.loaded("frames 2 0 0 0 0").ask(72), 0);
    }

    private static SparePager sixtyFour() {
        StringBuilder text = new StringBuilder("frames 64 0 20 9 4");
        for (char name = 'a'; name <= 'f'; name++) {
            text.append(";run ").append(name).append(" 1 12;in ").append(name);
            for (int page = 0; page < (name == 'f' ? 4 : 12); page++) {
                text.append(' ').append(page);
            }
        }
        return Due.loaded(text.toString());
    }

    private static void askForSixtyFour() {
        SparePager pager = sixtyFour();
        Due.is("37: 63", pager.ask(63), 63);
        Due.is("37: f.3 is left", pager.page(5, 3, 0), 63);
        Due.is("37: the last one", pager.ask(72), 1);
        Due.is("37: bought", pager.count(10), 64);
        Due.is("37: none", pager.ask(72), 0);
        pager.undo();
        pager.undo();
        Due.is("37: again", pager.ask(72), 1);
        Due.is("10: sold", pager.program(0, 11), 12);
    }

    // ---- 38: take

    private static void takePages() {
        range("38: pages", 1, 72, SparePager::take);
    }

    private static void takeAllOfThem() {
        SparePager pager = sixtyFour();
        Due.is("38: 63", pager.take(63), 63);
        Due.is("38: the last one", pager.take(72), 1);
        Due.is("38: taken", pager.count(11), 64);
        Due.is("38: none", pager.take(72), 0);
        Due.is("38: a change", pager.undoable(), 3);
        Due.is("38: no program", Due.loaded("frames 2 0 0 0 0").take(1), 0);
    }

    // ---- 39: tick

    private static void tickTicks() {
        range("39: ticks", 1, 200, (pager, ticks) -> {
            pager.tick(ticks);
            Due.is("39: the time", pager.count(5), ticks);
        });
    }

    /** "or the time would be greater than 9999". */
    private static void tickUpToTheLastTime() {
        SparePager pager = Due.loaded(PLAIN);
        for (int i = 0; i < 49; i++) {
            pager.tick(200);
        }
        Due.is("39: the time", pager.count(5), 9800);
        Due.refuses("39: 10000", Due.ARGUMENT, () -> pager.tick(200));
        Due.is("39: stays", pager.count(5), 9800);
        pager.tick(198);
        Due.refuses("39: 10000", Due.ARGUMENT, () -> pager.tick(2));
        pager.tick(1);
        Due.is("39: the time", pager.count(5), 9999);
        String before = Due.told(pager);
        for (int ticks : new int[] {1, 2, 200}) {
            Due.refuses("39: " + ticks + " more", Due.ARGUMENT, () -> pager.tick(ticks));
        }
        Due.isText("39: all stays", Due.told(pager), before);
        pager.undo();
        Due.is("39: the time", pager.count(5), 9998);
        Due.is("39: 9999 again", pager.tick(1), 0);
    }

    /** "how many frames that were in flight become free by that": not those that were free. */
    private static void tickLandsSeveral() {
        SparePager pager = Due.loaded("frames 9 0 3 9 4;run a 7 8;in a 0 1 2 3 4");
        pager.touch(0, 0, true);
        pager.touch(0, 1, true);
        pager.touch(0, 2, true);
        pager.drop(0, 4);
        pager.drop(0, 0);
        pager.drop(0, 1);
        Due.is("39: not yet", pager.tick(1), 0);
        pager.drop(0, 2);
        Due.is("39: not yet", pager.tick(1), 0);
        Due.is("39: two", pager.tick(1), 2);
        Due.is("39: one", pager.tick(1), 1);
        Due.is("39: none", pager.tick(200), 0);
        pager.undo();
        pager.undo();
        pager.undo();
        Due.is("39: all three", pager.tick(200), 3);
    }

    // ---- 40: share

    private static void shareNumbers() {
        indexes("40: program", 1, (pager, program) -> pager.share(program, 0, 0, 2));
        for (int its = 0; its <= 11; its++) {
            Due.is("40: its " + its, Due.loaded(PLAIN + ";run c 1 12").share(0, 0, 2, its), 2);
        }
        refuses("40: page", Due.INDEX, 0, 3, (pager, page) -> pager.share(0, page, 1, 1));
        refuses("40: page of b", Due.INDEX, 0, 1, (pager, page) -> pager.share(1, page, 0, 2));
        refuses("40: other", Due.INDEX, 0, 1, (pager, other) -> pager.share(0, 0, other, 1));
        refuses("40: its", Due.INDEX, 0, 3, (pager, its) -> pager.share(1, 0, 0, its));
        refuses("40: its, of b", Due.INDEX, 0, 1, (pager, its) -> pager.share(0, 0, 1, its));
    }

    /** "one of the programs has ended, the first page is out, or the other one is in". */
    private static void shareRefusals() {
        SparePager pager = Due.loaded(PLAIN);
        Due.refuses("40: the first page is out", Due.ARGUMENT, () -> pager.share(0, 2, 1, 1));
        Due.refuses("40: the other one is in", Due.ARGUMENT, () -> pager.share(0, 0, 1, 0));
        Due.refuses("40: both", Due.ARGUMENT, () -> pager.share(0, 2, 1, 0));
        Due.refuses("40: the same page, in", Due.ARGUMENT, () -> pager.share(0, 0, 0, 0));
        Due.refuses("40: the same page, out", Due.ARGUMENT, () -> pager.share(0, 2, 0, 2));
        Due.refuses("40: out, and no such page", Due.INDEX, () -> pager.share(0, 2, 1, 2));
        pager.end(1);
        Due.refuses("40: the first one has ended", Due.ARGUMENT, () -> pager.share(1, 0, 0, 2));
        Due.refuses("40: the other one has ended", Due.ARGUMENT, () -> pager.share(0, 0, 1, 1));
        Due.refuses("40: ended, and no such page", Due.INDEX, () -> pager.share(1, 0, 0, 4));
        Due.refuses("40: ended, and no such program", Due.INDEX, () -> pager.share(1, 0, 2, 0));
        Due.is("40: no changes", pager.undoable(), 1);
        Due.is("40: of the same program", pager.share(0, 0, 0, 2), 2);
    }

    /** "Returns how many pages are in the frame then": up to all 72 pages. */
    private static void shareOfAllPages() {
        StringBuilder text = new StringBuilder("frames 2 0 0 0 0");
        for (char name = 'a'; name <= 'f'; name++) {
            text.append(";run ").append(name).append(" 1 12");
        }
        SparePager pager = Due.loaded(text + ";in c 5");
        int inside = 1;
        for (int row = 0; row < 72; row++) {
            if (row != 29) {
                inside++;
                Due.is("40: pages", pager.share(2, 5, row / 12, row % 12), inside);
            }
        }
        Due.is("12: all of them", pager.frame(0, 3), 72);
        Due.is("21: of each", pager.sharers(5, 11), 63);
        Due.is("8: one frame is shared", pager.count(15), 1);
        Due.is("33: 9.", pager.writeFrames(), 2);
        Due.is("33: 9.", pager.textByte(0), '9');
        Due.is("41: 71 left", pager.drop(0, 0), 71);
        Due.is("36: copied", pager.touch(5, 11, true), 1);
        Due.is("36: no frame any more", pager.touch(5, 10, true), 5);
    }

    /** "it is used now ...; it is no touch, and the frame stays dirty or not". */
    private static void shareIsNoTouch() {
        for (boolean isDirty : new boolean[] {false, true}) {
            SparePager pager = Due.loaded(PLAIN);
            pager.touch(0, 0, isDirty);
            pager.tick(7);
            pager.share(0, 0, 1, 1);
            Due.is("40: used now", pager.page(1, 1, 1), 7);
            Due.is("40: the first page is not", pager.page(0, 0, 1), 0);
            Due.is("40: no touch", pager.count(6), 1);
            Due.is("40: no fault", pager.count(7) + pager.program(1, 8), 0);
            Due.is("40: dirty or not", pager.frame(0, 1), isDirty ? 1 : 0);
        }
    }

    /** "it is not sold any more (without being judged)": neither refund nor trust. */
    private static void shareForgetsTheSale() {
        for (int age : new int[] {0, 4, 9}) {
            SparePager pager = Due.loaded(PLAIN);
            Due.is("b.0 is bought", pager.ask(1), 1);
            if (age > 0) {
                pager.tick(age);
            }
            pager.share(0, 0, 1, 0);
            Due.is("40: not sold", pager.page(1, 0, 4) + pager.program(1, 11), 0);
            Due.is("40: no time", pager.page(1, 0, 5), -1);
            Due.is("40: nothing paid", pager.page(1, 0, 6), -1);
            Due.is("40: trust", pager.program(1, 4), 50);
            Due.is("40: credit", pager.program(1, 3), 3);
            Due.is("40: no refund, no lie", pager.count(12) + pager.count(13), 0);
            pager.drop(1, 0);
            Due.is("36: a plain fault", pager.touch(1, 0, false), 2);
            Due.is("36: trust", pager.program(1, 4), 50);
        }
    }

    // ---- 41: drop

    private static void dropNumbers() {
        indexes("41: program", 1, (pager, program) -> pager.drop(program, 0));
        for (int page = 0; page <= 3; page++) {
            Due.is("41: page " + page, Due.loaded(PLAIN + ";in a 2 3").drop(0, page), 0);
        }
        refuses("41: page", Due.INDEX, 0, 3, (pager, page) -> pager.drop(0, page));
        refuses("41: page of b", Due.INDEX, 0, 1, (pager, page) -> pager.drop(1, page));
    }

    /** "if the program has ended, the page is out, or it is pinned". */
    private static void dropRefusals() {
        SparePager pager = Due.loaded(PLAIN + ";pin a 1;pin a 2");
        Due.refuses("41: out", Due.ARGUMENT, () -> pager.drop(0, 3));
        Due.refuses("41: pinned", Due.ARGUMENT, () -> pager.drop(0, 1));
        Due.refuses("41: out and pinned", Due.ARGUMENT, () -> pager.drop(0, 2));
        pager.share(0, 1, 1, 1);
        Due.refuses("41: pinned and shared", Due.ARGUMENT, () -> pager.drop(0, 1));
        Due.is("41: the one that it shares with is not", pager.drop(1, 1), 1);
        pager.pin(0, 1, false);
        Due.is("41: not pinned any more", pager.drop(0, 1), 0);
        pager.end(0);
        Due.refuses("41: ended", Due.ARGUMENT, () -> pager.drop(0, 0));
        Due.refuses("41: ended, and no such page", Due.INDEX, () -> pager.drop(0, 4));
    }

    private static void dropAnswers() {
        SparePager pager = Due.loaded(PLAIN);
        pager.share(0, 0, 0, 2);
        pager.share(0, 0, 1, 1);
        Due.is("41: two left", pager.drop(0, 0), 2);
        Due.is("41: one left", pager.drop(1, 1), 1);
        Due.is("41: none left", pager.drop(0, 2), 0);
        Due.is("41: free", pager.frame(0, 0), 0);
        Due.is("41: not sold", pager.program(0, 11) + pager.program(1, 11), 0);
        Due.is("41: no credit", pager.program(0, 3) + pager.program(1, 3), 0);
    }

    // ---- 42: pin

    private static void pinNumbers() {
        indexes("42: program", 1, (pager, program) -> pager.pin(program, 0, true));
        indexes("42: page", 3, (pager, page) -> pager.pin(0, page, true));
        indexes("42: page of b", 1, (pager, page) -> pager.pin(1, page, false));
        SparePager pager = Due.loaded(PLAIN);
        pager.end(0);
        Due.refuses("42: ended", Due.ARGUMENT, () -> pager.pin(0, 0, true));
        Due.refuses("42: ended, and no such page", Due.INDEX, () -> pager.pin(0, 4, true));
    }

    /** "Pins a page, in or out, or does so no more"; "Returns whether it was pinned". */
    private static void pinInAndOut() {
        SparePager pager = Due.loaded(PLAIN);
        for (int page : new int[] {0, 3}) {
            Due.is("42: no more, and it was not", pager.pin(0, page, false), false);
            Due.is("42: pinned", pager.pin(0, page, true), false);
            Due.is("42: again", pager.pin(0, page, true), true);
            Due.is("42: it is", pager.page(0, page, 2), 1);
            Due.is("42: no more", pager.pin(0, page, false), true);
            Due.is("42: it is not", pager.page(0, page, 2), 0);
        }
        Due.is("42: changes", pager.undoable(), 8);
    }

    // ---- 43: end

    private static void endNumbers() {
        indexes("43: program", 1, SparePager::end);
    }

    private static void endTwice() {
        SparePager pager = Due.loaded(PLAIN);
        Due.is("43: end", pager.end(0), 2);
        Due.refuses("43: again", Due.ARGUMENT, () -> pager.end(0));
        Due.is("43: the other one", pager.end(1), 1);
        pager.undo();
        Due.is("43: not any more", pager.end(1), 1);
    }

    /** "which are free at once, dirty ones too, if no other page is in them". */
    private static void endFreesWhatItHeldAlone() {
        SparePager pager = Due.loaded(PLAIN);
        pager.touch(0, 0, true);
        pager.touch(0, 1, true);
        pager.share(0, 1, 1, 1);
        pager.share(0, 0, 0, 2);
        Due.is("43: frame 0 only", pager.end(0), 1);
        Due.is("43: free, not in flight", pager.frame(0, 0), 0);
        Due.is("43: held by b", pager.frame(1, 0), 1);
        Due.is("43: dirty still", pager.frame(1, 1), 1);
        Due.is("43: no page of it is in", pager.program(0, 5) + pager.program(0, 6), 0);
        Due.is("43: both of b", pager.end(1), 2);
        Due.is("43: all are free", pager.count(2), 9);
    }

    private static void endOfAProgramThatHoldsNothing() {
        SparePager pager = Due.loaded("frames 9 0 5 9 4;run a 7 4;run b 1 1");
        Due.is("43: none", pager.end(0), 0);
        Due.is("43: a change", pager.undoable(), 1);
        SparePager flying = Due.loaded(PLAIN);
        flying.touch(1, 0, true);
        flying.drop(1, 0);
        Due.is("43: what is in flight stays so", flying.end(1), 0);
        Due.is("43: in flight", flying.frame(2, 2), 5);
    }

    /** "credit and trust stay, nothing is judged; no page of it is sold or pinned any more". */
    private static void endForgetsSalesAndPins() {
        SparePager pager = Due.loaded(PLAIN + ";pin b 1");
        pager.ask(1);
        pager.trust(1, 9);
        pager.end(1);
        Due.is("43: credit", pager.program(1, 3), 3);
        Due.is("43: trust", pager.program(1, 4), 59);
        Due.is("43: not sold", pager.program(1, 11) + pager.page(1, 0, 4), 0);
        Due.is("43: no time", pager.page(1, 0, 5), -1);
        Due.is("43: not pinned", pager.page(1, 1, 2), 0);
        Due.is("43: no refund, no lie", pager.count(12) + pager.count(13), 0);
    }

    // ---- 44 and 45: setPrice, trust

    private static void setPricePrices() {
        range("44: price", 1, 99, (pager, price) -> {
            Due.is("44: the previous one", pager.setPrice(1, price), 3);
            Due.is("44: PRICE", pager.program(1, 0), price);
        });
        indexes("44: program", 1, (pager, program) -> pager.setPrice(program, 5));
        Due.refuses("44: no such program first", Due.INDEX, () -> Due.loaded(PLAIN).setPrice(2, 0));
        Due.refuses("44: no such program first", Due.INDEX, () -> Due.loaded(PLAIN).setPrice(-1, 100));
    }

    private static void setPriceOfAnEndedProgram() {
        SparePager pager = Due.loaded(PLAIN);
        pager.end(0);
        Due.is("44: ended", pager.setPrice(0, 99), 7);
        Due.is("44: PRICE", pager.program(0, 0), 99);
    }

    private static void trustBy() {
        range("45: by", -99, 99, (pager, by) -> {
            int want = Math.max(1, Math.min(100, 50 + by));
            Due.is("45: the trust then", pager.trust(1, by), want);
            Due.is("45: trust", pager.program(1, 4), want);
        });
        indexes("45: program", 1, (pager, program) -> pager.trust(program, 1));
        Due.refuses("45: no such program first", Due.INDEX, () -> Due.loaded(PLAIN).trust(2, 100));
        Due.refuses("45: no such program first", Due.INDEX, () -> Due.loaded(PLAIN).trust(-1, -100));
    }

    /** "but not below 1 and not above 100". */
    private static void trustAtItsBounds() {
        SparePager pager = Due.loaded(PLAIN);
        Due.is("45: 1", pager.trust(0, -49), 1);
        Due.is("45: 1 still", pager.trust(0, -1), 1);
        Due.is("45: 2", pager.trust(0, 1), 2);
        Due.is("45: 100", pager.trust(0, 98), 100);
        Due.is("45: 100 still", pager.trust(0, 1), 100);
        Due.is("45: 100 still", pager.trust(0, 99), 100);
        Due.is("45: 1", pager.trust(0, -99), 1);
    }

    private static void trustOfAnEndedProgram() {
        SparePager pager = Due.loaded(PLAIN);
        pager.end(0);
        Due.is("45: ended", pager.trust(0, 5), 55);
    }

    // ---- 46 to 48: watch, watched, unwatch

    private static void watchPlaces() {
        indexes("46: place", 5, (pager, place) -> pager.watch(place, 0, 0));
        indexes("46: program", 1, (pager, program) -> pager.watch(0, program, 0));
        indexes("46: page", 3, (pager, page) -> pager.watch(0, 0, page));
        indexes("46: page of b", 1, (pager, page) -> pager.watch(5, 1, page));
        SparePager pager = Due.loaded(PLAIN);
        for (int place = 0; place <= 5; place++) {
            Due.is("46: place " + place, pager.watch(place, 1, 1), place <= 3);
            Due.is("46: a change, also if not", pager.undoable(), place + 1);
            Due.is("47: place " + place, pager.watched(place), place <= 3 ? 13 : -1);
        }
    }

    /** "also of a program that has ended". */
    private static void watchOfAnEndedProgram() {
        SparePager pager = Due.loaded(PLAIN);
        pager.end(1);
        Due.is("46: it is out", pager.watch(3, 1, 0), true);
        Due.is("46: it shares nothing", pager.watch(4, 1, 0), false);
        Due.is("47: b.0", pager.watched(3), 12);
    }

    private static void watchedPlaces() {
        SparePager pager = Due.loaded("frames 64 0 0 0 0;run a 1 12;run b 1 12;run c 1 12;run d 1 12"
                + ";run e 1 12;run f 1 12");
        for (int place : new int[] {-1, 6, Integer.MIN_VALUE, Integer.MAX_VALUE}) {
            Due.refuses("47: place " + place, Due.INDEX, () -> pager.watched(place));
        }
        for (int place = 0; place <= 5; place++) {
            Due.is("47: empty", pager.watched(place), -1);
        }
        pager.watch(0, 0, 0);
        pager.watch(1, 5, 11);
        Due.is("47: the least", pager.watched(0), 0);
        Due.is("47: the most", pager.watched(1), 71);
    }

    private static void unwatchNoneAndAll() {
        SparePager pager = Due.loaded(PLAIN);
        Due.is("48: none", pager.unwatch(), 0);
        pager.share(0, 0, 0, 2);
        for (int place = 0; place <= 5; place++) {
            pager.watch(place, 0, place <= 3 ? 1 : 2);
        }
        Due.is("48: all six", pager.unwatch(), 6);
        for (int place = 0; place <= 5; place++) {
            Due.is("48: empty", pager.watched(place), -1);
        }
        Due.is("48: none", pager.unwatch(), 0);
        Due.is("48: changes", pager.undoable(), 8);
        pager.undo();
        pager.undo();
        Due.is("49: all six again", pager.unwatch(), 6);
    }

    // ---- 49 and 50: undo, undoable

    private static void undoNone() {
        SparePager pager = new SparePager();
        Due.is("50: new", pager.undoable(), 0);
        Due.refuses("49: new", Due.STATE, pager::undo);
        Due.load(pager, PLAIN);
        Due.is("50: loaded", pager.undoable(), 0);
        Due.refuses("49: loaded", Due.STATE, pager::undo);
        pager.tick(1);
        Due.is("49: one", pager.undo(), 0);
        Due.refuses("49: no more", Due.STATE, pager::undo);
        Due.is("50: none", pager.undoable(), 0);
    }

    /** "Only the latest 8 changes ... are kept for this." */
    private static void undoOnlyEight() {
        for (int changes = 1; changes <= 20; changes++) {
            SparePager pager = Due.loaded(PLAIN);
            for (int i = 1; i <= changes; i++) {
                pager.tick(1);
                Due.is("50: undoable", pager.undoable(), Math.min(8, i));
            }
            int kept = Math.min(8, changes);
            for (int i = 1; i <= kept; i++) {
                Due.is("49: left", pager.undo(), kept - i);
                Due.is("49: the time", pager.count(5), changes - i);
            }
            Due.refuses("49: no more", Due.STATE, pager::undo);
            Due.is("49: the time stays", pager.count(5), changes - kept);
        }
    }

    /** The eight go round and round, with some of them undone in between. */
    private static void undoRingGoesRound() {
        SparePager pager = Due.loaded(PLAIN);
        int[] times = new int[500];
        int known = 0;
        for (int round = 0; round < 12; round++) {
            for (int i = 0; i < 5 + round % 6; i++) {
                times[known] = pager.count(5);
                known++;
                pager.tick(1 + round);
            }
            int undone = 1 + round % 7;
            int can = pager.undoable();
            for (int i = 0; i < undone && i < can; i++) {
                known--;
                Due.is("49: left", pager.undo(), can - i - 1);
                Due.is("49: the time", pager.count(5), times[known]);
            }
        }
    }

    /** "the latest change that has not been undone": what is undone does not come again. */
    private static void undoneIsGone() {
        SparePager pager = Due.loaded(PLAIN);
        pager.tick(1);
        pager.tick(10);
        pager.undo();
        pager.tick(100);
        Due.is("the time", pager.count(5), 101);
        Due.is("49: the 100", pager.undo(), 1);
        Due.is("the time", pager.count(5), 1);
        Due.is("49: the 1", pager.undo(), 0);
        Due.is("the time", pager.count(5), 0);
        Due.refuses("49: no more", Due.STATE, pager::undo);
    }

    /** "each call of one of them that succeeds is a change, even if nothing is different then". */
    private static void changesWithNothingDifferent() {
        SparePager pager = Due.loaded("frames 2 9 0 0 0;run a 7 4;run b 1 1;in a 0 1;pin a 0;pin a 1");
        String before = Due.machine(pager);
        pager.ask(1);
        pager.take(1);
        pager.pin(0, 0, true);
        pager.setPrice(0, 7);
        pager.trust(0, 0);
        pager.watch(5, 0, 0);
        pager.unwatch();
        Due.is("50: seven changes", pager.undoable(), 7);
        Due.isText("nothing is different", Due.machine(pager), before);
    }

    private static void looksAreNoChanges() {
        SparePager pager = Due.loaded(PLAIN);
        pager.tick(1);
        Due.machine(pager);
        pager.would(0, 3, true);
        pager.victim(2);
        pager.creditIf(0, 2);
        pager.leastPrice(0);
        pager.costOf(2);
        pager.offersIn(9);
        pager.freeIn(9);
        pager.ticksTo(9);
        pager.writeProgram(0);
        pager.writeFrames();
        pager.writeOffers();
        pager.save(0);
        Due.find(pager, "a");
        pager.append(0, 0, 0, 0, 0);
        Due.is("50: one change", pager.undoable(), 1);
    }

    /** "all is as before it, but saved states and the text that was written". */
    private static void undoKeepsSavedStates() {
        SparePager pager = Due.loaded(PLAIN);
        pager.tick(1);
        pager.save(0);
        pager.tick(2);
        pager.save(1);
        pager.undo();
        pager.undo();
        Due.is("49: the time", pager.count(5), 0);
        Due.is("51: slot 1 is as it was saved", pager.restore(1), 3);
        Due.is("51: slot 0, too", pager.restore(0), 1);
    }

    private static void undoKeepsTheText() {
        SparePager pager = Due.loaded(PLAIN);
        pager.writeFrames();
        pager.drop(0, 0);
        int length = pager.writeFrames();
        pager.undo();
        Due.isText("49: the text", Due.read(pager, length), ".11......");
        Due.refuses("35: its end", Due.INDEX, () -> pager.textByte(length));
    }

    /** "all is as before it": each count, trust and credit, too. */
    private static void undoOfEachCount() {
        SparePager pager = Due.loaded("frames 3 0 3 9 4;run a 7 4;run b 3 2;in a 0;in b 0");
        pager.share(0, 0, 1, 1);
        String[] before = new String[8];
        for (int i = 0; i < 8; i++) {
            before[i] = Due.machine(pager);
            switch (i) {
                case 0 -> Due.is("copied", pager.touch(1, 1, true), 1);
                case 1 -> Due.is("a stall", pager.touch(0, 3, true), 5);
                case 2 -> Due.is("bought", pager.ask(2), 2);
                case 3 -> Due.is("a lie", pager.touch(1, 0, true), 4);
                case 4 -> Due.is("time", pager.tick(5), 1);
                case 5 -> Due.is("a refund", pager.touch(1, 1, false), 3);
                case 6 -> Due.is("taken", pager.take(72), 3);
                default -> Due.is("ended", pager.end(1), 0);
            }
        }
        for (int i = 7; i >= 0; i--) {
            Due.is("49: left", pager.undo(), i);
            Due.isText("49: all is as before change " + i, Due.machine(pager), before[i]);
        }
    }

    // ---- 51 and 52: save, restore

    private static void saveSlots() {
        SparePager pager = Due.loaded(PLAIN);
        pager.tick(7);
        Due.is("51: slot 0", pager.save(0), 7);
        Due.is("51: slot 1", pager.save(1), 7);
        for (int slot : new int[] {-1, 2, Integer.MIN_VALUE, Integer.MAX_VALUE}) {
            Due.refuses("51: slot " + slot, Due.INDEX, () -> pager.save(slot));
        }
        Due.is("51: no change", pager.undoable(), 1);
        SparePager none = new SparePager();
        Due.refuses("51: no text was loaded", Due.STATE, () -> none.save(0));
        Due.refuses("51: that comes first", Due.STATE, () -> none.save(2));
    }

    /** "in place of what was saved there". */
    private static void saveReplaces() {
        SparePager pager = Due.loaded(PLAIN);
        pager.save(0);
        pager.save(1);
        pager.tick(7);
        Due.is("51: again", pager.save(0), 7);
        pager.tick(1);
        Due.is("52: the other slot stays", pager.restore(1), 0);
        Due.is("52: the later one", pager.restore(0), 7);
    }

    private static void saveIsACopy() {
        SparePager pager = Due.loaded(PLAIN);
        pager.watch(0, 0, 0);
        pager.save(0);
        String saved = Due.machine(pager);
        pager.touch(0, 0, true);
        pager.tick(9);
        pager.unwatch();
        pager.end(1);
        pager.restore(0);
        Due.isText("52: as it was", Due.machine(pager), saved);
        pager.setPrice(0, 99);
        pager.drop(0, 0);
        pager.restore(0);
        Due.isText("52: as it was, again", Due.machine(pager), saved);
    }

    /** "if there is no such slot" comes before "if nothing is saved there". */
    private static void restoreSlots() {
        for (boolean isLoaded : new boolean[] {false, true}) {
            SparePager pager = isLoaded ? Due.loaded(PLAIN) : new SparePager();
            for (int slot : new int[] {-1, 2, Integer.MIN_VALUE, Integer.MAX_VALUE}) {
                Due.refuses("52: slot " + slot, Due.INDEX, () -> pager.restore(slot));
            }
            Due.refuses("52: slot 0", Due.STATE, () -> pager.restore(0));
            Due.refuses("52: slot 1", Due.STATE, () -> pager.restore(1));
        }
    }

    private static void restoreOfNothing() {
        for (int slot = 0; slot <= 1; slot++) {
            int other = 1 - slot;
            SparePager pager = Due.loaded(PLAIN);
            pager.tick(3);
            pager.save(slot);
            String before = Due.told(pager);
            Due.refuses("52: nothing there", Due.STATE, () -> pager.restore(other));
            Due.isText("52: all stays", Due.told(pager), before);
            Due.is("52: what is saved", pager.restore(slot), 3);
        }
    }

    /** "it stays saved". */
    private static void restoreStaysSaved() {
        SparePager pager = Due.loaded(PLAIN);
        pager.tick(3);
        pager.save(1);
        for (int i = 0; i < 3; i++) {
            pager.tick(50);
            Due.is("52: the time", pager.restore(1), 3);
        }
    }

    /** "Nothing can be undone afterwards." */
    private static void restoreClearsChanges() {
        SparePager pager = Due.loaded(PLAIN);
        for (int i = 0; i < 9; i++) {
            pager.tick(1);
        }
        pager.save(0);
        Due.is("50: before", pager.undoable(), 8);
        pager.restore(0);
        Due.is("50: afterwards", pager.undoable(), 0);
        Due.refuses("49: afterwards", Due.STATE, pager::undo);
        pager.tick(1);
        pager.tick(1);
        Due.is("50: since then", pager.undoable(), 2);
        pager.undo();
        Due.is("49: since then", pager.undo(), 0);
        Due.is("49: the time", pager.count(5), 9);
        Due.refuses("49: no further", Due.STATE, pager::undo);
    }

    /** "Returns the time in the restored state": a time that has passed comes again. */
    private static void restoreBringsBackTime() {
        SparePager pager = Due.loaded("frames 2 0 20 9 4;run a 7 4;in a 0");
        pager.touch(0, 0, true);
        pager.drop(0, 0);
        pager.save(0);
        pager.tick(200);
        Due.is("free", pager.frame(0, 0), 0);
        pager.save(1);
        Due.is("52: 0", pager.restore(0), 0);
        Due.is("in flight again", pager.frame(0, 2), 20);
        Due.is("39: it lands again", pager.tick(20), 1);
        Due.is("52: 200", pager.restore(1), 200);
        Due.is("free", pager.frame(0, 0), 0);
    }

    /** Promise 3: "nothing can be undone, and no state is saved". */
    private static void loadForgetsSaved() {
        SparePager pager = Due.loaded(PLAIN);
        pager.watch(0, 0, 0);
        pager.tick(9);
        pager.save(0);
        pager.save(1);
        Due.load(pager, PLAIN);
        Due.is("3: the time", pager.count(5), 0);
        Due.is("3: the watch list", pager.watched(0), -1);
        Due.is("3: changes", pager.undoable(), 0);
        Due.refuses("3: undo", Due.STATE, pager::undo);
        Due.refuses("3: slot 0", Due.STATE, () -> pager.restore(0));
        Due.refuses("3: slot 1", Due.STATE, () -> pager.restore(1));
    }

    /** "On success the machine replaces the previous one": nothing of it is left, nor of what would have been. */
    private static void loadLeavesNothing() {
        String fresh = Due.told(Due.loaded(PLAIN));
        SparePager pager = Due.loaded(PLAIN + ";in a 2 3;pin a 3;run c 9 12 bluff 99");
        pager.touch(0, 0, true);
        pager.share(0, 0, 1, 1);
        pager.tick(9);
        pager.ask(1);
        pager.touch(1, 0, true);
        pager.ask(2);
        pager.take(1);
        pager.trust(0, -9);
        pager.end(1);
        pager.would(0, 0, true);
        pager.victim(1);
        Due.load(pager, PLAIN);
        Due.isText("3: as a new one", Due.told(pager), fresh);
        Due.refuses("3: no program c", Due.INDEX, () -> pager.program(2, 0));
        Due.is("7: no program c", Due.find(pager, "c"), -1);
    }

    /** "the previous machine stays", with the watch list, what can be undone and what is saved. */
    private static void failedLoadKeepsAll() {
        SparePager pager = Due.loaded(PLAIN);
        pager.watch(0, 0, 0);
        pager.tick(9);
        pager.save(0);
        pager.tick(1);
        String before = Due.machine(pager);
        String text = "frames 9 0 0 0 0;run c 1 1;run d 1 1;run e 1 1;in c 0;in d 0;pin e 0;pin e 0";
        Due.feed(pager, text);
        Due.refuses("3: an error", Due.ARGUMENT, () -> pager.load(text.length()));
        Due.isText("3: all stays", Due.machine(pager), before);
        Due.is("3: undoable", pager.undoable(), 3);
        Due.is("3: undo", pager.undo(), 2);
        Due.is("3: the time", pager.count(5), 9);
        Due.is("3: saved", pager.restore(0), 9);
        Due.is("7: a NAME of it", Due.find(pager, "a"), 0);
        Due.is("7: no NAME of the other text", Due.find(pager, "c"), -1);
    }
}
