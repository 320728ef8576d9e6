/** Promises 36 to 52: changes, undo, save and restore. */
public final class ChangesTest {
    private ChangesTest() {
    }

    public static void main(String[] args) {
        touchIn();
        touchCopies();
        touchFaults();
        touchJudges();
        touchTrustEdges();
        touchRefusals();
        ask();
        askOrder();
        askFlight();
        take();
        takeShared();
        tick();
        tickToTheEnd();
        share();
        shareRefusals();
        drop();
        pin();
        end();
        setPrice();
        trust();
        watch();
        unwatch();
        undo();
        undoEach();
        refusedIsNoChange();
        save();
        restore();
        Due.end();
    }

    private static void touchIn() {
        SparePager pager = Due.loaded("frames 3 0 2 6 3;run a 5 4;in a 0 1;pin a 0");
        pager.tick(5);
        Due.is("36: read", pager.touch(0, 0, false), 0);
        Due.is("36: used now", pager.page(0, 0, 1), 5);
        Due.is("36: not dirty", pager.frame(0, 1), 0);
        Due.is("36: pinned still", pager.page(0, 0, 2), 1);
        Due.is("36: write", pager.touch(0, 1, true), 0);
        Due.is("36: dirty", pager.frame(1, 1), 1);
        Due.is("36: read a dirty one", pager.touch(0, 1, false), 0);
        Due.is("36: dirty still", pager.frame(1, 1), 1);
        Due.is("36: touches", pager.count(6), 3);
        Due.is("36: no faults", pager.count(7), 0);
    }

    private static void touchCopies() {
        SparePager pager = Due.loaded("frames 3 0 2 6 3;run a 5 4;run b 1 2;in a 0 1");
        pager.touch(0, 0, true);
        pager.share(0, 0, 1, 0);
        pager.share(0, 0, 1, 1);
        pager.tick(4);
        Due.is("36: read a shared one", pager.touch(1, 0, false), 0);
        Due.is("36: used now", pager.page(1, 0, 1), 4);
        pager.tick(1);
        Due.is("36: copied", pager.touch(1, 0, true), 1);
        Due.is("36: its frame", pager.page(1, 0, 0), 2);
        Due.is("36: used now", pager.page(1, 0, 1), 5);
        Due.is("36: which is dirty", pager.frame(2, 1), 1);
        Due.is("36: the other one stays dirty", pager.frame(0, 1), 1);
        Due.is("36: and shared", pager.frame(0, 3), 2);
        Due.is("36: copies", pager.count(9), 1);
        Due.is("36: touches", pager.count(6), 3);
        Due.is("36: a stall", pager.touch(0, 0, true), 5);
        Due.is("36: not used", pager.page(0, 0, 1), 0);
        Due.is("36: where it was", pager.page(0, 0, 0), 0);
        Due.is("36: stalls", pager.count(8), 1);
        Due.is("36: no touch", pager.count(6), 3);
        Due.is("36: no fault", pager.count(7) + pager.program(0, 8), 0);
        pager.drop(0, 1);
        pager.share(1, 0, 0, 2);
        Due.is("36: the frame that is left is clean or not", pager.touch(0, 2, true), 1);
        Due.is("36: stays dirty", pager.frame(2, 1), 1);
        SparePager clean = Due.loaded("frames 3 0 2 6 3;run a 5 4;in a 0");
        clean.share(0, 0, 0, 1);
        clean.touch(0, 1, true);
        Due.is("36: the frame that is left stays clean", clean.frame(0, 1), 0);
    }

    private static void touchFaults() {
        SparePager pager = Due.loaded("frames 3 0 2 6 3;run a 5 4;run b 1 2;in a 0 1 2");
        Due.is("36: a stall", pager.touch(1, 0, true), 5);
        Due.is("36: faults", pager.count(7), 1);
        Due.is("36: faults of b", pager.program(1, 8), 1);
        Due.is("36: faults of a", pager.program(0, 8), 0);
        Due.is("36: stalls", pager.count(8), 1);
        Due.is("36: no touch", pager.count(6), 0);
        Due.is("36: out", pager.page(1, 0, 0), -1);
        pager.touch(0, 0, true);
        pager.drop(0, 0);
        Due.is("36: in flight is not free", pager.touch(1, 0, true), 5);
        pager.tick(2);
        pager.drop(0, 2);
        Due.is("36: read", pager.touch(1, 0, false), 2);
        Due.is("36: the free one with the smallest number", pager.page(1, 0, 0), 0);
        Due.is("36: not dirty", pager.frame(0, 1), 0);
        Due.is("36: used now", pager.page(1, 0, 1), 2);
        Due.is("36: write", pager.touch(1, 1, true), 2);
        Due.is("36: the next frame", pager.page(1, 1, 0), 2);
        Due.is("36: dirty", pager.frame(2, 1), 1);
        Due.is("36: faults", pager.count(7), 4);
        Due.is("36: touches", pager.count(6), 3);
        Due.is("36: not sold, not judged", pager.program(1, 4), 50);
    }

    private static SparePager sold(int age) {
        SparePager pager = Due.loaded("frames 3 0 0 6 3;run a 5 4;in a 0");
        pager.tick(10);
        pager.touch(0, 0, true);
        pager.ask(1);
        Due.is("37: credit", pager.program(0, 3), 7);
        if (age > 0) {
            pager.tick(age);
        }
        return pager;
    }

    private static void touchJudges() {
        int[] ages = {0, 2, 3, 5, 6, 100};
        int[] want = {4, 4, 3, 3, 2, 2};
        for (int i = 0; i < ages.length; i++) {
            SparePager pager = sold(ages[i]);
            pager.setPrice(0, 99);
            String age = " at the age of " + ages[i];
            Due.is("36: touch" + age, pager.touch(0, 0, false), want[i]);
            Due.is("36: credit" + age, pager.program(0, 3), want[i] == 2 ? 7 : 0);
            Due.is("36: trust" + age, pager.program(0, 4), want[i] == 2 ? 51 : want[i] == 3 ? 50 : 40);
            Due.is("36: refunds" + age, pager.count(12), want[i] == 2 ? 0 : 1);
            Due.is("36: lies" + age, pager.count(13), want[i] == 4 ? 1 : 0);
            Due.is("36: lies of a" + age, pager.program(0, 9), want[i] == 4 ? 1 : 0);
            Due.is("36: not sold any more" + age, pager.page(0, 0, 4) + pager.program(0, 11), 0);
            Due.is("36: no time of a sale" + age, pager.page(0, 0, 5), -1);
            Due.is("36: nothing paid" + age, pager.page(0, 0, 6), -1);
            pager.drop(0, 0);
            Due.is("36: not judged again" + age, pager.touch(0, 0, false), 2);
            Due.is("36: not judged again" + age, pager.program(0, 4), want[i] == 2 ? 51 : want[i] == 3 ? 50 : 40);
        }
        SparePager pager = Due.loaded("frames 2 0 0 0 0;run a 5 2;run b 5 2;in a 0;in b 1");
        pager.ask(1);
        pager.touch(1, 0, false);
        Due.is("36: a stall does not judge", pager.touch(0, 0, false), 5);
        Due.is("36: sold still", pager.page(0, 0, 4), 1);
        pager.drop(1, 0);
        Due.is("36: WARRANTY 0", pager.touch(0, 0, false), 2);
        Due.is("36: trust", pager.program(0, 4), 51);
    }

    private static void touchTrustEdges() {
        SparePager pager = sold(0);
        pager.trust(0, -40);
        pager.touch(0, 0, false);
        Due.is("36: not below 1", pager.program(0, 4), 1);
        SparePager other = sold(6);
        other.trust(0, 49);
        other.touch(0, 0, false);
        Due.is("36: 100", other.program(0, 4), 100);
        other.ask(1);
        other.tick(6);
        other.touch(0, 0, false);
        Due.is("36: not above 100", other.program(0, 4), 100);
    }

    private static void touchRefusals() {
        SparePager pager = Due.loaded("frames 3 0 2 6 3;run a 5 4;run b 1 2;in a 0 1 2");
        Due.refuses("36: program -1", Due.INDEX, () -> pager.touch(-1, 0, true));
        Due.refuses("36: program 2", Due.INDEX, () -> pager.touch(2, 0, true));
        Due.refuses("36: page -1", Due.INDEX, () -> pager.touch(0, -1, true));
        Due.refuses("36: page 4", Due.INDEX, () -> pager.touch(0, 4, false));
        Due.refuses("36: page 2 of b", Due.INDEX, () -> pager.touch(1, 2, false));
        pager.end(1);
        Due.refuses("36: has ended", Due.ARGUMENT, () -> pager.touch(1, 0, false));
        Due.refuses("36: has ended, no such page", Due.INDEX, () -> pager.touch(1, 2, false));
        Due.is("36: no change", pager.undoable(), 1);
    }

    private static void ask() {
        SparePager pager = Due.loaded("frames 9 0 3 10 4;run a 10 3;run b 3 2;in a 0 1;in b 0 1;pin b 0");
        pager.tick(2);
        Due.is("37: two", pager.ask(2), 2);
        Due.is("37: b.1 is out", pager.page(1, 1, 0), -1);
        Due.is("37: sold", pager.page(1, 1, 4), 1);
        Due.is("37: at", pager.page(1, 1, 5), 2);
        Due.is("37: paid", pager.page(1, 1, 6), 3);
        Due.is("37: credit of b", pager.program(1, 3), 3);
        Due.is("37: a.0 is sold", pager.page(0, 0, 6), 10);
        Due.is("37: a.1 is not", pager.page(0, 1, 4), 0);
        Due.is("37: credit of a", pager.program(0, 3), 10);
        Due.is("37: trust stays", pager.program(0, 4) + pager.program(1, 4), 100);
        Due.is("37: bought", pager.count(10), 2);
        Due.is("37: free at once", pager.frame(3, 0), 0);
        Due.is("37: all that there are", pager.ask(72), 1);
        Due.is("37: none", pager.ask(1), 0);
        Due.is("37: a change, also then", pager.undoable(), 4);
        Due.is("37: the pinned one stays", pager.page(1, 0, 0), 2);
        Due.refuses("37: 0", Due.ARGUMENT, () -> pager.ask(0));
        Due.refuses("37: 73", Due.ARGUMENT, () -> pager.ask(73));
        Due.refuses("37: -1", Due.ARGUMENT, () -> pager.ask(-1));
    }

    /** What the worths are is looked at once, at first. */
    private static void askOrder() {
        SparePager pager = Due.loaded("frames 9 0 3 10 4;run a 10 3;run b 3 2;run c 4 1;in a 0 1;in b 0 1;in c 0");
        pager.touch(1, 0, true);
        Due.is("37: b.1, c.0, b.0", pager.ask(3), 3);
        Due.is("37: b.1", pager.page(1, 1, 6), 3);
        Due.is("37: c.0", pager.page(2, 0, 6), 4);
        Due.is("37: b.0", pager.page(1, 0, 6), 5);
        Due.is("37: credit", pager.program(1, 3), 8);
    }

    private static void askFlight() {
        SparePager pager = Due.loaded("frames 9 0 3 10 4;run a 10 3;in a 0 1");
        pager.tick(1);
        pager.touch(0, 0, true);
        pager.ask(2);
        Due.is("37: in flight", pager.frame(0, 0), 2);
        Due.is("37: up to", pager.frame(0, 2), 4);
        Due.is("37: free", pager.frame(1, 0), 0);
        SparePager none = Due.loaded("frames 9 0 0 10 4;run a 10 3;in a 0 1");
        none.touch(0, 0, true);
        none.ask(2);
        Due.is("37: FLIGHT 0", none.frame(0, 0), 0);
        none.touch(0, 2, false);
        Due.is("37: clean then", none.frame(0, 1), 0);
        SparePager one = Due.loaded("frames 9 0 1 10 4;run a 10 3;in a 0");
        one.touch(0, 0, true);
        one.ask(1);
        Due.is("37: FLIGHT 1", one.frame(0, 2), 1);
        Due.is("39: lands", one.tick(1), 1);
    }

    private static void take() {
        SparePager pager = Due.loaded("frames 9 200 3 10 4;run a 10 3;run b 3 5;in a 0 1 2;in b 0 1 2;pin b 1");
        pager.tick(1);
        pager.touch(0, 0, true);
        pager.touch(0, 1, true);
        Due.is("38: a.2, the idlest of a", pager.take(1), 1);
        Due.is("38: a.2 is out", pager.page(0, 2, 0), -1);
        Due.is("38: not sold", pager.page(0, 2, 4), 0);
        Due.is("38: three times the PRICE", pager.program(0, 3), 30);
        Due.is("38: b.0, a.0", pager.take(2), 2);
        Due.is("38: b.0 is out", pager.page(1, 0, 0), -1);
        Due.is("38: a.0 is out", pager.page(0, 0, 0), -1);
        Due.is("38: free at once", pager.frame(0, 0), 0);
        Due.is("38: credit of b", pager.program(1, 3), 9);
        Due.is("38: the dirty one costs no more", pager.program(0, 3), 60);
        Due.is("38: taken", pager.count(11), 3);
        Due.is("38: all that there are", pager.take(72), 2);
        Due.is("38: the pinned one stays", pager.page(1, 1, 0), 4);
        Due.is("38: none", pager.take(1), 0);
        Due.is("38: none in flight", pager.count(4), 0);
        Due.is("38: trust stays", pager.program(0, 4) + pager.program(1, 4), 100);
        pager.touch(0, 0, false);
        Due.is("38: clean", pager.frame(0, 1), 0);
        Due.is("38: not judged", pager.program(0, 4), 50);
        Due.refuses("38: 0", Due.ARGUMENT, () -> pager.take(0));
        Due.refuses("38: 73", Due.ARGUMENT, () -> pager.take(73));
    }

    /** Shared frames count for who holds the most, each frame once, but their pages are not taken. */
    private static void takeShared() {
        SparePager pager = Due.loaded("frames 9 200 3 10 4;run a 1 4;run b 1 6;run c 1 3;in a 0;in b 0 1;in c 0 1");
        pager.share(2, 0, 0, 1);
        pager.share(2, 1, 0, 2);
        pager.share(2, 1, 0, 3);
        Due.is("6: frames of a", pager.program(0, 6), 3);
        Due.is("38: of a, that holds three", pager.victim(1), 0);
        Due.is("38: then of b, c has none", pager.victim(2), 12);
        Due.is("38: then of b", pager.victim(3), 13);
        Due.is("38: no more", pager.victim(4), -1);
        SparePager once = Due.loaded("frames 9 200 3 10 4;run a 1 4;run b 1 6;in a 0 1;in b 0 1 2");
        once.share(0, 0, 0, 2);
        once.share(0, 0, 0, 3);
        Due.is("38: each frame once", once.victim(1), 12);
        once.drop(1, 0);
        Due.is("38: the smallest number", once.victim(1), 1);
        once.pin(0, 1, true);
        Due.is("38: a has none that could be taken", once.victim(1), 13);
        Due.is("38: taken", once.take(72), 2);
    }

    private static void tick() {
        SparePager pager = Due.loaded("frames 9 200 3 10 4;run a 10 4;in a 0 1 2 3");
        for (int page = 0; page < 3; page++) {
            pager.touch(0, page, true);
            pager.drop(0, page);
            Due.is("39: none lands", pager.tick(1), page == 2 ? 1 : 0);
        }
        Due.is("39: time", pager.count(5), 3);
        Due.is("39: two", pager.tick(200), 2);
        Due.is("39: time", pager.count(5), 203);
        Due.is("39: free", pager.count(2), 8);
        Due.is("39: none", pager.tick(1), 0);
        Due.refuses("39: 0", Due.ARGUMENT, () -> pager.tick(0));
        Due.refuses("39: 201", Due.ARGUMENT, () -> pager.tick(201));
        Due.refuses("39: -1", Due.ARGUMENT, () -> pager.tick(-1));
        Due.refuses("39: most", Due.ARGUMENT, () -> pager.tick(Integer.MAX_VALUE));
    }

    private static void tickToTheEnd() {
        SparePager pager = Due.loaded("frames 2 0 20 0 0;run a 1 1;in a 0");
        for (int i = 0; i < 49; i++) {
            pager.tick(200);
        }
        pager.touch(0, 0, true);
        pager.drop(0, 0);
        Due.refuses("39: 10000", Due.ARGUMENT, () -> pager.tick(200));
        Due.is("39: 9999", pager.tick(199), 1);
        Due.is("39: time", pager.count(5), 9999);
        Due.refuses("39: 10000", Due.ARGUMENT, () -> pager.tick(1));
        Due.is("39: time", pager.count(5), 9999);
        Due.is("26: looks do not let it pass", pager.freeIn(200), 2);
        Due.is("50: undoable", pager.undoable(), 8);
    }

    private static void share() {
        SparePager pager = Due.loaded("frames 9 0 3 10 4;run a 10 4;run b 3 2;in a 0 1;in b 0;pin a 3");
        pager.tick(2);
        pager.touch(0, 1, true);
        Due.is("40: two", pager.share(0, 0, 1, 1), 2);
        Due.is("40: its frame", pager.page(1, 1, 0), 0);
        Due.is("40: used now", pager.page(1, 1, 1), 2);
        Due.is("40: the first one is not", pager.page(0, 0, 1), 0);
        Due.is("40: the frame stays clean", pager.frame(0, 1), 0);
        Due.is("40: of the same program", pager.share(0, 1, 0, 2), 2);
        Due.is("40: the frame stays dirty", pager.frame(1, 1), 1);
        Due.is("40: a pinned one", pager.share(1, 1, 0, 3), 3);
        Due.is("40: pinned still", pager.page(0, 3, 2), 1);
        Due.is("40: no touch", pager.count(6), 1);
        Due.is("40: no fault", pager.count(7), 0);
        SparePager sold = sold(0);
        sold.touch(0, 1, false);
        Due.is("40: one that is sold", sold.share(0, 1, 0, 0), 2);
        Due.is("40: not sold any more", sold.page(0, 0, 4), 0);
        Due.is("40: no time", sold.page(0, 0, 5), -1);
        Due.is("40: nothing paid", sold.page(0, 0, 6), -1);
        Due.is("40: not judged", sold.program(0, 4), 50);
        Due.is("40: no refund", sold.program(0, 3), 7);
        Due.is("40: no refund", sold.count(12) + sold.count(13), 0);
    }

    private static void shareRefusals() {
        SparePager pager = Due.loaded("frames 9 0 3 10 4;run a 10 4;run b 3 2;run c 1 1;in a 0 1;in b 0");
        Due.refuses("40: program -1", Due.INDEX, () -> pager.share(-1, 0, 1, 1));
        Due.refuses("40: program 3", Due.INDEX, () -> pager.share(3, 0, 1, 1));
        Due.refuses("40: page -1", Due.INDEX, () -> pager.share(0, -1, 1, 1));
        Due.refuses("40: page 4", Due.INDEX, () -> pager.share(0, 4, 1, 1));
        Due.refuses("40: other -1", Due.INDEX, () -> pager.share(0, 0, -1, 1));
        Due.refuses("40: other 3", Due.INDEX, () -> pager.share(0, 0, 3, 1));
        Due.refuses("40: its -1", Due.INDEX, () -> pager.share(0, 0, 1, -1));
        Due.refuses("40: its 2", Due.INDEX, () -> pager.share(0, 3, 1, 2));
        Due.refuses("40: the first one is out", Due.ARGUMENT, () -> pager.share(0, 2, 1, 1));
        Due.refuses("40: the other one is in", Due.ARGUMENT, () -> pager.share(0, 0, 1, 0));
        Due.refuses("40: with itself", Due.ARGUMENT, () -> pager.share(0, 0, 0, 0));
        Due.refuses("40: with itself, out", Due.ARGUMENT, () -> pager.share(0, 2, 0, 2));
        pager.end(2);
        Due.refuses("40: the other one has ended", Due.ARGUMENT, () -> pager.share(0, 0, 2, 0));
        Due.refuses("40: the first one has ended", Due.ARGUMENT, () -> pager.share(2, 0, 0, 2));
        Due.refuses("40: ended, and no such page", Due.INDEX, () -> pager.share(2, 0, 0, 4));
        Due.is("40: no change", pager.undoable(), 1);
    }

    private static void drop() {
        SparePager pager = Due.loaded("frames 9 0 3 10 4;run a 10 4;run b 3 2;in a 0 1;in b 0;pin a 1;pin b 1");
        pager.touch(0, 0, true);
        pager.share(0, 0, 0, 2);
        pager.share(0, 0, 1, 1);
        Due.is("41: two left", pager.drop(0, 0), 2);
        Due.is("41: out", pager.page(0, 0, 0), -1);
        Due.is("41: not sold", pager.page(0, 0, 4), 0);
        Due.is("41: no credit", pager.program(0, 3), 0);
        Due.is("41: held still", pager.frame(0, 0), 1);
        Due.is("41: dirty still", pager.frame(0, 1), 1);
        pager.pin(1, 1, false);
        Due.is("41: one left", pager.drop(1, 1), 1);
        Due.is("41: none left", pager.drop(0, 2), 0);
        Due.is("41: in flight", pager.frame(0, 2), 3);
        Due.is("41: none left", pager.drop(1, 0), 0);
        Due.is("41: free at once", pager.frame(2, 0), 0);
        Due.refuses("41: out", Due.ARGUMENT, () -> pager.drop(1, 0));
        Due.refuses("41: pinned", Due.ARGUMENT, () -> pager.drop(0, 1));
        Due.refuses("41: program -1", Due.INDEX, () -> pager.drop(-1, 0));
        Due.refuses("41: program 2", Due.INDEX, () -> pager.drop(2, 0));
        Due.refuses("41: page -1", Due.INDEX, () -> pager.drop(0, -1));
        Due.refuses("41: page 4", Due.INDEX, () -> pager.drop(0, 4));
        pager.end(0);
        Due.refuses("41: has ended", Due.ARGUMENT, () -> pager.drop(0, 1));
    }

    private static void pin() {
        SparePager pager = Due.loaded("frames 9 0 3 10 4;run a 10 4;in a 0;pin a 0");
        Due.is("42: was pinned", pager.pin(0, 0, true), true);
        Due.is("42: pinned", pager.page(0, 0, 2), 1);
        Due.is("42: was pinned", pager.pin(0, 0, false), true);
        Due.is("42: not pinned", pager.page(0, 0, 2), 0);
        Due.is("42: was not", pager.pin(0, 0, false), false);
        Due.is("42: one that is out", pager.pin(0, 3, true), false);
        Due.is("42: pinned", pager.page(0, 3, 2), 1);
        Due.is("42: the others are not", pager.page(0, 2, 2), 0);
        Due.is("42: each a change", pager.undoable(), 4);
        Due.is("42: a pinned one comes in", pager.touch(0, 3, true), 2);
        Due.is("42: pinned still", pager.page(0, 3, 2), 1);
        Due.refuses("42: program -1", Due.INDEX, () -> pager.pin(-1, 0, true));
        Due.refuses("42: program 1", Due.INDEX, () -> pager.pin(1, 0, true));
        Due.refuses("42: page -1", Due.INDEX, () -> pager.pin(0, -1, true));
        Due.refuses("42: page 4", Due.INDEX, () -> pager.pin(0, 4, true));
        pager.end(0);
        Due.refuses("42: has ended", Due.ARGUMENT, () -> pager.pin(0, 0, false));
        Due.refuses("42: has ended, no such page", Due.INDEX, () -> pager.pin(0, 4, false));
    }

    private static void end() {
        SparePager pager = Due.loaded("frames 9 0 3 10 4;run a 10 6;run b 3 2;in a 0 1 2 3;in b 0;pin a 1;pin a 5");
        pager.touch(0, 0, true);
        pager.touch(0, 2, true);
        pager.share(0, 2, 1, 1);
        pager.share(0, 3, 0, 4);
        pager.ask(1);
        Due.is("b.0 is bought", pager.page(1, 0, 4), 1);
        pager.ask(1);
        Due.is("a.0 is bought", pager.page(0, 0, 6), 12);
        pager.trust(0, 7);
        pager.watch(0, 0, 1);
        Due.is("43: frames 1 and 3", pager.end(0), 2);
        Due.is("43: what was in flight is so still", pager.frame(0, 0), 2);
        Due.is("43: has ended", pager.program(0, 10), 1);
        Due.is("43: no page is in", pager.program(0, 5), 0);
        Due.is("43: none is sold", pager.program(0, 11), 0);
        Due.is("43: nothing paid", pager.page(0, 0, 6), -1);
        Due.is("43: none is pinned", pager.page(0, 1, 2) + pager.page(0, 5, 2), 0);
        Due.is("43: the credit stays", pager.program(0, 3), 12);
        Due.is("43: the trust stays", pager.program(0, 4), 57);
        Due.is("43: the frame that b holds", pager.frame(2, 3), 1);
        Due.is("43: is dirty still", pager.frame(2, 1), 1);
        Due.is("43: what was sold of b is so still", pager.program(1, 11), 1);
        Due.is("43: is watched still", pager.watched(0), 1);
        Due.is("43: b has not ended", pager.program(1, 10), 0);
        SparePager dirty = Due.loaded("frames 3 0 3 10 4;run a 10 6;in a 0 1 2");
        dirty.touch(0, 0, true);
        Due.is("43: dirty ones, too", dirty.end(0), 3);
        Due.is("43: none in flight", dirty.count(4), 0);
        SparePager none = Due.loaded("frames 3 0 3 10 4;run a 10 6");
        Due.is("43: none", none.end(0), 0);
        Due.refuses("43: has ended", Due.ARGUMENT, () -> pager.end(0));
        Due.refuses("43: -1", Due.INDEX, () -> pager.end(-1));
        Due.refuses("43: 2", Due.INDEX, () -> pager.end(2));
    }

    private static void setPrice() {
        SparePager pager = Due.loaded("frames 9 0 3 10 4;run a 10 6;run b 3 2;in a 0");
        Due.is("44: the previous one", pager.setPrice(0, 99), 10);
        Due.is("44: PRICE", pager.program(0, 0), 99);
        Due.is("44: of b", pager.program(1, 0), 3);
        Due.is("44: price", pager.page(0, 0, 8), 99);
        Due.is("44: the previous one", pager.setPrice(0, 1), 99);
        Due.is("44: the same", pager.setPrice(0, 1), 1);
        pager.end(0);
        Due.is("44: has ended", pager.setPrice(0, 5), 1);
        Due.refuses("44: program -1", Due.INDEX, () -> pager.setPrice(-1, 0));
        Due.refuses("44: program 2", Due.INDEX, () -> pager.setPrice(2, 0));
        Due.refuses("44: 0", Due.ARGUMENT, () -> pager.setPrice(1, 0));
        Due.refuses("44: 100", Due.ARGUMENT, () -> pager.setPrice(1, 100));
        Due.is("44: changes", pager.undoable(), 5);
    }

    private static void trust() {
        SparePager pager = Due.loaded("frames 9 0 3 10 4;run a 10 6;run b 3 2;in a 0");
        Due.is("45: 49", pager.trust(0, -1), 49);
        Due.is("45: 1", pager.trust(0, -48), 1);
        Due.is("45: not below 1", pager.trust(0, -1), 1);
        Due.is("45: 100", pager.trust(0, 99), 100);
        Due.is("45: not above 100", pager.trust(0, 1), 100);
        Due.is("45: 1", pager.trust(0, -99), 1);
        Due.is("45: by 0", pager.trust(0, 0), 1);
        Due.is("45: of b", pager.program(1, 4), 50);
        pager.end(0);
        Due.is("45: has ended", pager.trust(0, 5), 6);
        Due.refuses("45: program -1", Due.INDEX, () -> pager.trust(-1, 100));
        Due.refuses("45: program 2", Due.INDEX, () -> pager.trust(2, 0));
        Due.refuses("45: -100", Due.ARGUMENT, () -> pager.trust(0, -100));
        Due.refuses("45: 100", Due.ARGUMENT, () -> pager.trust(0, 100));
    }

    private static void watch() {
        SparePager pager = Due.loaded("frames 9 0 3 10 4;run a 10 6;run b 3 2;in a 0 1");
        pager.share(0, 1, 1, 1);
        for (int place = 0; place < 6; place++) {
            Due.is("47: empty", pager.watched(place), -1);
            Due.is("46: alone", pager.watch(place, 0, 0), place < 4);
            Due.is("47: a.0", pager.watched(place), place < 4 ? 0 : -1);
            Due.is("46: out", pager.watch(place, 0, 5), place < 4);
            Due.is("47: a.5", pager.watched(place), place < 4 ? 5 : -1);
            Due.is("46: shared", pager.watch(place, 1, 1), place >= 4);
            Due.is("47: b.1, or what was there", pager.watched(place), place < 4 ? 5 : 13);
        }
        Due.is("46: changes, also if not put there", pager.undoable(), 8);
        pager.drop(0, 1);
        Due.is("47: stays there", pager.watched(4), 13);
        pager.undo();
        pager.undo();
        Due.is("47: undone nothing", pager.watched(5), -1);
        pager.end(1);
        Due.is("47: stays there", pager.watched(4), 13);
        Due.is("46: of a program that has ended", pager.watch(3, 1, 0), true);
        Due.is("46: of a program that has ended", pager.watch(4, 1, 0), false);
        Due.is("46: in two places", pager.watched(0), pager.watched(1));
        Due.refuses("46: place -1", Due.INDEX, () -> pager.watch(-1, 0, 0));
        Due.refuses("46: place 6", Due.INDEX, () -> pager.watch(6, 0, 0));
        Due.refuses("46: program -1", Due.INDEX, () -> pager.watch(0, -1, 0));
        Due.refuses("46: program 2", Due.INDEX, () -> pager.watch(0, 2, 0));
        Due.refuses("46: page -1", Due.INDEX, () -> pager.watch(0, 0, -1));
        Due.refuses("46: page 6", Due.INDEX, () -> pager.watch(0, 0, 6));
        Due.refuses("47: place -1", Due.INDEX, () -> pager.watched(-1));
        Due.refuses("47: place 6", Due.INDEX, () -> pager.watched(6));
    }

    private static void unwatch() {
        SparePager pager = Due.loaded("frames 9 0 3 10 4;run a 10 6;run b 3 2;in a 0 1");
        pager.share(0, 1, 1, 1);
        Due.is("48: none", pager.unwatch(), 0);
        pager.watch(0, 0, 0);
        pager.watch(3, 0, 0);
        pager.watch(5, 1, 1);
        Due.is("48: three", pager.unwatch(), 3);
        for (int place = 0; place < 6; place++) {
            Due.is("48: empty", pager.watched(place), -1);
        }
        Due.is("48: none", pager.unwatch(), 0);
        Due.is("48: changes", pager.undoable(), 7);
        pager.undo();
        pager.undo();
        Due.is("48: undone", pager.watched(5), 13);
    }

    private static void undo() {
        SparePager pager = Due.loaded("frames 9 0 3 10 4;run a 10 6;in a 0");
        Due.is("50: none", pager.undoable(), 0);
        Due.refuses("49: none", Due.STATE, () -> pager.undo());
        for (int i = 1; i <= 10; i++) {
            pager.tick(1);
            Due.is("50: undoable", pager.undoable(), Math.min(8, i));
        }
        for (int i = 1; i <= 8; i++) {
            Due.is("49: undo", pager.undo(), 8 - i);
            Due.is("49: the time", pager.count(5), 10 - i);
        }
        Due.refuses("49: none any more", Due.STATE, () -> pager.undo());
        pager.tick(100);
        pager.tick(100);
        pager.undo();
        pager.tick(50);
        pager.undo();
        Due.is("49: what was undone does not come again", pager.count(5), 102);
        Due.is("49: undo", pager.undo(), 0);
        Due.is("49: the time", pager.count(5), 2);
        pager.tick(1);
        Due.feed(pager, "frames 3 0 0 0 0");
        pager.undo();
        Due.is("49: the input is no part of a change", pager.buffered(), 20);
    }

    private interface Change {
        void on(SparePager pager);
    }

    /** Undoing each change leads back to all that was told before it. */
    private static void undoEach() {
        Change[] changes = {
            p -> p.touch(0, 0, true), p -> p.touch(0, 3, false), p -> p.touch(1, 1, true), p -> p.touch(0, 5, true),
            p -> p.ask(2), p -> p.take(2), p -> p.tick(4), p -> p.share(0, 1, 0, 4), p -> p.drop(0, 2),
            p -> p.pin(0, 1, true), p -> p.end(0), p -> p.end(1), p -> p.setPrice(1, 44), p -> p.trust(0, -9),
            p -> p.watch(2, 0, 1), p -> p.watch(5, 0, 1), p -> p.unwatch(),
        };
        for (int i = 0; i < changes.length; i++) {
            SparePager pager = Due.loaded("frames 6 0 3 10 4;run a 10 6;run b 7 2;in a 0 1 2 3;in b 0");
            pager.touch(0, 3, true);
            pager.touch(0, 2, true);
            pager.share(0, 0, 1, 1);
            pager.drop(0, 3);
            pager.ask(1);
            pager.watch(1, 0, 1);
            pager.watch(4, 0, 0);
            String before = Due.told(pager);
            changes[i].on(pager);
            Due.is("50: change " + i + " can be undone", pager.undoable(), 8);
            pager.undo();
            Due.isText("49: undo of change " + i, Due.told(pager), before);
        }
    }

    private static void refusedIsNoChange() {
        SparePager pager = Due.loaded("frames 2 0 3 10 4;run a 10 6;run b 1 1;in a 0 1;pin a 0");
        pager.end(1);
        Due.feed(pager, "ab");
        String before = Due.told(pager);
        Due.refuses("touch", Due.ARGUMENT, () -> pager.touch(1, 0, true));
        Due.refuses("ask", Due.ARGUMENT, () -> pager.ask(0));
        Due.refuses("take", Due.ARGUMENT, () -> pager.take(73));
        Due.refuses("tick", Due.ARGUMENT, () -> pager.tick(0));
        Due.refuses("share", Due.ARGUMENT, () -> pager.share(0, 0, 1, 0));
        Due.refuses("drop", Due.ARGUMENT, () -> pager.drop(0, 0));
        Due.refuses("pin", Due.ARGUMENT, () -> pager.pin(1, 0, true));
        Due.refuses("end", Due.ARGUMENT, () -> pager.end(1));
        Due.refuses("setPrice", Due.ARGUMENT, () -> pager.setPrice(0, 0));
        Due.refuses("trust", Due.ARGUMENT, () -> pager.trust(0, 100));
        Due.refuses("watch", Due.INDEX, () -> pager.watch(6, 0, 0));
        Due.refuses("save", Due.INDEX, () -> pager.save(2));
        Due.refuses("restore", Due.INDEX, () -> pager.restore(2));
        Due.refuses("restore", Due.STATE, () -> pager.restore(0));
        Due.refuses("load", Due.INDEX, () -> pager.load(21));
        Due.refuses("find", Due.INDEX, () -> pager.find(21));
        Due.isText("nothing is changed", Due.told(pager), before);
    }

    private static void save() {
        SparePager pager = Due.loaded("frames 6 0 3 10 4;run a 10 6;in a 0 1");
        pager.tick(3);
        Due.is("51: the time", pager.save(0), 3);
        Due.is("51: no change", pager.undoable(), 1);
        pager.tick(4);
        Due.is("51: the time", pager.save(1), 7);
        pager.undo();
        Due.is("49: undo, but what is saved", pager.restore(1), 7);
        Due.is("52: the other slot", pager.restore(0), 3);
        pager.tick(1);
        Due.is("51: in place of what was saved", pager.save(0), 4);
        Due.is("52: restore", pager.restore(0), 4);
        Due.is("52: restore", pager.restore(1), 7);
        Due.refuses("51: -1", Due.INDEX, () -> pager.save(-1));
        Due.refuses("51: 2", Due.INDEX, () -> pager.save(2));
    }

    private static void restore() {
        SparePager pager = Due.loaded("frames 6 0 3 10 4;run a 10 6;run b 3 2;in a 0 1 2;in b 0");
        pager.touch(0, 0, true);
        pager.touch(0, 2, true);
        pager.share(0, 0, 1, 1);
        pager.drop(0, 2);
        pager.ask(1);
        pager.watch(4, 1, 1);
        pager.tick(1);
        pager.trust(0, 5);
        pager.pin(0, 5, true);
        pager.save(1);
        String saved = Due.machine(pager);
        Due.refuses("52: nothing in slot 0", Due.STATE, () -> pager.restore(0));
        Due.refuses("52: -1", Due.INDEX, () -> pager.restore(-1));
        Due.refuses("52: 2", Due.INDEX, () -> pager.restore(2));
        Due.is("52: no change", pager.undoable(), 8);
        for (int i = 0; i < 2; i++) {
            pager.tick(100);
            pager.take(72);
            pager.touch(1, 0, true);
            pager.unwatch();
            pager.setPrice(0, 3);
            pager.end(0);
            Due.is("52: the time", pager.restore(1), 1);
            Due.isText("52: all that is told", Due.machine(pager), saved);
            Due.is("52: nothing to undo", pager.undoable(), 0);
            Due.refuses("52: nothing to undo", Due.STATE, () -> pager.undo());
        }
        pager.tick(2);
        pager.undo();
        Due.isText("52: a change behind it is undone", Due.machine(pager), saved);
        Due.is("50: of the changes behind it only", pager.undoable(), 0);
    }
}
