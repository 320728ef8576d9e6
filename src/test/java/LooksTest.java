/** Promises 8 to 24: what there is, offers and looks. */
public final class LooksTest {
    private static final String MACHINE = "frames 4 2 3 10 4;run a 5 3;run b 3 2 bluff 9;in a 0 1;in b 0;pin a 1";

    private LooksTest() {
    }

    public static void main(String[] args) {
        countsAtFirst();
        counts();
        settings();
        programs();
        pages();
        frames();
        offersInOrder();
        offersExcept();
        offerRefusals();
        costOf();
        nextFree();
        idlest();
        leastTrusted();
        richest();
        priceStep();
        sharers();
        hitShare();
        meanTrust();
        written();
        Due.end();
    }

    private static void counts(SparePager pager, String when, int... want) {
        for (int what = 0; what < want.length; what++) {
            Due.is("8: count " + what + " " + when, pager.count(what), want[what]);
        }
    }

    private static void countsAtFirst() {
        SparePager pager = Due.loaded(MACHINE);
        counts(pager, "at first", 2, 2, 1, 3, 0, 0, 0, 0, 0, 0, 0, 0, 0, 0, 1, 0);
        Due.refuses("8: -1", Due.ARGUMENT, () -> pager.count(-1));
        Due.refuses("8: 16", Due.ARGUMENT, () -> pager.count(16));
        counts(Due.loaded("frames 2 0 0 0 0"), "without programs", 0, 0, 2, 0, 0, 0, 0, 0, 0, 0, 0, 0, 0, 0, 0, 0);
    }

    private static void counts() {
        SparePager pager = Due.loaded(MACHINE);
        Due.is("touch a 0", pager.touch(0, 0, true), 0);
        Due.is("touch a 2", pager.touch(0, 2, false), 2);
        Due.is("touch b 1, no frame", pager.touch(1, 1, false), 5);
        counts(pager, "behind a stall", 2, 2, 0, 4, 0, 0, 2, 2, 1, 0, 0, 0, 0, 0, 1, 0);
        Due.is("share a 0 with b 1", pager.share(0, 0, 1, 1), 2);
        counts(pager, "shared", 2, 2, 0, 4, 0, 0, 2, 2, 1, 0, 0, 0, 0, 0, 1, 1);
        Due.is("touch b 1, no frame to copy", pager.touch(1, 1, true), 5);
        counts(pager, "behind a stall without a fault", 2, 2, 0, 4, 0, 0, 2, 2, 2, 0, 0, 0, 0, 0, 1, 1);
        Due.is("drop a 2", pager.drop(0, 2), 0);
        Due.is("touch b 1, copied", pager.touch(1, 1, true), 1);
        counts(pager, "copied", 2, 2, 0, 4, 0, 0, 3, 2, 2, 1, 0, 0, 0, 0, 2, 0);
        Due.is("ask", pager.ask(1), 1);
        counts(pager, "asked", 2, 2, 1, 3, 0, 0, 3, 2, 2, 1, 1, 0, 0, 0, 1, 0);
        Due.is("touch b 0", pager.touch(1, 0, false), 4);
        counts(pager, "a lie", 2, 2, 0, 4, 0, 0, 4, 3, 2, 1, 1, 0, 1, 1, 2, 0);
        Due.is("ask", pager.ask(2), 2);
        counts(pager, "asked for a dirty one", 2, 2, 1, 2, 1, 0, 4, 3, 2, 1, 3, 0, 1, 1, 0, 0);
        Due.is("tick", pager.tick(4), 1);
        Due.is("touch b 0, a refund", pager.touch(1, 0, false), 3);
        counts(pager, "a refund", 2, 2, 1, 3, 0, 4, 5, 4, 2, 1, 3, 0, 2, 1, 2, 0);
        Due.is("take", pager.take(72), 2);
        counts(pager, "taken", 2, 2, 3, 1, 0, 4, 5, 4, 2, 1, 3, 2, 2, 1, 0, 0);
        pager.end(0);
        counts(pager, "ended", 2, 1, 4, 0, 0, 4, 5, 4, 2, 1, 3, 2, 2, 1, 0, 0);
    }

    private static void settings() {
        SparePager pager = Due.loaded("frames 4 2 3 10 7");
        int[] want = {4, 2, 3, 10, 7};
        for (int what = 0; what < want.length; what++) {
            Due.is("9: setting " + what, pager.setting(what), want[what]);
        }
        Due.refuses("9: -1", Due.ARGUMENT, () -> pager.setting(-1));
        Due.refuses("9: 5", Due.ARGUMENT, () -> pager.setting(5));
    }

    private static void program(SparePager pager, int program, int... want) {
        for (int what = 0; what < want.length; what++) {
            Due.is("10: program " + program + ", " + what, pager.program(program, what), want[what]);
        }
    }

    private static void programs() {
        SparePager pager = Due.loaded(MACHINE);
        program(pager, 0, 5, 3, 0, 0, 50, 2, 2, 0, 0, 0, 0, 0);
        program(pager, 1, 3, 2, 9, 0, 50, 1, 1, 1, 0, 0, 0, 0);
        pager.share(0, 0, 0, 2);
        pager.share(0, 0, 1, 1);
        program(pager, 0, 5, 3, 0, 0, 50, 3, 2, 0, 0, 0, 0, 0);
        program(pager, 1, 3, 2, 9, 0, 50, 2, 2, 1, 0, 0, 0, 0);
        pager.ask(1);
        program(pager, 1, 3, 2, 9, 3, 50, 1, 1, 0, 0, 0, 0, 1);
        pager.touch(1, 0, false);
        program(pager, 1, 3, 2, 9, 0, 40, 2, 2, 1, 1, 1, 0, 0);
        pager.setPrice(1, 77);
        pager.end(1);
        program(pager, 1, 77, 2, 9, 0, 40, 0, 0, 0, 1, 1, 1, 0);
        Due.refuses("10: -1", Due.INDEX, () -> pager.program(-1, 0));
        Due.refuses("10: 2", Due.INDEX, () -> pager.program(2, 12));
        Due.refuses("10: what -1", Due.ARGUMENT, () -> pager.program(0, -1));
        Due.refuses("10: what 12", Due.ARGUMENT, () -> pager.program(1, 12));
    }

    private static void page(SparePager pager, int program, int page, int... want) {
        for (int what = 0; what < want.length; what++) {
            Due.is("11: page " + program + "." + page + ", " + what, pager.page(program, page, what), want[what]);
        }
    }

    private static void pages() {
        SparePager pager = Due.loaded(MACHINE);
        page(pager, 0, 0, 0, 0, 0, 0, 0, -1, -1, 0, 5);
        page(pager, 0, 1, 1, 0, 1, 0, 0, -1, -1, 0, 5);
        page(pager, 0, 2, -1, 0, 0, 0, 0, -1, -1, 0, -1);
        page(pager, 1, 0, 2, 0, 0, 0, 0, -1, -1, 1, 3);
        pager.tick(2);
        page(pager, 0, 0, 0, 0, 0, 0, 0, -1, -1, 1, 5);
        page(pager, 0, 1, 1, 0, 1, 0, 0, -1, -1, 0, 5);
        pager.touch(1, 0, true);
        page(pager, 1, 0, 2, 2, 0, 0, 0, -1, -1, 1, 5);
        pager.share(1, 0, 0, 2);
        page(pager, 1, 0, 2, 2, 0, 1, 0, -1, -1, 0, 5);
        page(pager, 0, 2, 2, 2, 0, 1, 0, -1, -1, 0, 7);
        pager.ask(72);
        page(pager, 0, 0, -1, 0, 0, 0, 1, 2, 5, 0, -1);
        pager.end(0);
        page(pager, 0, 0, -1, 0, 0, 0, 0, -1, -1, 0, -1);
        page(pager, 1, 0, 2, 2, 0, 0, 0, -1, -1, 1, 5);
        Due.refuses("11: program -1", Due.INDEX, () -> pager.page(-1, 0, 9));
        Due.refuses("11: program 2", Due.INDEX, () -> pager.page(2, 0, 0));
        Due.refuses("11: page -1", Due.INDEX, () -> pager.page(0, -1, 0));
        Due.refuses("11: page 3", Due.INDEX, () -> pager.page(0, 3, 9));
        Due.refuses("11: page 2 of b", Due.INDEX, () -> pager.page(1, 2, 0));
        Due.refuses("11: what -1", Due.ARGUMENT, () -> pager.page(0, 0, -1));
        Due.refuses("11: what 9", Due.ARGUMENT, () -> pager.page(0, 0, 9));
    }

    private static void frame(SparePager pager, int frame, int... want) {
        for (int what = 0; what < want.length; what++) {
            Due.is("12: frame " + frame + ", " + what, pager.frame(frame, what), want[what]);
        }
    }

    private static void frames() {
        SparePager pager = Due.loaded(MACHINE);
        frame(pager, 0, 1, 0, -1, 1, 0, 0);
        frame(pager, 1, 1, 0, -1, 1, 0, 1);
        frame(pager, 2, 1, 0, -1, 1, 1, 0);
        frame(pager, 3, 0, 0, -1, 0, -1, -1);
        pager.touch(1, 0, true);
        frame(pager, 2, 1, 1, -1, 1, 1, 0);
        pager.share(1, 0, 1, 1);
        pager.share(1, 0, 0, 2);
        frame(pager, 2, 1, 1, -1, 3, 0, 2);
        pager.drop(0, 2);
        frame(pager, 2, 1, 1, -1, 2, 1, 0);
        pager.drop(1, 0);
        frame(pager, 2, 1, 1, -1, 1, 1, 1);
        pager.tick(5);
        pager.drop(1, 1);
        frame(pager, 2, 2, 0, 8, 0, -1, -1);
        pager.tick(2);
        frame(pager, 2, 2, 0, 8, 0, -1, -1);
        pager.tick(1);
        frame(pager, 2, 0, 0, -1, 0, -1, -1);
        Due.refuses("12: -1", Due.INDEX, () -> pager.frame(-1, 6));
        Due.refuses("12: 4", Due.INDEX, () -> pager.frame(4, 6));
        Due.refuses("12: what -1", Due.ARGUMENT, () -> pager.frame(0, -1));
        Due.refuses("12: what 6", Due.ARGUMENT, () -> pager.frame(3, 6));
    }

    private static void offers(SparePager pager, String want) {
        Due.isText("34: the offers", Due.read(pager, pager.writeOffers()), want);
        String[] each = want.isEmpty() ? new String[0] : want.split("[ .:]");
        Due.is("14: offers", pager.count(14), each.length / 3);
        for (int i = 0; i < each.length / 3; i++) {
            Due.is("13: program of " + i, pager.offer(i, 0), each[3 * i].charAt(0) - 'a');
            Due.is("13: page of " + i, pager.offer(i, 1), Integer.parseInt(each[3 * i + 1]));
            Due.is("13: price of " + i, pager.offer(i, 2), Integer.parseInt(each[3 * i + 2]));
        }
    }

    /** By worth, then by the time of the last use, then by program, then by page. */
    private static void offersInOrder() {
        SparePager pager = Due.loaded(
                "frames 9 0 3 10 4;run a 10 3;run b 5 12;run c 12 2;in c 0 1;in b 11 2;in a 0 2 1");
        offers(pager, "b.2:5 b.11:5 a.0:10 a.1:10 a.2:10 c.0:12 c.1:12");
        Due.isReal("14: worth", pager.worth(0), 10.0);
        Due.isReal("14: worth", pager.worth(2), 20.0);
        Due.isReal("14: worth", pager.worth(6), 24.0);
        pager.tick(1);
        pager.touch(0, 1, false);
        pager.touch(1, 2, false);
        offers(pager, "b.11:5 b.2:5 a.0:10 a.2:10 a.1:10 c.0:12 c.1:12");
        pager.touch(0, 0, true);
        offers(pager, "b.11:5 b.2:5 a.2:10 a.1:10 c.0:12 c.1:12 a.0:12");
        Due.isReal("14: worth of a dirty one", pager.worth(6), 24.0);
        pager.trust(1, -25);
        offers(pager, "a.2:10 b.11:5 a.1:10 b.2:5 c.0:12 c.1:12 a.0:12");
        pager.trust(1, -24);
        Due.is("trust 1", pager.program(1, 4), 1);
        Due.isReal("14: worth", pager.worth(6), 500.0);
        pager.trust(1, 2);
        Due.isReal("14: worth as a float", pager.worth(6), 500.0f / 3.0f);
        Due.is("14: not as a double", pager.worth(6) == 500.0 / 3.0, false);
        pager.trust(2, 99);
        Due.isReal("14: trust 100", pager.worth(0), 12.0);
    }

    private static void offersExcept() {
        SparePager pager = Due.loaded("frames 9 20 3 10 4;run a 10 3;run b 5 4 bluff 15;in a 0 1 2;in b 0 1;pin a 1");
        offers(pager, "");
        pager.tick(4);
        offers(pager, "");
        pager.tick(1);
        offers(pager, "b.0:5 b.1:5");
        pager.touch(1, 0, false);
        offers(pager, "b.1:5");
        pager.tick(14);
        offers(pager, "b.1:5 b.0:5");
        pager.tick(1);
        offers(pager, "b.1:5 b.0:5 a.0:10 a.2:10");
        pager.pin(0, 1, false);
        pager.pin(1, 1, true);
        offers(pager, "b.0:5 a.0:10 a.1:10 a.2:10");
        pager.share(0, 0, 1, 2);
        offers(pager, "b.0:5 a.1:10 a.2:10");
        pager.drop(0, 2);
        pager.end(1);
        offers(pager, "a.0:10 a.1:10");
    }

    private static void offerRefusals() {
        SparePager pager = Due.loaded(MACHINE);
        Due.is("13: the only one", pager.offer(0, 0), 1);
        Due.refuses("13: -1", Due.INDEX, () -> pager.offer(-1, 3));
        Due.refuses("13: 1", Due.INDEX, () -> pager.offer(1, 3));
        Due.refuses("13: what -1", Due.ARGUMENT, () -> pager.offer(0, -1));
        Due.refuses("13: what 3", Due.ARGUMENT, () -> pager.offer(0, 3));
        Due.refuses("14: -1", Due.INDEX, () -> pager.worth(-1));
        Due.refuses("14: 1", Due.INDEX, () -> pager.worth(1));
        Due.refuses("14: far away", Due.INDEX, () -> pager.worth(Integer.MAX_VALUE));
    }

    private static void costOf() {
        SparePager pager = Due.loaded("frames 9 0 3 10 4;run a 10 3;run b 3 2;in a 0 1;in b 0 1");
        pager.touch(1, 1, true);
        Due.is("15: 1", pager.costOf(1), 3);
        Due.is("15: 2", pager.costOf(2), 8);
        Due.is("15: 3", pager.costOf(3), 18);
        Due.is("15: 4", pager.costOf(4), 28);
        Due.is("15: 72", pager.costOf(72), 28);
        Due.is("nothing is changed", pager.undoable(), 1);
        Due.refuses("15: 0", Due.ARGUMENT, () -> pager.costOf(0));
        Due.refuses("15: 73", Due.ARGUMENT, () -> pager.costOf(73));
        Due.is("15: no offers", Due.loaded("frames 2 0 0 0 0").costOf(5), 0);
    }

    private static void nextFree() {
        SparePager pager = Due.loaded("frames 4 0 5 0 0;run a 1 4;in a 0 1 2 3");
        Due.is("16: none", pager.nextFree(), -1);
        pager.touch(0, 0, true);
        pager.touch(0, 3, true);
        pager.drop(0, 1);
        Due.is("16: not dirty", pager.nextFree(), -1);
        pager.drop(0, 3);
        pager.tick(1);
        pager.drop(0, 0);
        Due.is("16: the smallest", pager.nextFree(), 5);
        pager.tick(4);
        Due.is("16: the next one", pager.nextFree(), 6);
        pager.tick(1);
        Due.is("16: none any more", pager.nextFree(), -1);
    }

    private static void idlest() {
        SparePager pager = Due.loaded("frames 6 9 5 0 0;run a 1 4;run b 2 2;in b 1;in a 1 2 3;pin a 1");
        Due.is("17: the smallest number, pinned or not", pager.idlest(), 1);
        pager.tick(1);
        pager.share(0, 1, 0, 0);
        pager.touch(0, 1, false);
        Due.is("17: the next one", pager.idlest(), 2);
        pager.touch(0, 2, false);
        pager.touch(0, 3, false);
        Due.is("17: of b", pager.idlest(), 13);
        pager.tick(1);
        pager.touch(1, 1, false);
        Due.is("17: one that shares its frame", pager.idlest(), 0);
        Due.is("17: none", Due.loaded("frames 2 0 0 0 0;run a 1 1").idlest(), -1);
    }

    private static void leastTrusted() {
        SparePager pager = Due.loaded("frames 2 0 0 0 0;run a 1 1;run b 1 1;run c 1 1");
        Due.is("18: the smallest number", pager.leastTrusted(), 0);
        pager.trust(2, -1);
        Due.is("18: the least", pager.leastTrusted(), 2);
        pager.trust(1, -1);
        Due.is("18: the smallest number", pager.leastTrusted(), 1);
        pager.end(1);
        Due.is("18: has ended", pager.leastTrusted(), 2);
        pager.end(2);
        pager.end(0);
        Due.is("18: none", pager.leastTrusted(), -1);
    }

    private static void richest() {
        SparePager pager = Due.loaded("frames 6 0 0 200 0;run a 1 2;run b 9 1;run c 9 1;in a 0;in b 0;in c 0");
        Due.is("19: the smallest number", pager.richest(), 0);
        pager.ask(2);
        Due.is("19: the greatest", pager.richest(), 1);
        pager.end(1);
        Due.is("19: ended or not", pager.richest(), 1);
        pager.ask(1);
        Due.is("19: the smallest number", pager.richest(), 1);
        Due.is("19: none", Due.loaded("frames 2 0 0 0 0").richest(), -1);
    }

    private static void priceStep() {
        SparePager pager = Due.loaded(
                "frames 6 0 0 200 0;run a 1 2;run b 9 2;run c 99 1;in a 0 1;in b 0 1;in c 0;pin b 0");
        pager.touch(0, 1, true);
        pager.touch(2, 0, true);
        Due.is("20: 0", pager.priceStep(0), 1);
        Due.is("20: 1", pager.priceStep(1), 3);
        Due.is("20: 2", pager.priceStep(2), 3);
        Due.is("20: 3", pager.priceStep(3), 9);
        Due.is("20: 9", pager.priceStep(9), 101);
        Due.is("20: 100", pager.priceStep(100), 101);
        Due.is("20: 101", pager.priceStep(101), -1);
        Due.is("20: 200", pager.priceStep(200), -1);
        pager.pin(1, 1, true);
        Due.is("20: without offers of b", pager.priceStep(3), 101);
        Due.refuses("20: -1", Due.ARGUMENT, () -> pager.priceStep(-1));
        Due.refuses("20: 201", Due.ARGUMENT, () -> pager.priceStep(201));
    }

    private static void sharers() {
        SparePager pager = Due.loaded(
                "frames 6 0 0 0 0;run a 1 2;run b 9 1;run c 9 1;run d 1 1;run e 1 1;run f 1 12;in f 11 10;in b 0");
        Due.is("21: alone", pager.sharers(5, 11), 32);
        Due.is("21: out", pager.sharers(0, 0), 0);
        pager.share(5, 11, 0, 1);
        Due.is("21: two", pager.sharers(5, 11), 33);
        pager.share(0, 1, 2, 0);
        pager.share(0, 1, 0, 0);
        Due.is("21: three", pager.sharers(2, 0), 37);
        Due.is("21: another frame", pager.sharers(5, 10), 32);
        Due.is("21: another frame", pager.sharers(1, 0), 2);
        Due.is("21: the first page alone", Due.loaded(MACHINE).sharers(0, 0), 1);
        Due.refuses("21: program -1", Due.INDEX, () -> pager.sharers(-1, 0));
        Due.refuses("21: program 6", Due.INDEX, () -> pager.sharers(6, 0));
        Due.refuses("21: page -1", Due.INDEX, () -> pager.sharers(0, -1));
        Due.refuses("21: page 2", Due.INDEX, () -> pager.sharers(0, 2));
    }

    private static void hitShare() {
        SparePager pager = Due.loaded("frames 2 0 0 0 0;run a 1 4;in a 0");
        Due.isReal("22: without any", pager.hitShare(), 0.0);
        pager.touch(0, 1, false);
        Due.isReal("22: a fault", pager.hitShare(), 0.0);
        pager.touch(0, 0, false);
        Due.isReal("22: half", pager.hitShare(), 0.5);
        pager.touch(0, 2, false);
        pager.touch(0, 3, false);
        Due.isReal("22: stalls do not count", pager.hitShare(), 0.5);
        pager.touch(0, 0, true);
        Due.isReal("22: as a float", pager.hitShare(), 2.0f / 3.0f);
        Due.is("22: not as a double", pager.hitShare() == 2.0 / 3.0, false);
        SparePager one = Due.loaded("frames 2 0 0 0 0;run a 1 4;in a 0");
        one.touch(0, 0, false);
        Due.isReal("22: one touch", one.hitShare(), 1.0);
    }

    private static void meanTrust() {
        SparePager pager = Due.loaded("frames 2 0 0 0 0;run a 1 1;run b 1 1;run c 1 1");
        Due.isReal("23: at first", pager.meanTrust(), 50.0);
        pager.trust(0, 1);
        Due.isReal("23: as a double", pager.meanTrust(), 151.0 / 3.0);
        pager.end(1);
        Due.isReal("23: of two", pager.meanTrust(), 50.5);
        pager.end(0);
        Due.isReal("23: of one", pager.meanTrust(), 50.0);
        pager.end(2);
        Due.isReal("23: none", pager.meanTrust(), 0.0);
    }

    private static void written() {
        SparePager pager = Due.loaded("frames 6 0 9 0 0;run a 1 4;run b 1 2;in a 0 1 2;in b 0");
        Due.is("24: none", pager.written(0), 0);
        pager.touch(0, 0, true);
        pager.touch(0, 1, true);
        Due.is("24: two", pager.written(0), 2);
        pager.share(0, 0, 0, 3);
        pager.share(0, 0, 1, 1);
        Due.is("24: each frame once", pager.written(0), 2);
        Due.is("24: a shared one", pager.written(1), 1);
        pager.drop(0, 1);
        Due.is("24: not in flight", pager.written(0), 1);
        pager.end(0);
        Due.is("24: stays dirty for b", pager.written(1), 1);
        Due.is("24: ended", pager.written(0), 0);
        Due.refuses("24: -1", Due.INDEX, () -> pager.written(-1));
        Due.refuses("24: 2", Due.INDEX, () -> pager.written(2));
    }
}
