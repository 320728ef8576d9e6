/** Promises 25 to 31: what would be. Each look is compared with what then is. */
public final class WouldTest {
    private static String before = "";

    private WouldTest() {
    }

    public static void main(String[] args) {
        would();
        freeIn();
        offersIn();
        ticksTo();
        creditIf();
        victim();
        leastPrice();
        leastPriceTies();
        Due.end();
    }

    private static void remember(SparePager pager) {
        before = Due.told(pager);
    }

    private static void isUnchanged(String what, SparePager pager) {
        Due.isText(what + " changes nothing", Due.told(pager), before);
    }

    private static void wouldBe(SparePager pager, int program, int page, boolean write, int want) {
        remember(pager);
        Due.is("25: would", pager.would(program, page, write), want);
        isUnchanged("would", pager);
        Due.is("36: touch", pager.touch(program, page, write), want);
    }

    private static void would() {
        SparePager pager = Due.loaded("frames 3 0 0 6 3;run a 5 4;run b 1 2;in a 0 1");
        wouldBe(pager, 0, 0, false, 0);
        wouldBe(pager, 0, 0, true, 0);
        pager.share(0, 0, 1, 0);
        wouldBe(pager, 1, 0, false, 0);
        wouldBe(pager, 1, 0, true, 1);
        pager.share(0, 0, 1, 1);
        wouldBe(pager, 1, 1, true, 5);
        wouldBe(pager, 1, 1, false, 0);
        wouldBe(pager, 0, 3, false, 5);
        pager.ask(1);
        wouldBe(pager, 1, 0, false, 4);
        pager.ask(1);
        pager.tick(3);
        wouldBe(pager, 1, 0, true, 3);
        pager.ask(1);
        pager.tick(6);
        wouldBe(pager, 1, 0, true, 2);
        pager.drop(1, 0);
        wouldBe(pager, 0, 3, false, 2);
        pager.end(1);
        Due.refuses("25: has ended", Due.ARGUMENT, () -> pager.would(1, 0, false));
        Due.refuses("25: page of an ended one", Due.INDEX, () -> pager.would(1, 2, false));
        Due.refuses("25: program -1", Due.INDEX, () -> pager.would(-1, 0, false));
        Due.refuses("25: program 2", Due.INDEX, () -> pager.would(2, 0, false));
        Due.refuses("25: page -1", Due.INDEX, () -> pager.would(0, -1, true));
        Due.refuses("25: page 4", Due.INDEX, () -> pager.would(0, 4, true));
    }

    private static void freeIn() {
        SparePager pager = Due.loaded("frames 5 0 4 0 0;run a 1 4;in a 0 1 2");
        pager.touch(0, 0, true);
        pager.touch(0, 1, true);
        pager.drop(0, 0);
        pager.tick(1);
        pager.drop(0, 1);
        remember(pager);
        Due.is("26: 0", pager.freeIn(0), 2);
        Due.is("26: 2", pager.freeIn(2), 2);
        Due.is("26: 3", pager.freeIn(3), 3);
        Due.is("26: 4", pager.freeIn(4), 4);
        Due.is("26: 200", pager.freeIn(200), 4);
        isUnchanged("freeIn", pager);
        Due.refuses("26: -1", Due.ARGUMENT, () -> pager.freeIn(-1));
        Due.refuses("26: 201", Due.ARGUMENT, () -> pager.freeIn(201));
    }

    private static void offersIn() {
        SparePager pager = Due.loaded("frames 9 50 3 10 4;run a 10 3;run b 5 4 bluff 48;in a 0 1 2;in b 0 1;pin a 1");
        pager.tick(1);
        pager.touch(0, 0, false);
        remember(pager);
        Due.is("27: 0", pager.offersIn(0), 0);
        Due.is("27: 1", pager.offersIn(1), 2);
        Due.is("27: 48", pager.offersIn(48), 2);
        Due.is("27: 49", pager.offersIn(49), 3);
        Due.is("27: 50", pager.offersIn(50), 4);
        Due.is("27: 200", pager.offersIn(200), 4);
        isUnchanged("offersIn", pager);
        Due.refuses("27: -1", Due.ARGUMENT, () -> pager.offersIn(-1));
        Due.refuses("27: 201", Due.ARGUMENT, () -> pager.offersIn(201));
    }

    private static void ticksTo() {
        SparePager pager = Due.loaded("frames 5 0 20 0 0;run a 1 4;in a 0 1 2 3;pin a 3");
        pager.touch(0, 0, true);
        pager.touch(0, 1, true);
        pager.drop(0, 0);
        pager.tick(1);
        pager.drop(0, 1);
        remember(pager);
        Due.is("28: 0", pager.ticksTo(0), 0);
        Due.is("28: 1", pager.ticksTo(1), 0);
        Due.is("28: 2", pager.ticksTo(2), 19);
        Due.is("28: 3", pager.ticksTo(3), 20);
        Due.is("28: 4", pager.ticksTo(4), -1);
        Due.is("28: 5", pager.ticksTo(5), -1);
        isUnchanged("ticksTo", pager);
        Due.refuses("28: -1", Due.ARGUMENT, () -> pager.ticksTo(-1));
        Due.refuses("28: 6", Due.ARGUMENT, () -> pager.ticksTo(6));
    }

    private static void creditIf() {
        SparePager pager = Due.loaded("frames 9 0 3 10 4;run a 10 3;run b 3 2;run c 99 1;in a 0 1;in b 0 1");
        pager.touch(1, 1, true);
        pager.ask(1);
        remember(pager);
        Due.is("29: a, 1", pager.creditIf(0, 1), 0);
        Due.is("29: b, 1", pager.creditIf(1, 1), 8);
        Due.is("29: a, 2", pager.creditIf(0, 2), 10);
        Due.is("29: a, 3", pager.creditIf(0, 3), 20);
        Due.is("29: a, 72", pager.creditIf(0, 72), 20);
        Due.is("29: b, 72", pager.creditIf(1, 72), 8);
        Due.is("29: c, 72", pager.creditIf(2, 72), 0);
        isUnchanged("creditIf", pager);
        pager.end(1);
        Due.is("29: ended", pager.creditIf(1, 72), 3);
        Due.refuses("29: program -1", Due.INDEX, () -> pager.creditIf(-1, 0));
        Due.refuses("29: program 3", Due.INDEX, () -> pager.creditIf(3, 73));
        Due.refuses("29: 0", Due.ARGUMENT, () -> pager.creditIf(0, 0));
        Due.refuses("29: 73", Due.ARGUMENT, () -> pager.creditIf(0, 73));
    }

    private static void victim() {
        SparePager pager = Due.loaded("frames 9 0 3 10 4;run a 10 3;run b 3 5;in a 0 1;in b 0 1 2 3;pin b 1");
        pager.tick(1);
        pager.touch(1, 0, true);
        remember(pager);
        int[] want = {14, 15, 0, 12, 1, -1};
        for (int i = 0; i < want.length; i++) {
            Due.is("30: " + (i + 1), pager.victim(i + 1), want[i]);
        }
        Due.is("30: 72", pager.victim(72), -1);
        isUnchanged("victim", pager);
        for (int i = 0; i < 5; i++) {
            pager.take(1);
            Due.is("38: taken", pager.page(want[i] / 12, want[i] % 12, 0), -1);
        }
        Due.refuses("30: 0", Due.ARGUMENT, () -> pager.victim(0));
        Due.refuses("30: 73", Due.ARGUMENT, () -> pager.victim(73));
    }

    private static void leastPrice() {
        SparePager pager = Due.loaded("frames 9 0 3 10 4;run a 10 3;run b 20 2;run c 99 1;in a 0 1;in b 0 1");
        remember(pager);
        Due.is("31: a", pager.leastPrice(0), 21);
        Due.is("31: b", pager.leastPrice(1), 10);
        Due.is("31: c, without offers", pager.leastPrice(2), 1);
        isUnchanged("leastPrice", pager);
        pager.touch(0, 0, true);
        Due.is("31: the other page sells", pager.leastPrice(0), 21);
        pager.touch(0, 1, true);
        Due.is("31: both are dirty", pager.leastPrice(0), 19);
        pager.trust(0, 50);
        Due.is("31: trust 100", pager.leastPrice(0), 39);
        pager.trust(1, -49);
        Due.is("31: with each PRICE", pager.leastPrice(0), -1);
        Due.is("31: with no PRICE", pager.leastPrice(1), 1);
        pager.end(1);
        Due.is("31: no other one", pager.leastPrice(0), -1);
        Due.is("31: has ended", pager.leastPrice(1), 1);
        Due.refuses("31: -1", Due.INDEX, () -> pager.leastPrice(-1));
        Due.refuses("31: 3", Due.INDEX, () -> pager.leastPrice(3));
    }

    private static void leastPriceTies() {
        SparePager pager = Due.loaded("frames 9 0 3 10 4;run a 10 3;run b 10 2;in a 0 1;in b 0 1");
        Due.is("31: a is ahead of b", pager.leastPrice(0), 11);
        Due.is("31: b is behind a", pager.leastPrice(1), 10);
        pager.tick(1);
        pager.touch(0, 0, false);
        pager.touch(0, 1, false);
        Due.is("31: b was used earlier", pager.leastPrice(1), 11);
        Due.is("31: a was used later", pager.leastPrice(0), 10);
        SparePager dear = Due.loaded("frames 9 0 3 10 4;run a 99 3;run b 99 2;in a 0 1;in b 0 1");
        Due.is("31: never too dear", dear.leastPrice(0), -1);
        Due.is("31: too dear with 99 only", dear.leastPrice(1), 99);
    }
}
