import java.util.ArrayList;
import java.util.List;

/**
 * Long runs of calls, with arguments of all kinds: nothing but what the document names is ever thrown, a call that
 * throws changes nothing, undo leads back, and what one method tells fits to what the others tell.
 */
public final class WholeTest {
    private static final int RUNS = 120;
    private static final int CALLS = 400;
    private static final int[] WILD = {
        Integer.MIN_VALUE, Integer.MIN_VALUE + 1, -1000000, -100, -13, -12, -2, -1, 64, 72, 73, 99, 100, 101, 200, 201,
        255, 600, 601, 9999, 10000, 1 << 28, Integer.MAX_VALUE - 20, Integer.MAX_VALUE,
    };

    private static long seed;

    private WholeTest() {
    }

    public static void main(String[] args) {
        for (int run = 1; run <= RUNS; run++) {
            seed = run;
            wildRun(run);
            looksRun(run);
        }
        Due.end();
    }

    static int below(int limit) {
        seed = seed * 6364136223846793005L + 1442695040888963407L;
        return (int) Math.floorMod(seed >>> 33, (long) limit);
    }

    private static int any(int limit) {
        return below(12) == 0 ? WILD[below(WILD.length)] : below(limit);
    }

    static void start(long with) {
        seed = with;
    }

    static String machineText() {
        int frames = below(3) == 0 ? 2 + below(63) : 2 + below(10);
        int warranty = below(30);
        StringBuilder text = new StringBuilder("frames " + frames + " " + below(12) + " " + below(6) + " " + warranty
                + " " + below(warranty + 1));
        int programs = below(7);
        int free = frames;
        for (int program = 0; program < programs; program++) {
            char name = (char) ('a' + program);
            int pages = 1 + below(12);
            text.append(";run ").append(name).append(' ').append(1 + below(below(2) == 0 ? 4 : 99)).append(' ')
                    .append(pages);
            if (below(3) == 0) {
                text.append(" bluff ").append(below(12));
            }
            int in = Math.min(free, below(pages + 1));
            for (int page = 0; page < in; page++) {
                text.append(page == 0 ? ";in " + name : "").append(' ').append(page);
            }
            free -= in;
            if (below(3) == 0) {
                text.append(";pin ").append(name).append(' ').append(below(pages));
            }
        }
        return text.toString();
    }

    // ---- arguments of all kinds

    private static void wildRun(int run) {
        SparePager pager = new SparePager();
        if (run % 10 != 0) {
            Due.load(pager, machineText());
        }
        List<String> before = new ArrayList<>();
        for (int call = 0; call < CALLS; call++) {
            int undoable = pager.undoable();
            String told = Due.told(pager);
            String machine = Due.machine(pager);
            int which = below(46);
            boolean isThrown = wildCall(pager, which);
            if (isThrown && which != 45) {
                Due.isText("behind an exception of call " + which, Due.told(pager), told);
            } else if (which < 12) {
                before.add(machine);
                Due.is("one more to undo", pager.undoable(), Math.min(8, undoable + 1));
            } else if (which == 12) {
                Due.isText("undone", Due.machine(pager), before.remove(before.size() - 1));
                Due.is("one less to undo", pager.undoable(), undoable - 1);
            } else if (which == 13) {
                before.clear();
            } else if (which < 45) {
                Due.isText("call " + which + " changes nothing", Due.machine(pager), machine);
                Due.is("as many to undo", pager.undoable(), undoable);
            }
        }
    }

    /** Whether it threw; what it threw is one of the three classes that the document names, and no class below. */
    private static boolean wildCall(SparePager pager, int which) {
        try {
            if (which < 12) {
                change(pager, which);
            } else {
                look(pager, which);
            }
            return false;
        } catch (RuntimeException e) {
            boolean isNamed = e.getClass() == Due.STATE || e.getClass() == Due.INDEX || e.getClass() == Due.ARGUMENT;
            Due.is("call " + which + " threw " + e, isNamed, true);
            return true;
        }
    }

    private static void change(SparePager pager, int which) {
        switch (which) {
            case 0 -> pager.touch(any(6), any(12), below(2) == 0);
            case 1 -> pager.ask(any(6));
            case 2 -> pager.take(any(4));
            case 3 -> pager.tick(any(5));
            case 4 -> pager.share(any(6), any(12), any(6), any(12));
            case 5 -> pager.drop(any(6), any(12));
            case 6 -> pager.pin(any(6), any(12), below(2) == 0);
            case 7 -> pager.end(below(3) == 0 ? any(6) : 6);
            case 8 -> pager.setPrice(any(6), any(100));
            case 9 -> pager.trust(any(6), any(199) - 99);
            case 10 -> pager.watch(any(6), any(6), any(12));
            default -> pager.unwatch();
        }
    }

    private static void look(SparePager pager, int which) {
        switch (which) {
            case 12 -> pager.undo();
            case 13 -> pager.restore(any(2));
            case 14 -> pager.save(any(2));
            case 15 -> pager.count(any(16));
            case 16 -> pager.setting(any(5));
            case 17 -> pager.program(any(6), any(12));
            case 18 -> pager.page(any(6), any(12), any(9));
            case 19 -> pager.frame(any(64), any(6));
            case 20 -> pager.offer(any(20), any(3));
            case 21 -> pager.worth(any(20));
            case 22 -> pager.costOf(any(73));
            case 23 -> pager.nextFree();
            case 24 -> pager.idlest();
            case 25 -> pager.leastTrusted();
            case 26 -> pager.richest();
            case 27 -> pager.priceStep(any(110));
            case 28 -> pager.sharers(any(6), any(12));
            case 29 -> pager.hitShare();
            case 30 -> pager.meanTrust();
            case 31 -> pager.written(any(6));
            case 32 -> pager.would(any(6), any(12), below(2) == 0);
            case 33 -> pager.freeIn(any(201));
            case 34 -> pager.offersIn(any(201));
            case 35 -> pager.ticksTo(any(65));
            case 36 -> pager.creditIf(any(6), any(73));
            case 37 -> pager.victim(any(73));
            case 38 -> pager.leastPrice(any(6));
            case 39 -> pager.writeProgram(any(6));
            case 40 -> pager.writeFrames();
            case 41 -> pager.writeOffers();
            case 42 -> pager.textByte(any(30));
            case 43 -> pager.append(any(1000), any(1000), any(1000), any(1000), any(1000));
            case 44 -> pager.find(any(620));
            default -> pager.load(any(620));
        }
    }

    // ---- what one method tells, and what the others do

    private static void looksRun(int run) {
        SparePager pager = Due.loaded(machineText());
        int programs = pager.count(0);
        for (int call = 0; call < 60; call++) {
            wildCall(pager, below(11));
            if (call % 6 == 0) {
                countsFit(pager);
                offersFit(pager);
                asksFit(pager);
                timeFits(pager);
                takesFit(pager);
                for (int program = 0; program < programs; program++) {
                    touchesFit(pager, program);
                    leastPriceFits(pager, program);
                }
            }
        }
    }

    private static void countsFit(SparePager pager) {
        Due.is("each frame has a state", pager.count(2) + pager.count(3) + pager.count(4), pager.setting(0));
        int shared = 0;
        int pagesInFrames = 0;
        for (int frame = 0; frame < pager.setting(0); frame++) {
            int inside = pager.frame(frame, 3);
            pagesInFrames += inside;
            shared += inside > 1 ? 1 : 0;
            Due.is("held", pager.frame(frame, 0) == 1, inside > 0);
            Due.is("in flight", pager.frame(frame, 0) == 2, pager.frame(frame, 2) > pager.count(5));
        }
        Due.is("shared", pager.count(15), shared);
        int pagesIn = 0;
        int offers = 0;
        int faults = 0;
        int lies = 0;
        for (int program = 0; program < pager.count(0); program++) {
            pagesIn += pager.program(program, 5);
            offers += pager.program(program, 7);
            faults += pager.program(program, 8);
            lies += pager.program(program, 9);
        }
        Due.is("pages in", pagesIn, pagesInFrames);
        Due.is("offers", pager.count(14), offers);
        Due.is("faults", pager.count(7), faults);
        Due.is("lies", pager.count(13), lies);
    }

    private static void offersFit(SparePager pager) {
        List<int[]> offers = new ArrayList<>();
        for (int program = 0; program < pager.count(0); program++) {
            for (int page = 0; page < pager.program(program, 1); page++) {
                int idle = pager.count(5) - pager.page(program, page, 1) + pager.program(program, 2);
                boolean isAlone = pager.page(program, page, 0) >= 0 && pager.page(program, page, 3) == 0;
                boolean isOffer = isAlone && pager.page(program, page, 2) == 0 && idle >= pager.setting(1);
                Due.is("11: an offer", pager.page(program, page, 7) == 1, isOffer);
                if (isOffer) {
                    offers.add(new int[] {program, page});
                }
            }
        }
        offers.sort((a, b) -> compare(pager, a, b));
        Due.is("14: offers", pager.count(14), offers.size());
        int next = -1;
        for (int i = 0; i < offers.size(); i++) {
            int[] offer = offers.get(i);
            Due.is("13: program", pager.offer(i, 0), offer[0]);
            Due.is("13: page", pager.offer(i, 1), offer[1]);
            Due.is("13: price", pager.offer(i, 2), pager.page(offer[0], offer[1], 8));
            Due.isReal("14: worth", pager.worth(i), worth(pager, offer));
            int price = pager.offer(i, 2);
            next = price > 40 && (next < 0 || price < next) ? price : next;
        }
        Due.is("20: priceStep", pager.priceStep(40), next);
    }

    private static float worth(SparePager pager, int[] offer) {
        return (float) (pager.page(offer[0], offer[1], 8) * 100) / (float) pager.program(offer[0], 4);
    }

    private static int compare(SparePager pager, int[] a, int[] b) {
        int byWorth = Float.compare(worth(pager, a), worth(pager, b));
        int byUse = Integer.compare(pager.page(a[0], a[1], 1), pager.page(b[0], b[1], 1));
        int byRow = Integer.compare(12 * a[0] + a[1], 12 * b[0] + b[1]);
        return byWorth != 0 ? byWorth : byUse != 0 ? byUse : byRow;
    }

    private static void asksFit(SparePager pager) {
        int pages = 1 + below(12);
        int cost = pager.costOf(pages);
        int programs = pager.count(0);
        int[] want = new int[programs];
        int before = 0;
        for (int program = 0; program < programs; program++) {
            want[program] = pager.creditIf(program, pages);
            before += pager.program(program, 3);
        }
        int bought = Math.min(pages, pager.count(14));
        Due.is("37: ask", pager.ask(pages), bought);
        int after = 0;
        for (int program = 0; program < programs; program++) {
            Due.is("29: creditIf", want[program], pager.program(program, 3));
            after += pager.program(program, 3);
        }
        Due.is("15: costOf", cost, after - before);
        pager.undo();
    }

    private static void timeFits(SparePager pager) {
        int ticks = 1 + below(8);
        int free = pager.freeIn(ticks);
        int offers = pager.offersIn(ticks);
        Due.is("26: freeIn 0", pager.freeIn(0), pager.count(2));
        Due.is("27: offersIn 0", pager.offersIn(0), pager.count(14));
        int frames = pager.setting(0);
        int most = pager.count(2) + pager.count(4);
        for (int wanted = 0; wanted <= frames; wanted++) {
            int to = pager.ticksTo(wanted);
            Due.is("28: never", to < 0, wanted > most);
            if (to >= 0) {
                Due.is("28: then", pager.freeIn(to) >= wanted, true);
                Due.is("28: not before", to > 0 && pager.freeIn(to - 1) >= wanted, false);
            }
        }
        int wereFree = pager.count(2);
        Due.is("39: tick", pager.tick(ticks), free - wereFree);
        Due.is("26: freeIn", pager.count(2), free);
        Due.is("27: offersIn", pager.count(14), offers);
        pager.undo();
    }

    private static void takesFit(SparePager pager) {
        int pages = 1 + below(6);
        int victim = pager.victim(pages);
        int taken = pages > 1 ? pager.take(pages - 1) : 0;
        int last = pager.victim(1);
        int one = pager.take(1);
        Due.is("30: victim", victim, one == 1 ? last : -1);
        Due.is("38: one behind the other", taken + one, victim >= 0 ? pages : taken);
        pager.undo();
        if (pages > 1) {
            pager.undo();
        }
    }

    private static void touchesFit(SparePager pager, int program) {
        if (pager.program(program, 10) != 0) {
            return;
        }
        for (int page = 0; page < pager.program(program, 1); page++) {
            boolean write = below(2) == 0;
            String before = Due.machine(pager);
            int would = pager.would(program, page, write);
            Due.isText("25: would changes nothing", Due.machine(pager), before);
            Due.is("25: would", would, pager.touch(program, page, write));
            pager.undo();
            Due.isText("49: undo", Due.machine(pager), before);
        }
    }

    private static void leastPriceFits(SparePager pager, int program) {
        int least = pager.leastPrice(program);
        int want = -1;
        for (int price = 1; price <= 99 && want < 0; price++) {
            pager.setPrice(program, price);
            boolean sells = pager.count(14) > 0 && pager.offer(0, 0) == program;
            want = sells ? -1 : price;
            pager.undo();
        }
        Due.is("31: leastPrice", least, want);
    }
}
