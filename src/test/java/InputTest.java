/** Promises 1 to 7: what comes in. */
public final class InputTest {
    private static final String HEAD = "frames 2 2 3 10 4;";
    private static final String SIX = "run a 1 1;run b 1 1;run c 1 1;run d 1 1;run e 1 1;run f 1 1";

    private InputTest() {
    }

    public static void main(String[] args) {
        newObject();
        nothingLoaded();
        append();
        appendedBytes();
        load();
        loadReplaces();
        loadBehindLooks();
        refusedLoadKeeps();
        header();
        runLines();
        inLines();
        pinLines();
        tokens();
        parseErrorAndPosition();
        find();
        Due.end();
    }

    private static void newObject() {
        SparePager pager = new SparePager();
        Due.is("1: buffered", pager.buffered(), 0);
        Due.is("1: undoable", pager.undoable(), 0);
        Due.is("1: parseError", pager.parseError(), 0);
        Due.is("1: errorPosition", pager.errorPosition(), -1);
        Due.is("1: NONE", SparePager.NONE, -1);
        Due.refuses("1: textByte", Due.INDEX, () -> pager.textByte(0));
    }

    /** IllegalStateException is the first at each of these, so that wrong arguments do not matter. */
    private static void nothingLoaded() {
        SparePager pager = new SparePager();
        Due.feed(pager, "a");
        Due.refuses("find", Due.STATE, () -> pager.find(-1));
        Due.is("7: the buffer stays", pager.buffered(), 20);
        Due.refuses("count", Due.STATE, () -> pager.count(-1));
        Due.refuses("setting", Due.STATE, () -> pager.setting(-1));
        Due.refuses("program", Due.STATE, () -> pager.program(-1, -1));
        Due.refuses("page", Due.STATE, () -> pager.page(-1, -1, -1));
        Due.refuses("frame", Due.STATE, () -> pager.frame(-1, -1));
        Due.refuses("offer", Due.STATE, () -> pager.offer(-1, -1));
        Due.refuses("worth", Due.STATE, () -> pager.worth(-1));
        Due.refuses("costOf", Due.STATE, () -> pager.costOf(0));
        Due.refuses("nextFree", Due.STATE, () -> pager.nextFree());
        Due.refuses("idlest", Due.STATE, () -> pager.idlest());
        Due.refuses("leastTrusted", Due.STATE, () -> pager.leastTrusted());
        Due.refuses("richest", Due.STATE, () -> pager.richest());
        Due.refuses("priceStep", Due.STATE, () -> pager.priceStep(-1));
        Due.refuses("sharers", Due.STATE, () -> pager.sharers(-1, -1));
        Due.refuses("hitShare", Due.STATE, () -> pager.hitShare());
        Due.refuses("meanTrust", Due.STATE, () -> pager.meanTrust());
        Due.refuses("written", Due.STATE, () -> pager.written(-1));
        Due.refuses("would", Due.STATE, () -> pager.would(-1, -1, true));
        Due.refuses("freeIn", Due.STATE, () -> pager.freeIn(-1));
        Due.refuses("offersIn", Due.STATE, () -> pager.offersIn(-1));
        Due.refuses("ticksTo", Due.STATE, () -> pager.ticksTo(-1));
        Due.refuses("creditIf", Due.STATE, () -> pager.creditIf(-1, 0));
        Due.refuses("victim", Due.STATE, () -> pager.victim(0));
        Due.refuses("leastPrice", Due.STATE, () -> pager.leastPrice(-1));
        Due.refuses("writeProgram", Due.STATE, () -> pager.writeProgram(-1));
        Due.refuses("writeFrames", Due.STATE, () -> pager.writeFrames());
        Due.refuses("writeOffers", Due.STATE, () -> pager.writeOffers());
        Due.refuses("touch", Due.STATE, () -> pager.touch(-1, -1, true));
        Due.refuses("ask", Due.STATE, () -> pager.ask(0));
        Due.refuses("take", Due.STATE, () -> pager.take(0));
        Due.refuses("tick", Due.STATE, () -> pager.tick(0));
        Due.refuses("share", Due.STATE, () -> pager.share(-1, -1, -1, -1));
        Due.refuses("drop", Due.STATE, () -> pager.drop(-1, -1));
        Due.refuses("pin", Due.STATE, () -> pager.pin(-1, -1, true));
        Due.refuses("end", Due.STATE, () -> pager.end(-1));
        Due.refuses("setPrice", Due.STATE, () -> pager.setPrice(-1, 0));
        Due.refuses("trust", Due.STATE, () -> pager.trust(-1, 100));
        Due.refuses("watch", Due.STATE, () -> pager.watch(-1, -1, -1));
        Due.refuses("watched", Due.STATE, () -> pager.watched(-1));
        Due.refuses("unwatch", Due.STATE, () -> pager.unwatch());
        Due.refuses("undo", Due.STATE, () -> pager.undo());
        Due.refuses("save", Due.STATE, () -> pager.save(-1));
        Due.refuses("restore, no such slot", Due.INDEX, () -> pager.restore(2));
        Due.refuses("restore, no such slot", Due.INDEX, () -> pager.restore(-1));
        Due.refuses("restore, nothing saved", Due.STATE, () -> pager.restore(0));
        Due.refuses("restore, nothing saved", Due.STATE, () -> pager.restore(1));
        Due.is("nothing was a change", pager.undoable(), 0);
    }

    private static void append() {
        SparePager pager = new SparePager();
        for (int bytes = 20; bytes <= 600; bytes += 20) {
            Due.is("2: append", pager.append(0, -1, Integer.MIN_VALUE, Integer.MAX_VALUE, 5), bytes);
        }
        Due.is("2: append to a full buffer", pager.append(0, 0, 0, 0, 0), -1);
        Due.is("6: buffered", pager.buffered(), 600);
    }

    /** The most significant byte comes first, and bytes of 128 and more are bytes, too. */
    private static void appendedBytes() {
        SparePager pager = Due.loaded("frames 2 0 0 0 0;run abcd 1 1");
        Due.is("append", pager.append('a' << 24 | 'b' << 16 | 'c' << 8 | 'd', 0, 0, 0, 0), 20);
        Due.is("2: the bytes of a", pager.find(4), 0);
        for (int place = 0; place < 20; place++) {
            StringBuilder text = new StringBuilder("                    ");
            text.setCharAt(place, (char) 233);
            Due.feed(pager, text.toString());
            Due.refuses("a byte of 233", Due.ARGUMENT, () -> pager.load(20));
            Due.is("2: its place", pager.errorPosition(), place);
        }
    }

    private static void load() {
        SparePager pager = new SparePager();
        Due.is("3: no program", Due.load(pager, "frames 2 0 0 0 0"), 0);
        Due.is("3: one", Due.load(pager, "frames 2 0 0 0 0;run a 1 1"), 1);
        Due.is("3: six", Due.load(pager, HEAD + SIX), 6);
        Due.is("3: the buffer is empty", pager.buffered(), 0);
        Due.feed(pager, "frames 3 0 0 0 0;run b 1 1");
        Due.is("3: only the first n bytes", pager.load(16), 0);
        Due.is("3: FRAMES", pager.setting(0), 3);
        Due.is("3: the buffer is empty", pager.buffered(), 0);
        Due.feed(pager, "frames 4 0 0 0 0");
        Due.refuses("3: n negative", Due.INDEX, () -> pager.load(-1));
        Due.refuses("3: n too great", Due.INDEX, () -> pager.load(21));
        Due.refuses("3: n far too great", Due.INDEX, () -> pager.load(Integer.MAX_VALUE));
        Due.is("3: the buffer stays", pager.buffered(), 20);
        Due.is("3: all of it", pager.load(20), 0);
        Due.is("3: FRAMES", pager.setting(0), 4);
    }

    private static void loadReplaces() {
        SparePager pager = Due.loaded("frames 2 2 3 10 4;run a 5 3;in a 0;pin a 1");
        pager.tick(7);
        pager.touch(0, 1, true);
        pager.watch(0, 0, 0);
        pager.save(0);
        pager.save(1);
        Due.load(pager, "frames 3 0 0 0 0;run b 7 2;run c 8 1");
        Due.is("3: time", pager.count(5), 0);
        Due.is("3: touches", pager.count(6), 0);
        Due.is("3: faults", pager.count(7), 0);
        Due.is("3: free", pager.count(2), 3);
        Due.is("3: PRICE", pager.program(0, 0), 7);
        Due.is("3: faults of b", pager.program(0, 8), 0);
        Due.is("3: not pinned", pager.page(0, 1, 2), 0);
        Due.is("3: not used", pager.page(0, 1, 1), 0);
        Due.is("3: watch list", pager.watched(0), -1);
        Due.is("3: undoable", pager.undoable(), 0);
        Due.refuses("3: undo", Due.STATE, () -> pager.undo());
        Due.refuses("3: nothing saved", Due.STATE, () -> pager.restore(0));
        Due.refuses("3: nothing saved", Due.STATE, () -> pager.restore(1));
    }

    /** What would be is tried somewhere; nothing of that is left in the next machine. */
    private static void loadBehindLooks() {
        String text = "frames 4 0 3 10 4;run a 5 3;run b 2 1;in a 0 1;in b 0";
        SparePager pager = Due.loaded(text);
        String fresh = Due.told(pager);
        pager.tick(9);
        pager.touch(0, 0, true);
        pager.touch(1, 0, true);
        pager.share(0, 1, 0, 2);
        pager.ask(2);
        pager.touch(1, 0, true);
        pager.watch(0, 0, 0);
        pager.pin(0, 0, true);
        pager.end(1);
        pager.would(0, 0, true);
        pager.victim(72);
        Due.load(pager, text);
        Due.isText("3: nothing of the previous machine is left", Due.told(pager), fresh);
    }

    private static void refusedLoadKeeps() {
        SparePager pager = Due.loaded("frames 2 2 3 10 4;run a 5 3;in a 0;pin a 1");
        pager.tick(3);
        pager.watch(0, 0, 0);
        pager.save(1);
        pager.tick(1);
        String before = Due.machine(pager);
        Due.feed(pager, "frames 4 0 0 0 0;run z 1 1;run");
        Due.refuses("3: an error", Due.ARGUMENT, () -> pager.load(30));
        Due.isText("3: the machine stays", Due.machine(pager), before);
        Due.is("3: the buffer is empty", pager.buffered(), 0);
        Due.is("3: changes stay", pager.undoable(), 3);
        Due.is("3: undo", pager.undo(), 2);
        Due.is("3: what was saved stays", pager.restore(1), 3);
    }

    private static void error(String text, int code, int position) {
        SparePager pager = new SparePager();
        Due.feed(pager, text);
        if (text.isEmpty()) {
            Due.feed(pager, "frames 2 0 0 0 0");
        }
        Due.refuses("load of \"" + text + "\"", Due.ARGUMENT, () -> pager.load(text.length()));
        Due.is("4: parseError of \"" + text + "\"", pager.parseError(), code);
        Due.is("5: errorPosition of \"" + text + "\"", pager.errorPosition(), position);
        Due.is("3: buffered behind it", pager.buffered(), 0);
        Due.refuses("3: no machine behind it", Due.STATE, () -> pager.count(0));
    }

    private static SparePager fine(String text, int programs) {
        SparePager pager = new SparePager();
        Due.is("load of \"" + text + "\"", Due.load(pager, text), programs);
        Due.is("4: parseError of \"" + text + "\"", pager.parseError(), 0);
        Due.is("5: errorPosition of \"" + text + "\"", pager.errorPosition(), -1);
        return pager;
    }

    private static void header() {
        error("", 1, 0);
        error("   ", 1, 3);
        error("frame 2", 1, 0);
        error("framess 2", 1, 0);
        error("  run a 1 1", 1, 2);
        error("frames", 1, 6);
        error("frames  ", 1, 8);
        error("frames;", 1, 6);
        error("frames a", 1, 7);
        error("frames 1", 2, 7);
        error("frames 65", 2, 7);
        error("frames 0", 2, 7);
        error("frames 999", 2, 7);
        error("frames 1000", 1, 7);
        error("frames 0064", 1, 7);
        error("frames 064", 1, 10);
        error("frames 4 201", 2, 9);
        error("frames 4 2 21", 2, 11);
        error("frames 4 2 3 201", 2, 13);
        error("frames 4 2 3 10 11", 2, 16);
        error("frames 4 2 3 0 1", 2, 15);
        error("frames 2 0 0 0 0 0", 1, 17);
        error("frames 2 0 0 0 0 run a 1 1", 1, 17);
        error("frames 2 0 0 0 0;", 1, 17);
        error("frames 2 0 0 0 0;  ", 1, 19);
        error("frames 2 0 0 0 0;;", 1, 17);
        error("frames 2 0 0 0 0;frames", 1, 17);
        error("frames 2 0 0 0 0;5", 1, 17);
        SparePager pager = fine("frames 64 200 20 200 200", 0);
        for (int what = 0; what <= 4; what++) {
            Due.is("9: setting", pager.setting(what), what == 0 ? 64 : what == 2 ? 20 : 200);
        }
        fine("  frames  002 000 0 0 0  ", 0);
        fine("frames2 0 0 10 10", 0);
        fine("frames 2 0 0 0 0", 0);
    }

    private static void runLines() {
        error(HEAD + "run", 1, 21);
        error(HEAD + "run 5", 1, 22);
        error(HEAD + "run;", 1, 21);
        error(HEAD + "run abcdefg 1 1", 1, 22);
        error(HEAD + "run a", 1, 23);
        error(HEAD + "run a b", 1, 24);
        error(HEAD + "run a 0 1", 2, 24);
        error(HEAD + "run a 100 1", 2, 24);
        error(HEAD + "run a 1", 1, 25);
        error(HEAD + "run a 1;", 1, 25);
        error(HEAD + "run a 1 0", 2, 26);
        error(HEAD + "run a 1 13", 2, 26);
        error(HEAD + "run a 1 1 5", 1, 28);
        error(HEAD + "run a 1 1 blu", 1, 28);
        error(HEAD + "run a 1 1 bluff", 1, 33);
        error(HEAD + "run a 1 1 bluff 100", 2, 34);
        error(HEAD + "run a 1 1 bluff a", 1, 34);
        error(HEAD + "run a 1 1 bluff 1 bluff 1", 1, 36);
        error(HEAD + "run a 1 1;run a 1 1", 3, 32);
        error(HEAD + "run a 1 1;run b 1 1;run b", 3, 42);
        error(HEAD + SIX + ";run", 4, 78);
        error(HEAD + SIX + ";run a 1 1", 4, 78);
        error(HEAD + SIX + ";run g 1 1", 4, 78);
        error(HEAD + SIX + ";rum", 1, 78);
        fine(HEAD + SIX + ";in f 0;pin f 0", 6);
        SparePager pager = fine(HEAD + "run bluff 99 12 bluff 99;run run1 1;run in 1 1 bluff 0;run abcdef 5 2", 4);
        Due.is("10: PRICE", pager.program(0, 0), 99);
        Due.is("10: PAGES", pager.program(0, 1), 12);
        Due.is("10: BLUFF", pager.program(0, 2), 99);
        Due.is("10: BLUFF, not told", pager.program(1, 2), 0);
        Due.is("7: a quoted word", Due.find(pager, "run"), 1);
        Due.is("7: a quoted word", Due.find(pager, "bluff"), 0);
        Due.is("7: six letters", Due.find(pager, "abcdef"), 3);
    }

    private static void inLines() {
        error(HEAD + "in", 1, 20);
        error(HEAD + "in 1", 1, 21);
        error(HEAD + "in a 0", 3, 21);
        error(HEAD + "run a 1 1;in b 0", 3, 31);
        error(HEAD + "run a 1 1;in a", 1, 32);
        error(HEAD + "run a 1 1;in a;", 1, 32);
        error(HEAD + "run a 1 1;in a a", 1, 33);
        error(HEAD + "run a 1 2;in a 2", 2, 33);
        error(HEAD + "run a 1 2;in a 0 0", 3, 35);
        error(HEAD + "run a 1 2;in a 0;in a 0", 3, 40);
        error(HEAD + "run a 1 3;in a 0 1 2", 4, 37);
        error(HEAD + "run a 1 3;in a 0 1 1", 3, 37);
        error(HEAD + "run a 1 3;in a 0 1 3", 2, 37);
        error(HEAD + "run a 1 3;in a 0 1 0003", 1, 37);
        error(HEAD + "run a 1 3;in a 0 b", 1, 35);
        error(HEAD + "in a 0;run a 1 1", 3, 21);
        SparePager pager = fine("frames 64 2 3 10 4;run a 1 12;run b 2 2;in b 001;in a 11 0 1 2 3 4 5 6 7 8 9 10", 2);
        Due.is("section 6: the first free frame", pager.page(1, 1, 0), 0);
        Due.is("section 6: the next one", pager.page(0, 11, 0), 1);
        Due.is("section 6: the last one", pager.page(0, 10, 0), 12);
        Due.is("section 6: out", pager.page(1, 0, 0), -1);
        Due.is("section 6: in is no touch", pager.count(6) + pager.count(7), 0);
    }

    private static void pinLines() {
        error(HEAD + "pin", 1, 21);
        error(HEAD + "pin 1", 1, 22);
        error(HEAD + "pin a", 3, 22);
        error(HEAD + "run a 1 1;pin a", 1, 33);
        error(HEAD + "run a 1 1;pin a b", 1, 34);
        error(HEAD + "run a 1 1;pin a 1", 2, 34);
        error(HEAD + "run a 1 1;pin a 0;pin a 0", 3, 42);
        error(HEAD + "run a 1 2;pin a 0 1", 1, 36);
        SparePager pager = fine(HEAD + "run a 1 2;pin a 0;in a 1 0;pin a 1", 1);
        Due.is("pinned", pager.page(0, 0, 2) + pager.page(0, 1, 2), 2);
    }

    private static void tokens() {
        error("Frames 2", 1, 0);
        error("frames\t2", 1, 6);
        error("frames 2\n", 1, 8);
        error("frames -2", 1, 7);
        error("frames 2,", 1, 8);
        error("frames 2 0 0 0 0" + (char) 0, 1, 16);
        error("frames 2 0 0 0 0" + (char) 255, 1, 16);
        error("frames 2 0 0 0 0:", 1, 16);
        error("frames 2 0 0 0 0/", 1, 16);
        error(HEAD + "run `", 1, 22);
        error(HEAD + "run {", 1, 22);
        error(HEAD + "run a{ 1", 1, 23);
        error(HEAD + "run a 1 1@", 1, 27);
        error(HEAD + "abcdefghijklmnopqrstuvwxyz", 1, 18);
        error("frames 99999999999999999999", 1, 7);
        SparePager pager = fine("frames2 0 0 0 0;run a9 9bluff9;run z9 9;in a0;pin a8", 2);
        Due.is("blanks are not needed", pager.program(0, 2), 9);
        Due.is("blanks are not needed", pager.page(0, 8, 2), 1);
        Due.is("blanks are not needed", pager.page(0, 0, 0), 0);
    }

    private static void parseErrorAndPosition() {
        SparePager pager = new SparePager();
        Due.feed(pager, "frames 1");
        Due.refuses("an error", Due.ARGUMENT, () -> pager.load(8));
        Due.refuses("n too great", Due.INDEX, () -> pager.load(8));
        Due.is("4: stays", pager.parseError(), 2);
        Due.is("5: stays", pager.errorPosition(), 7);
        Due.load(pager, "frames 2 0 0 0 0");
        Due.is("4: success", pager.parseError(), 0);
        Due.is("5: success", pager.errorPosition(), -1);
        Due.refuses("n negative", Due.INDEX, () -> pager.load(-1));
        Due.is("4: stays", pager.parseError(), 0);
    }

    private static void find() {
        SparePager pager = Due.loaded(HEAD + "run ab 1 1;run abc 1 1;run z 1 1;run abcdef 1 1");
        Due.is("7: ab", Due.find(pager, "ab"), 0);
        Due.is("6: buffered", pager.buffered(), 0);
        Due.is("7: abc", Due.find(pager, "abc"), 1);
        Due.is("7: z", Due.find(pager, "z"), 2);
        Due.is("7: abcdef", Due.find(pager, "abcdef"), 3);
        Due.is("7: a", Due.find(pager, "a"), -1);
        Due.is("7: a blank behind", Due.find(pager, "ab "), -1);
        Due.is("7: a blank ahead", Due.find(pager, " ab"), -1);
        Due.is("7: seven letters", Due.find(pager, "abcdefg"), -1);
        Due.is("7: no letters", Due.find(pager, "AB"), -1);
        Due.is("7: bytes beside the letters", Due.find(pager, "a`"), -1);
        Due.is("7: bytes beside the letters", Due.find(pager, "a{"), -1);
        Due.feed(pager, "ab");
        Due.is("7: 0 bytes", pager.find(0), -1);
        Due.is("7: the buffer is empty then", pager.buffered(), 0);
        Due.feed(pager, "abc and more behind it, on and on");
        Due.is("7: whatever stands behind", pager.find(2), 0);
        Due.is("7: the buffer is empty then", pager.buffered(), 0);
        Due.feed(pager, "ab");
        Due.refuses("7: negative", Due.INDEX, () -> pager.find(-1));
        Due.refuses("7: too great", Due.INDEX, () -> pager.find(21));
        Due.is("7: the buffer stays", pager.buffered(), 20);
        Due.is("7: all of it", pager.find(20), -1);
        pager.end(0);
        Due.is("7: ended", Due.find(pager, "ab"), 0);
        Due.is("find is no change", pager.undoable(), 1);
    }
}
