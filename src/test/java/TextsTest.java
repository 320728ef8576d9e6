/** Promises 32 to 35: texts. */
public final class TextsTest {
    private TextsTest() {
    }

    public static void main(String[] args) {
        programs();
        frames();
        offers();
        longestOffers();
        textByte();
        textStays();
        Due.end();
    }

    private static void program(SparePager pager, int program, String want) {
        int length = pager.writeProgram(program);
        Due.is("32: length", length, want.length());
        Due.isText("32: text", Due.read(pager, length), want);
        Due.refuses("35: behind the text", Due.INDEX, () -> pager.textByte(length));
    }

    private static void programs() {
        SparePager pager = Due.loaded(
                "frames 9 0 3 10 4;run abcxyz 5 6;run b 3 1;in abcxyz 0 1 2 3;pin abcxyz 1;pin b 0");
        program(pager, 0, "abcxyz ii!iioo");
        program(pager, 1, "b o!");
        pager.touch(0, 0, true);
        pager.touch(0, 1, true);
        program(pager, 0, "abcxyz dd!iioo");
        pager.share(0, 1, 1, 0);
        program(pager, 0, "abcxyz ds!iioo");
        program(pager, 1, "b s!");
        pager.ask(2);
        program(pager, 0, "abcxyz ds!o*o*oo");
        pager.pin(0, 2, true);
        pager.pin(1, 0, false);
        program(pager, 0, "abcxyz ds!o!*o*oo");
        program(pager, 1, "b s");
        pager.end(0);
        program(pager, 0, "abcxyz oooooox");
        program(pager, 1, "b d");
        Due.refuses("32: -1", Due.INDEX, () -> pager.writeProgram(-1));
        Due.refuses("32: 2", Due.INDEX, () -> pager.writeProgram(2));
    }

    private static void frames(SparePager pager, String want) {
        int length = pager.writeFrames();
        Due.is("33: length", length, want.length());
        Due.isText("33: text", Due.read(pager, length), want);
    }

    private static void frames() {
        SparePager pager = Due.loaded("frames 4 0 3 10 4;run a 5 12;run b 3 12;in a 0 1;in b 0");
        frames(pager, "111.");
        pager.touch(0, 1, true);
        pager.drop(0, 1);
        frames(pager, "1~1.");
        for (int page = 1; page < 12; page++) {
            pager.share(0, 0, 1, page);
            frames(pager, "" + Math.min(9, page + 1) + "~1.");
        }
        pager.tick(3);
        frames(pager, "9.1.");
        frames(Due.loaded("frames 64 0 0 0 0"), "................................................................");
    }

    private static void offers(SparePager pager, String want) {
        int length = pager.writeOffers();
        Due.is("34: length", length, want.length());
        Due.isText("34: text", Due.read(pager, length), want);
    }

    private static void offers() {
        SparePager pager = Due.loaded("frames 9 0 3 10 4;run abcdef 9 12;run b 99 1;in abcdef 11 0;in b 0");
        offers(pager, "abcdef.0:9 abcdef.11:9 b.0:99");
        pager.touch(1, 0, true);
        pager.touch(0, 0, true);
        offers(pager, "abcdef.11:9 abcdef.0:11 b.0:101");
        pager.ask(2);
        offers(pager, "b.0:101");
        pager.setPrice(1, 98);
        offers(pager, "b.0:100");
        pager.ask(1);
        offers(pager, "");
    }

    /** 64 frames hold 64 offers; each one of them is dirty and dear. */
    private static void longestOffers() {
        StringBuilder text = new StringBuilder("frames 64 0 0 0 0");
        for (int program = 0; program < 6; program++) {
            text.append(";run abcde").append((char) ('a' + program)).append(" 99 12");
        }
        SparePager pager = Due.loaded(text.toString());
        StringBuilder want = new StringBuilder();
        for (int row = 0; row < 64; row++) {
            pager.touch(row / 12, row % 12, true);
            want.append(row > 0 ? " " : "").append("abcde").append((char) ('a' + row / 12)).append('.')
                    .append(row % 12).append(":101");
        }
        offers(pager, want.toString());
        Due.is("8: offers", pager.count(14), 64);
        Due.is("15: costOf", pager.costOf(72), 64 * 101);
        Due.is("30: victim", pager.victim(64), 63);
        Due.is("37: ask", pager.ask(72), 64);
    }

    private static void textByte() {
        SparePager pager = Due.loaded("frames 2 0 0 0 0;run z 9 1");
        Due.refuses("35: no text yet", Due.INDEX, () -> pager.textByte(0));
        pager.writeProgram(0);
        Due.is("35: z", pager.textByte(0), 'z');
        Due.is("35: blank", pager.textByte(1), ' ');
        Due.is("35: o", pager.textByte(2), 'o');
        Due.refuses("35: 3", Due.INDEX, () -> pager.textByte(3));
        Due.refuses("35: -1", Due.INDEX, () -> pager.textByte(-1));
        Due.refuses("35: least", Due.INDEX, () -> pager.textByte(Integer.MIN_VALUE));
        Due.refuses("35: most", Due.INDEX, () -> pager.textByte(Integer.MAX_VALUE));
        pager.writeOffers();
        Due.refuses("35: an empty text", Due.INDEX, () -> pager.textByte(0));
    }

    private static void textStays() {
        SparePager pager = Due.loaded("frames 2 0 0 0 0;run z 9 1;in z 0");
        pager.save(0);
        pager.touch(0, 0, true);
        int length = pager.writeProgram(0);
        pager.undo();
        Due.isText("behind undo", Due.read(pager, length), "z d");
        pager.restore(0);
        Due.isText("behind restore", Due.read(pager, length), "z d");
        Due.load(pager, "frames 2 0 0 0 0");
        Due.isText("behind load", Due.read(pager, length), "z d");
        Due.feed(pager, "frames 1");
        Due.refuses("an error", Due.ARGUMENT, () -> pager.load(8));
        Due.refuses("no such program", Due.INDEX, () -> pager.writeProgram(0));
        Due.isText("behind errors", Due.read(pager, length), "z d");
        Due.is("a text is no change", pager.undoable(), 0);
        pager.writeFrames();
        Due.isText("the next text", Due.read(pager, 2), "..");
        Due.refuses("35: the rest is gone", Due.INDEX, () -> pager.textByte(2));
    }
}
