/**
 * The sentences that name a boundary of what is read and written: section 6 of the document's "Terms", promises 1 to 7
 * (input) and 32 to 35 (texts). Each has a test of its own, which quotes it.
 */
public final class TextEdgesTest {
    private static final String HEAD = "frames 2 0 0 9 4;";
    private static final String BLANKS = "                    ";

    private TextEdgesTest() {
    }

    public static void main(String[] args) {
        bufferHoldsSixHundred();
        fullBufferTakesNothing();
        fullBufferIsParsed();
        emptyBuffer();
        bufferIsFilledAgain();
        mostSignificantByteFirst();
        wordsOfSixLetters();
        numbersOfThreeDigits();
        leadingZerosCount();
        leadingZerosDoNotMatter();
        blanksOnlySeparate();
        otherBytesAreNoBlanks();
        runOfLettersEnds();
        runOfDigitsEnds();
        eachByteBehindTheHead();
        boundsOfFrames();
        boundsOfIdle();
        boundsOfFlight();
        boundsOfWarranty();
        boundsOfLie();
        boundsOfPrice();
        boundsOfPages();
        boundsOfBluff();
        bluffIsNoughtIfNotTold();
        boundsOfPage();
        noLineAtAll();
        nameIsAnyWord();
        namesAreDifferent();
        programIsOfAnEarlierLine();
        atMostSixPrograms();
        inLinePutsPagesInFrames();
        inLineWithEachPage();
        inLineFillsAllFrames();
        pinLinePins();
        firstErrorFromTheLeft();
        smallestCodeOfAToken();
        codeOneTokens();
        codeOneAtTheEnd();
        codeTwo();
        codeThree();
        codeFour();
        positionAtTheEnd();
        onlyTheFirstBytesAreParsed();
        loadWithWrongLengths();
        errorOfTheLatestLoad();
        findBytes();
        findWithWrongLengths();
        programText();
        programTextMarks();
        framesTextDigits();
        offersTextIsEmpty();
        offersTextNumbers();
        textByteBeforeTheFirstText();
        textByteEdges();
        textIsReplaced();
        textStaysBehindRefusals();
        Due.end();
    }

    private static void error(String text, int code, int position) {
        SparePager pager = Due.loaded("frames 9 0 0 0 0;run stays 7 1");
        Due.feed(pager, text);
        Due.refuses("\"" + text + "\"", Due.ARGUMENT, () -> pager.load(text.length()));
        Due.is("parseError of \"" + text + "\"", pager.parseError(), code);
        Due.is("errorPosition of \"" + text + "\"", pager.errorPosition(), position);
        Due.is("buffered behind \"" + text + "\"", pager.buffered(), 0);
        Due.is("the machine stays behind \"" + text + "\"", 10 * pager.setting(0) + pager.program(0, 0), 97);
    }

    private static SparePager fine(String text, int programs) {
        SparePager pager = new SparePager();
        Due.is("load of \"" + text + "\"", Due.load(pager, text), programs);
        Due.is("parseError of \"" + text + "\"", pager.parseError(), 0);
        Due.is("errorPosition of \"" + text + "\"", pager.errorPosition(), -1);
        Due.is("buffered behind \"" + text + "\"", pager.buffered(), 0);
        return pager;
    }

    // ---- the input buffer, promises 1 to 3 and 6

    /** "The input buffer holds at most 600 bytes." */
    private static void bufferHoldsSixHundred() {
        SparePager pager = new SparePager();
        Due.is("1: empty", pager.buffered(), 0);
        for (int bytes = 20; bytes <= 600; bytes += 20) {
            Due.is("2: append", pager.append(bytes, 0, 0, 0, 0), bytes);
            Due.is("6: buffered", pager.buffered(), bytes);
        }
        Due.is("2: one more", pager.append(0, 0, 0, 0, 0), -1);
        Due.is("2: and again", pager.append(0, 0, 0, 0, 0), -1);
        Due.is("6: buffered", pager.buffered(), 600);
    }

    /** "NONE if there would be more than 600, in which case nothing is appended". */
    private static void fullBufferTakesNothing() {
        SparePager pager = new SparePager();
        String text = "frames 3 0 0 0 0" + BLANKS.repeat(29) + "    ";
        Due.feed(pager, text);
        Due.is("full", pager.buffered(), 600);
        Due.is("refused", pager.append('x' << 24, 'x' << 24, 'x' << 24, 'x' << 24, 'x'), -1);
        Due.is("what was there is there still", pager.load(600), 0);
        Due.is("FRAMES", pager.setting(0), 3);
    }

    /** The last of 600 bytes is parsed, too. */
    private static void fullBufferIsParsed() {
        String blanks = BLANKS.repeat(29) + "    ";
        Due.is("FRAMES", fine(blanks + "frames 2 9 0 0 0", 0).setting(1), 9);
        error(blanks + "frames 2 0 0 0 1", 2, 599);
        error(blanks + "frames 2 0 0 0 ;", 1, 599);
        error(blanks + "frames 2 0 0 0  ", 1, 600);
        error(blanks + "frames 2 0 0 0 !", 1, 599);
        StringBuilder lines = new StringBuilder("frames 64 0 0 0 0");
        for (int program = 0; program < 6; program++) {
            lines.append(";run p").append((char) ('a' + program)).append(" 99 12 bluff 99");
        }
        for (int program = 0; program < 5; program++) {
            lines.append(";in p").append((char) ('a' + program)).append(" 0 1 2 3 4 5 6 7 8 9 10 11");
        }
        for (int row = 71; lines.length() < 580; row--) {
            lines.append(";pin p").append((char) ('a' + row / 12)).append(' ').append(row % 12);
        }
        lines.append(";pin pa 1");
        while (lines.length() < 600) {
            lines.append(' ');
        }
        SparePager pager = fine(lines.toString(), 6);
        Due.is("60 pages are in", pager.count(3), 60);
        Due.is("the last line", pager.page(0, 1, 2), 1);
        error(lines.substring(0, 598) + ";;", 1, 599);
    }

    /** "with an empty input buffer"; load of 0 bytes. */
    private static void emptyBuffer() {
        SparePager pager = new SparePager();
        Due.refuses("3: one byte", Due.INDEX, () -> pager.load(1));
        Due.is("4: stays", pager.parseError(), 0);
        Due.is("5: stays", pager.errorPosition(), -1);
        Due.refuses("3: no bytes", Due.ARGUMENT, () -> pager.load(0));
        Due.is("4: no text", pager.parseError(), 1);
        Due.is("5: at its end", pager.errorPosition(), 0);
    }

    /** "empties the buffer, even if the parse fails": it can be filled up again each time. */
    private static void bufferIsFilledAgain() {
        SparePager pager = new SparePager();
        for (int round = 0; round < 3; round++) {
            Due.feed(pager, "frames 2 0 0 0 0" + BLANKS.repeat(29) + "    ");
            Due.is("full", pager.append(0, 0, 0, 0, 0), -1);
            if (round == 1) {
                Due.refuses("only a part", Due.ARGUMENT, () -> pager.load(9));
            } else {
                Due.is("load", pager.load(16), 0);
            }
            Due.is("empty", pager.buffered(), 0);
        }
        Due.feed(pager, BLANKS.repeat(30));
        Due.is("7: find", pager.find(600), -1);
        Due.is("empty", pager.buffered(), 0);
        Due.is("append", pager.append(0, 0, 0, 0, 0), 20);
    }

    /** "the four bytes of each argument in order, the most significant byte first". */
    private static void mostSignificantByteFirst() {
        SparePager pager = new SparePager();
        pager.append(0x6672616d, 0x65732032, 0x20302030, 0x20302030, 0x3b72756e);
        pager.append(0x20616220, 0x31203120, 0x20202020, 0x20202020, 0x20202020);
        Due.is("frames 2 0 0 0 0;run ab 1 1", pager.load(40), 1);
        pager.append(0x61626161, 0, 0, 0, 0);
        Due.is("ab", pager.find(2), 0);
        // Bytes of 128 and more are negative as bytes, and none of them is a blank or a letter.
        for (int place = 0; place < 20; place++) {
            int[] words = {0x20202020, 0x20202020, 0x20202020, 0x20202020, 0x20202020};
            words[place / 4] ^= 0xc0 << 24 - 8 * (place % 4);
            pager.append(words[0], words[1], words[2], words[3], words[4]);
            Due.refuses("a byte of 224", Due.ARGUMENT, () -> pager.load(20));
            Due.is("its place", pager.errorPosition(), place);
        }
    }

    // ---- tokens

    /** "words (1 to 6 lower-case letters)"; code 1: "a word of 7 or more letters". */
    private static void wordsOfSixLetters() {
        fine(HEAD + "run a 1 1;in a 0", 1);
        fine(HEAD + "run abcdef 1 1;in abcdef 0", 1);
        error(HEAD + "run abcdefg 1 1", 1, 21);
        error(HEAD + "run abcdefgh 1 1", 1, 21);
        error("framess 2 0 0 0 0", 1, 0);
        error("frame 2 0 0 0 0", 1, 0);
        error(HEAD + "run a 1 1;in abcdefg 0", 1, 30);
        error(HEAD + "run abcdef 1 1;pin abcdefa 0", 1, 36);
        fine(HEAD + "run az 1 1;run zzzzzz 1 1;run aaaaaa 1 1", 3);
    }

    /** "numbers (1 to 3 digits ...)"; code 1: "a number of 4 or more digits". */
    private static void numbersOfThreeDigits() {
        fine("frames 2 200 0 0 0", 0);
        error("frames 2 999 0 0 0", 2, 9);
        error("frames 2 1000 0 0 0", 1, 9);
        error("frames 2 10000 0 0 0", 1, 9);
        error("frames 2 4294967296 0 0 0", 1, 9);
        error("frames 2 18446744073709551616 0 0 0", 1, 9);
        error(HEAD + "run a 0001 1", 1, 23);
        error(HEAD + "run a 1 1;in a 0000", 1, 32);
        error(HEAD + "run a 1 2;in a 0 0001", 1, 34);
    }

    /** "leading zeros counted": 0064 has four digits. */
    private static void leadingZerosCount() {
        error("frames 0064 0 0 0 0", 1, 7);
        error("frames 64 0000 0 0 0", 1, 10);
        fine("frames 064 000 0 0 0", 0);
    }

    /** "leading zeros do not matter for its value". */
    private static void leadingZerosDoNotMatter() {
        SparePager pager = fine("frames 007 08 009 010 001;run a 099 012 bluff 00;in a 011 00 1;pin a 007", 1);
        int[] want = {7, 8, 9, 10, 1};
        for (int what = 0; what < 5; what++) {
            Due.is("setting " + what, pager.setting(what), want[what]);
        }
        Due.is("PRICE", pager.program(0, 0), 99);
        Due.is("PAGES", pager.program(0, 1), 12);
        Due.is("page 011", pager.page(0, 11, 0), 0);
        Due.is("page 00", pager.page(0, 0, 0), 1);
        Due.is("page 007", pager.page(0, 7, 2), 1);
        error(HEAD + "run a 000 1", 2, 23);
        error(HEAD + "run a 1 000", 2, 25);
        error(HEAD + "run a 1 1;in a 0 00", 3, 34);
        error(HEAD + "run a 1 1;pin a 0;pin a 000", 3, 41);
    }

    /** "Blanks (byte 32) only separate tokens." */
    private static void blanksOnlySeparate() {
        fine("   frames    2 0   0 0 0   ;   run   a   1 1   ;in   a   0   ", 1);
        fine("frames2 0 0 0 0;run a1 1;in a0;pin a0", 1);
        fine("frames2 0 0 0 0;run a1 1bluff1;in a0", 1);
        error("fra mes 2 0 0 0 0", 1, 0);
        error("frames 2 0 0 0", 1, 14);
        error("frames 2 0 0 00", 1, 15);
    }

    /** A byte beside 32 that looks like a blank starts no token. */
    private static void otherBytesAreNoBlanks() {
        for (int other : new int[] {0, 9, 10, 11, 12, 13, 31, 33, 127, 160}) {
            error((char) other + "frames 2 0 0 0 0", 1, 0);
            error("frames" + (char) other + "2 0 0 0 0", 1, 6);
            error("frames 2 0 0 0 0" + (char) other, 1, 16);
        }
    }

    /** "A run of letters ends at the first byte that is not a lower-case letter". */
    private static void runOfLettersEnds() {
        fine(HEAD + "run ab 1 1", 1);
        for (char other : new char[] {'`', '{', 'A', 'Z', '@', '[', '.', '-', '_'}) {
            error(HEAD + "run ab" + other + " 1 1", 1, 23);
        }
        error(HEAD + "run ab;1 1", 1, 23);
        fine(HEAD + "run ab1 1", 1);
        error(HEAD + "run abcdef" + "G 1 1", 1, 27);
    }

    /** "a run of digits ends at the first byte that is not a digit". */
    private static void runOfDigitsEnds() {
        for (char other : new char[] {'/', ':', '.', '-', '+', ','}) {
            error("frames 2" + other + "0 0 0 0", 1, 8);
        }
        error("frames 2a 0 0 0", 1, 8);
        fine("frames 2 0 0 0 0;run a 1 1;in a 0;pin a 0", 1);
        error("frames 200" + "a", 2, 7);
        error("frames -2 0 0 0 0", 1, 7);
        error("frames +2 0 0 0 0", 1, 7);
    }

    /** Each of the 256 bytes behind a text that is whole. */
    private static void eachByteBehindTheHead() {
        for (int other = 0; other < 256; other++) {
            String text = "frames 2 0 0 0 0" + (char) other;
            if (other == ' ' || other == '0') {
                fine(text, 0);
            } else if (other >= '1' && other <= '9') {
                error(text, 2, 15);
            } else {
                error(text, 1, other == ';' ? 17 : 16);
            }
        }
    }

    // ---- numbers and their bounds

    private static void bounds(String before, int least, int most, String after) {
        for (int inside : new int[] {least, least + 1, most - 1, most}) {
            if (inside >= least && inside <= most) {
                SparePager pager = new SparePager();
                Due.is(before + inside + after, Due.load(pager, before + inside + after) >= 0, true);
            }
        }
        if (least > 0) {
            error(before + (least - 1) + after, 2, before.length());
        }
        error(before + (most + 1) + after, 2, before.length());
        error(before + 999 + after, 2, before.length());
    }

    /** "FRAMES (2 to 64)". */
    private static void boundsOfFrames() {
        bounds("frames ", 2, 64, " 0 0 0 0");
        error("frames 0 0 0 0 0", 2, 7);
    }

    /** "IDLE (0 to 200)". */
    private static void boundsOfIdle() {
        bounds("frames 2 ", 0, 200, " 0 0 0");
    }

    /** "FLIGHT (0 to 20 ...)". */
    private static void boundsOfFlight() {
        bounds("frames 2 0 ", 0, 20, " 0 0");
    }

    /** "WARRANTY (0 to 200)". */
    private static void boundsOfWarranty() {
        bounds("frames 2 0 0 ", 0, 200, " 0");
    }

    /** "LIE (0 to WARRANTY)". */
    private static void boundsOfLie() {
        bounds("frames 2 0 0 0 ", 0, 0, "");
        bounds("frames 2 0 0 1 ", 0, 1, "");
        bounds("frames 2 0 0 77 ", 0, 77, "");
        bounds("frames 2 0 0 200 ", 0, 200, "");
    }

    /** "PRICE (1 to 99)". */
    private static void boundsOfPrice() {
        bounds(HEAD + "run a ", 1, 99, " 1");
    }

    /** "PAGES (1 to 12 ...)". */
    private static void boundsOfPages() {
        bounds(HEAD + "run a 1 ", 1, 12, "");
        bounds(HEAD + "run a 1 ", 1, 12, " bluff 3;run b 1 1");
    }

    /** "BLUFF (0 to 99)". */
    private static void boundsOfBluff() {
        bounds(HEAD + "run a 1 1 bluff ", 0, 99, "");
        bounds(HEAD + "run a 1 1 bluff ", 0, 99, ";in a 0");
    }

    /** ["bluff" BLUFF]: it may be missing, also behind a program that has one. */
    private static void bluffIsNoughtIfNotTold() {
        SparePager pager = fine(HEAD + "run a 1 1 bluff 99;run b 1 1;run c 1 1 bluff 0", 3);
        Due.is("a", pager.program(0, 2), 99);
        Due.is("b", pager.program(1, 2), 0);
        Due.is("c", pager.program(2, 2), 0);
    }

    /** "PAGE is the number of a page of it." */
    private static void boundsOfPage() {
        for (int pages : new int[] {1, 2, 12}) {
            bounds(HEAD + "run b 1 12;run a 1 " + pages + ";in a ", 0, pages - 1, "");
            bounds(HEAD + "run b 1 12;run a 1 " + pages + ";pin a ", 0, pages - 1, "");
        }
        error(HEAD + "run a 1 5;in a 2 5", 2, 34);
        fine(HEAD + "run a 1 5;in a 2 4", 1);
    }

    // ---- lines

    /** {";" line}: there may be none. */
    private static void noLineAtAll() {
        SparePager pager = fine("frames 2 0 0 0 0", 0);
        Due.is("programs", pager.count(0), 0);
        error("frames 2 0 0 0 0;", 1, 17);
        error("frames 2 0 0 0 0;;", 1, 17);
        error(HEAD + "run a 1 1;", 1, 27);
        error(HEAD + "run a 1 1;;in a 0", 1, 27);
        error(";frames 2 0 0 0 0", 1, 0);
        error("frames;2 0 0 0 0", 1, 6);
    }

    /** "NAME is any word (also one that is quoted here)". */
    private static void nameIsAnyWord() {
        SparePager pager = fine("frames 9 0 0 0 0;run frames 1 1;run run 2 1;run in 3 1;run pin 4 1"
                + ";run bluff 5 1 bluff 5"
                + ";in in 0;in run 0;pin pin 0;in frames 0;in bluff 0", 5);
        String[] names = {"frames", "run", "in", "pin", "bluff"};
        for (int program = 0; program < 5; program++) {
            Due.is("7: " + names[program], Due.find(pager, names[program]), program);
            Due.is("PRICE of " + names[program], pager.program(program, 0), program + 1);
        }
        Due.is("in in", pager.page(2, 0, 0), 0);
        Due.is("pin pin", pager.page(3, 0, 2), 1);
    }

    /** "the NAMES are different": one that begins like another is another. */
    private static void namesAreDifferent() {
        fine(HEAD + "run a 1 1;run aa 1 1;run aaa 1 1;run ab 1 1;run ba 1 1;run b 1 1", 6);
        error(HEAD + "run a 1 1;run b 1 1;run a 1 1", 3, 41);
        error(HEAD + "run abcdef 1 1;run abcdef 1 1", 3, 36);
    }

    /** "PROGRAM is the NAME of an earlier run line". */
    private static void programIsOfAnEarlierLine() {
        error(HEAD + "in a 0;run a 1 1", 3, 20);
        error(HEAD + "pin a 0;run a 1 1", 3, 21);
        error(HEAD + "run a 1 1;in b 0;run b 1 1", 3, 30);
        error(HEAD + "run ab 1 1;in a 0", 3, 31);
        error(HEAD + "run a 1 1;in ab 0", 3, 30);
        fine(HEAD + "run a 1 1;in a 0;run b 1 1;in b 0;pin a 0", 2);
    }

    private static String programs(int programs) {
        StringBuilder text = new StringBuilder("frames 2 0 0 0 0");
        for (int program = 0; program < programs; program++) {
            text.append(";run ").append((char) ('a' + program)).append(" 1 1");
        }
        return text.toString();
    }

    /** "There are at most 6 programs." */
    private static void atMostSixPrograms() {
        for (int programs = 0; programs <= 6; programs++) {
            fine(programs(programs), programs);
        }
        error(programs(7), 4, programs(6).length() + 1);
        fine(programs(6) + ";in f 0;pin a 0", 6);
    }

    /** "An in line puts pages, which are out, in frames, one behind the other". */
    private static void inLinePutsPagesInFrames() {
        SparePager pager = fine("frames 9 0 0 0 0;run a 1 9;run b 1 9;in b 8;in a 5 3;in b 0;in a 8", 2);
        Due.is("b.8", pager.page(1, 8, 0), 0);
        Due.is("a.5", pager.page(0, 5, 0), 1);
        Due.is("a.3", pager.page(0, 3, 0), 2);
        Due.is("b.0", pager.page(1, 0, 0), 3);
        Due.is("a.8", pager.page(0, 8, 0), 4);
        Due.is("it is no touch", pager.count(6) + pager.count(7), 0);
        Due.is("clean", pager.written(0) + pager.written(1), 0);
        Due.is("held", pager.count(3), 5);
    }

    /** PAGE {PAGE}: one page, and all twelve. */
    private static void inLineWithEachPage() {
        Due.is("one", fine("frames 9 0 0 0 0;run a 1 9;in a 4", 1).count(3), 1);
        String all = "frames 64 0 0 0 0;run a 1 12;in a 11 10 9 8 7 6 5 4 3 2 1 0";
        Due.is("twelve", fine(all, 1).count(3), 12);
        error(all + " 0", 3, all.length() + 1);
        error(all + " 12", 2, all.length() + 1);
        error(all + " 0000", 1, all.length() + 1);
        error(all + " a", 1, all.length() + 1);
        fine(all + ";pin a 0", 1);
        error("frames 9 0 0 0 0;run a 1 9;in a", 1, 31);
        error("frames 9 0 0 0 0;run a 1 9;in a;pin a 0", 1, 31);
    }

    /** Code 4: "a PAGE of an in line for which there is no free frame". */
    private static void inLineFillsAllFrames() {
        fine("frames 2 0 0 0 0;run a 1 9;in a 0 1", 1);
        error("frames 2 0 0 0 0;run a 1 9;in a 0 1 2", 4, 36);
        error("frames 2 0 0 0 0;run a 1 9;in a 0 1;in a 2", 4, 41);
        error("frames 2 0 0 0 0;run a 1 9;run b 1 1;in a 0 1;in b 0", 4, 51);
        StringBuilder text = new StringBuilder("frames 64 0 0 0 0");
        for (char name = 'a'; name <= 'f'; name++) {
            text.append(";run ").append(name).append(" 1 12;in ").append(name);
            for (int page = 0; page < (name == 'f' ? 4 : 12); page++) {
                text.append(' ').append(page);
            }
        }
        Due.is("64 pages in 64 frames", fine(text.toString(), 6).count(3), 64);
        error(text + " 4", 4, text.length() + 1);
    }

    /** "a pin line pins a page that is not pinned": in or out. */
    private static void pinLinePins() {
        SparePager pager = fine("frames 2 0 0 0 0;run a 1 3;in a 0;pin a 0;pin a 2;in a 2", 1);
        Due.is("in", pager.page(0, 0, 2), 1);
        Due.is("not pinned", pager.page(0, 1, 2), 0);
        Due.is("pinned, then put in", pager.page(0, 2, 2), 1);
        Due.is("put in", pager.page(0, 2, 0), 1);
        error("frames 2 0 0 0 0;run a 1 3;pin a 0 1", 1, 35);
    }

    // ---- errors

    /** "Parsing stops at the first token, from the left, at which an error is found". */
    private static void firstErrorFromTheLeft() {
        error("frames 1 201 21 201 !", 2, 7);
        error("frames 2 201 !", 2, 9);
        error(HEAD + "run a 0 0", 2, 23);
        error(HEAD + "run a 1 0 !", 2, 25);
        error(HEAD + "in a 99;run", 3, 20);
        error(HEAD + "! in a", 1, 17);
        error(programs(6) + ";run a 0 0", 4, programs(6).length() + 1);
        error(programs(6) + ";run", 4, programs(6).length() + 1);
        error(programs(6) + ";run 5", 4, programs(6).length() + 1);
    }

    /** "if several errors apply to that token, the smallest code is reported". */
    private static void smallestCodeOfAToken() {
        String full = "frames 2 0 0 0 0;run a 1 3;in a 0 1";
        error(full + " 3", 2, 36);
        error(full + " 1", 3, 36);
        error(full + " 2", 4, 36);
        error(full + " 0002", 1, 36);
        error(full + ";in a 3", 2, 41);
        error(full + ";in a 0", 3, 41);
        error(full + ";in a 2", 4, 41);
    }

    /** Code 1: "a byte that starts no token ... a token that the grammar does not allow here". */
    private static void codeOneTokens() {
        error("2 frames", 1, 0);
        error("run a 1 1", 1, 0);
        error("frames a 0 0 0 0", 1, 7);
        error("frames 2 0 0 0 0 0", 1, 17);
        error("frames 2 0 0 0 0 run a 1 1", 1, 17);
        error(HEAD + "frames", 1, 17);
        error(HEAD + "bluff 1", 1, 17);
        error(HEAD + "1", 1, 17);
        error(HEAD + "run 1 1 1", 1, 21);
        error(HEAD + "run a a 1", 1, 23);
        error(HEAD + "run a 1 a", 1, 25);
        error(HEAD + "run a 1 1 2", 1, 27);
        error(HEAD + "run a 1 1 in", 1, 27);
        error(HEAD + "run a 1 1 bluff a", 1, 33);
        error(HEAD + "run a 1 1 bluff 1 1", 1, 35);
        error(HEAD + "run a 1 1;in 0", 1, 30);
        error(HEAD + "run a 1 1;in a b", 1, 32);
        error(HEAD + "run a 1 1;pin 0", 1, 31);
        error(HEAD + "run a 1 1;pin a b", 1, 33);
        error(HEAD + "run a 1 1;in a 0 a", 1, 34);
        error(HEAD + "run a 1 1;in a 0 pin a 0", 1, 34);
    }

    /** Code 1: "the end of the text where a line is not complete". */
    private static void codeOneAtTheEnd() {
        String whole = HEAD + "run a 1 3 bluff 4;in a 0 2;pin a 1";
        fine(whole, 1);
        for (int length = 0; length < whole.length(); length++) {
            String part = whole.substring(0, length);
            boolean isWhole = part.matches("frames 2 0 0 9 4(;run a 1 3( bluff 4(;in a 0( 2(;pin a 1)?)?)?)?)? ?");
            if (isWhole) {
                fine(part, length > 17 ? 1 : 0);
            } else if (part.isEmpty() || !part.matches(".*[a-z]")) {
                error(part, 1, length);
            }
        }
        error(HEAD + "run a 1", 1, 24);
        error(HEAD + "run a 1 1 bluff", 1, 32);
    }

    /** Code 2: "a number out of its bounds", wherever it stands. */
    private static void codeTwo() {
        error("frames 65 0 0 0 0", 2, 7);
        error("frames 2 0 0 5 6", 2, 15);
        error(HEAD + "run a 100 1", 2, 23);
        error(HEAD + "run a 1 13", 2, 25);
        error(HEAD + "run a 1 1 bluff 100", 2, 33);
        error(HEAD + "run a 1 1;in a 1", 2, 32);
        error(HEAD + "run a 1 1;pin a 1", 2, 33);
        error(HEAD + "run a 1 2;in a 0 2", 2, 34);
    }

    /** Code 3: "a NAME that is told already; a PROGRAM that is none; a PAGE that is in already ...". */
    private static void codeThree() {
        error(HEAD + "run a 1 1;run a 0 0", 3, 31);
        error(HEAD + "run a 1 1;in z 0", 3, 30);
        error(HEAD + "run a 1 1;pin run 0", 3, 31);
        error(HEAD + "run a 1 2;in a 1 1", 3, 34);
        error(HEAD + "run a 1 2;in a 1;in a 0 1", 3, 41);
        error(HEAD + "run a 1 2;pin a 1;pin a 1", 3, 41);
        fine(HEAD + "run a 1 2;pin a 1;in a 1", 1);
        fine(HEAD + "run a 1 2;in a 1;pin a 1", 1);
    }

    /** Code 4: "the first word of a seventh run line": not another line, and not the sixth one. */
    private static void codeFour() {
        int at = programs(6).length();
        error(programs(6) + ";run g 1 1", 4, at + 1);
        error(programs(6) + ";   run", 4, at + 4);
        error(programs(6) + ";rum g 1 1", 1, at + 1);
        error(programs(6) + ";runs g 1 1", 1, at + 1);
        error(programs(6) + ";in g 1", 3, at + 4);
        fine(programs(5) + ";in a 0;run g 1 1;pin g 0", 6);
    }

    /** "at the end of the text it is the number of bytes that are parsed". */
    private static void positionAtTheEnd() {
        error("", 1, 0);
        error(" ", 1, 1);
        error("frames", 1, 6);
        error("frames     ", 1, 11);
        error("frames 2 0 0 0 0;   ", 1, 20);
        error(HEAD + "run a 1  ", 1, 26);
        SparePager pager = new SparePager();
        Due.feed(pager, "frames 2 0 0 0 0");
        Due.refuses("the first 15 bytes", Due.ARGUMENT, () -> pager.load(15));
        Due.is("5: not the bytes in the buffer", pager.errorPosition(), 15);
    }

    /** "Parses the first n bytes": what stands behind them is not looked at. */
    private static void onlyTheFirstBytesAreParsed() {
        SparePager pager = new SparePager();
        Due.feed(pager, "frames 2 0 0 0 0;run a 1 1!!!!");
        Due.is("up to the semicolon", pager.load(16), 0);
        Due.feed(pager, "frames 20 0 0 0 0");
        Due.refuses("a number is cut off", Due.ARGUMENT, () -> pager.load(16));
        Due.is("its end", pager.errorPosition(), 16);
        Due.feed(pager, "frames 2 0 0 0 0;run abcdefgh 1 1");
        Due.refuses("a word is cut off", Due.ARGUMENT, () -> pager.load(27));
        Due.is("6 letters, then the end", pager.errorPosition(), 27);
        Due.feed(pager, "frames 2 0 100 0 0");
        Due.refuses("a number of two digits", Due.ARGUMENT, () -> pager.load(13));
        Due.is("10 is in its bounds", pager.errorPosition(), 13);
    }

    /** "if n is negative or greater ...; the buffer, parseError() and errorPosition() stay". */
    private static void loadWithWrongLengths() {
        for (int bytes : new int[] {0, 20, 600}) {
            SparePager pager = new SparePager();
            Due.feed(pager, "frames 1");
            Due.refuses("an error", Due.ARGUMENT, () -> pager.load(8));
            for (int at = 0; at < bytes; at += 20) {
                pager.append(0x20202020, 0x20202020, 0x20202020, 0x20202020, 0x20202020);
            }
            for (int n : new int[] {-1, bytes + 1, Integer.MIN_VALUE, Integer.MAX_VALUE}) {
                Due.refuses(n + " of " + bytes, Due.INDEX, () -> pager.load(n));
                Due.is("the buffer stays", pager.buffered(), bytes);
                Due.is("parseError stays", pager.parseError(), 2);
                Due.is("errorPosition stays", pager.errorPosition(), 7);
            }
            Due.refuses("all of them", Due.ARGUMENT, () -> pager.load(bytes));
            Due.is("parseError", pager.parseError(), 1);
            Due.is("errorPosition", pager.errorPosition(), bytes);
        }
    }

    /** "the latest call of load that did not throw IndexOutOfBoundsException"; "0 ... if there was none". */
    private static void errorOfTheLatestLoad() {
        SparePager pager = new SparePager();
        Due.is("4: none yet", pager.parseError(), 0);
        Due.is("5: none yet", pager.errorPosition(), -1);
        String[] texts = {"frames !", "frames 1", HEAD + "in a", HEAD + "run a 1 3;in a 0 1 2"};
        int[] places = {7, 7, 20, 36};
        for (int code = 1; code <= 4; code++) {
            String text = texts[code - 1];
            Due.feed(pager, text);
            Due.refuses("code " + code, Due.ARGUMENT, () -> pager.load(text.length()));
            Due.is("4: code", pager.parseError(), code);
            Due.is("5: its place", pager.errorPosition(), places[code - 1]);
            Due.refuses("nothing to load", Due.INDEX, () -> pager.load(1));
            Due.is("4: stays", pager.parseError(), code);
            Due.is("5: stays", pager.errorPosition(), places[code - 1]);
        }
        Due.is("a text without an error", Due.load(pager, "frames 2 0 0 0 0"), 0);
        Due.is("4: 0", pager.parseError(), 0);
        Due.is("5: NONE", pager.errorPosition(), SparePager.NONE);
    }

    // ---- promise 7

    /** "the first n bytes ... (all of them, blanks too)"; "NONE if there is none (0 bytes, too)". */
    private static void findBytes() {
        SparePager pager = fine(HEAD + "run a 1 1;run abcdef 1 1;run z 1 1", 3);
        Due.is("one letter", Due.find(pager, "a"), 0);
        Due.is("six letters", Due.find(pager, "abcdef"), 1);
        Due.is("five of them", Due.find(pager, "abcde"), -1);
        Due.is("seven", Due.find(pager, "abcdefa"), -1);
        for (char first = 'a'; first <= 'z'; first++) {
            Due.is("seven, the last six are one", Due.find(pager, first + "abcdef"), -1);
            Due.is("eight, the last six are one", Due.find(pager, "h" + first + "abcdef"), -1);
            error(HEAD + "run abcdef 1 1;in " + first + "abcdef 0", 1, 35);
        }
        Due.is("a blank behind", Due.find(pager, "a "), -1);
        Due.is("a blank ahead", Due.find(pager, " a"), -1);
        Due.is("a blank inside", Due.find(pager, "abc def"), -1);
        Due.is("upper case", Due.find(pager, "A"), -1);
        for (int other = 0; other < 256; other++) {
            Due.is("byte " + other, Due.find(pager, "" + (char) other), other == 'a' ? 0 : other == 'z' ? 2 : -1);
        }
        Due.feed(pager, "a");
        Due.is("0 bytes", pager.find(0), -1);
        Due.is("the buffer is empty", pager.buffered(), 0);
        Due.is("0 bytes of none", pager.find(0), -1);
        Due.feed(pager, "abcdef, whatever stands behind them");
        Due.is("whatever stands behind", pager.find(6), 1);
        Due.is("the buffer is empty", pager.buffered(), 0);
        pager.end(1);
        Due.is("ended", Due.find(pager, "abcdef"), 1);
    }

    /** "IndexOutOfBoundsException if n is negative or greater ...; the buffer stays". */
    private static void findWithWrongLengths() {
        for (int bytes : new int[] {0, 20, 600}) {
            SparePager pager = fine(HEAD + "run a 1 1", 1);
            for (int at = 0; at < bytes; at += 20) {
                pager.append('a' << 24, 0, 0, 0, 0);
            }
            for (int n : new int[] {-1, bytes + 1, Integer.MIN_VALUE, Integer.MAX_VALUE}) {
                Due.refuses(n + " of " + bytes, Due.INDEX, () -> pager.find(n));
                Due.is("the buffer stays", pager.buffered(), bytes);
            }
            Due.is("all of them", pager.find(bytes), -1);
            Due.is("the buffer is empty", pager.buffered(), 0);
        }
        SparePager none = new SparePager();
        Due.feed(none, "a");
        Due.refuses("no text was loaded", Due.STATE, () -> none.find(1));
        Due.refuses("no text was loaded, and n is wrong", Due.STATE, () -> none.find(21));
        Due.is("the buffer stays", none.buffered(), 20);
    }

    // ---- promises 32 to 35

    private static void text(SparePager pager, int length, String want) {
        Due.is("length of \"" + want + "\"", length, want.length());
        Due.isText("text", Due.read(pager, length), want);
        Due.refuses("35: behind it", Due.INDEX, () -> pager.textByte(want.length()));
    }

    /** "its NAME, a blank, and for each page": one page and twelve, one letter and six. */
    private static void programText() {
        SparePager pager = fine(HEAD + "run a 1 1;run abcdef 1 12", 2);
        text(pager, pager.writeProgram(0), "a o");
        text(pager, pager.writeProgram(1), "abcdef oooooooooooo");
        pager.end(0);
        text(pager, pager.writeProgram(0), "a ox");
        Due.refuses("32: -1", Due.INDEX, () -> pager.writeProgram(-1));
        Due.refuses("32: 2", Due.INDEX, () -> pager.writeProgram(2));
        text(pager, pager.writeProgram(1), "abcdef oooooooooooo");
    }

    /** "o if it is out, s if it shares its frame, d if its frame is dirty (...), otherwise i; ...". */
    private static void programTextMarks() {
        SparePager pager = fine("frames 9 0 0 9 4;run a 1 12;run b 1 1;in a 0 1 2 3 4 5;pin a 1;pin a 11", 2);
        pager.touch(0, 2, true);
        pager.touch(0, 3, true);
        pager.touch(0, 1, true);
        pager.share(0, 3, 1, 0);
        pager.share(0, 4, 0, 10);
        pager.ask(1);
        pager.pin(0, 0, true);
        pager.pin(0, 3, true);
        text(pager, pager.writeProgram(0), "a o!*d!ds!sioooos" + "o!");
        text(pager, pager.writeProgram(1), "b s");
        pager.end(1);
        text(pager, pager.writeProgram(0), "a o!*d!dd!sioooos" + "o!");
        text(pager, pager.writeProgram(1), "b ox");
    }

    /** "a point if it is free, a tilde (126) if it is in flight, otherwise the digit ... (9, if there are more)". */
    private static void framesTextDigits() {
        SparePager pager = fine("frames 3 0 5 9 4;run a 1 12;run b 1 2;in a 0;in b 0", 2);
        for (int pages = 1; pages <= 12; pages++) {
            text(pager, pager.writeFrames(), Math.min(9, pages) + "1.");
            if (pages < 12) {
                pager.share(0, 0, 0, pages);
            }
        }
        pager.touch(1, 0, true);
        pager.drop(1, 0);
        text(pager, pager.writeFrames(), "9~.");
        Due.is("126", pager.textByte(1), 126);
        pager.tick(5);
        text(pager, pager.writeFrames(), "9..");
        SparePager empty = fine("frames 2 0 0 0 0", 0);
        text(empty, empty.writeFrames(), "..");
    }

    /** "with a blank between two": with no offers there is no byte. */
    private static void offersTextIsEmpty() {
        SparePager pager = fine("frames 9 0 0 9 4;run a 1 12;in a 0 1", 1);
        text(pager, pager.writeOffers(), "a.0:1 a.1:1");
        pager.ask(1);
        text(pager, pager.writeOffers(), "a.1:1");
        pager.ask(1);
        text(pager, pager.writeOffers(), "");
        Due.refuses("35: byte 0 of an empty text", Due.INDEX, () -> pager.textByte(0));
    }

    /** "Numbers have no leading zeros." */
    private static void offersTextNumbers() {
        SparePager pager = fine("frames 9 0 0 9 4;run abcdef 9 12;in abcdef 0 9 10 11", 1);
        text(pager, pager.writeOffers(), "abcdef.0:9 abcdef.9:9 abcdef.10:9 abcdef.11:9");
        for (int price : new int[] {1, 7, 8, 9, 10, 11, 97, 98, 99}) {
            pager.setPrice(0, price);
            text(pager, pager.writeOffers(), "abcdef.0:P abcdef.9:P abcdef.10:P abcdef.11:P".replace("P", "" + price));
        }
        pager.pin(0, 0, true);
        pager.pin(0, 9, true);
        pager.pin(0, 10, true);
        pager.touch(0, 11, true);
        for (int price : new int[] {1, 7, 8, 97, 98, 99}) {
            pager.setPrice(0, price);
            text(pager, pager.writeOffers(), "abcdef.11:" + (price + 2));
        }
    }

    /** "always, before the first text". */
    private static void textByteBeforeTheFirstText() {
        SparePager pager = new SparePager();
        Due.refuses("no machine", Due.INDEX, () -> pager.textByte(0));
        Due.load(pager, HEAD + "run a 1 1;in a 0");
        for (int i : new int[] {0, 1, -1, Integer.MIN_VALUE, Integer.MAX_VALUE}) {
            Due.refuses("no text", Due.INDEX, () -> pager.textByte(i));
        }
        Due.refuses("no such program", Due.INDEX, () -> pager.writeProgram(1));
        Due.refuses("no text still", Due.INDEX, () -> pager.textByte(0));
    }

    /** "IndexOutOfBoundsException if there is no such byte". */
    private static void textByteEdges() {
        SparePager pager = fine(HEAD + "run zy 1 1;in zy 0", 1);
        Due.is("length", pager.writeProgram(0), 4);
        Due.is("the first byte", pager.textByte(0), 'z');
        Due.is("the last byte", pager.textByte(3), 'i');
        for (int i : new int[] {-1, 4, 5, Integer.MIN_VALUE, Integer.MAX_VALUE}) {
            Due.refuses("byte " + i, Due.INDEX, () -> pager.textByte(i));
        }
    }

    /** "a text that replaces the text that was written before": also if it is shorter. */
    private static void textIsReplaced() {
        SparePager pager = fine("frames 2 0 0 9 4;run abcdef 1 12;in abcdef 0", 1);
        text(pager, pager.writeProgram(0), "abcdef iooooooooooo");
        text(pager, pager.writeFrames(), "1.");
        text(pager, pager.writeOffers(), "abcdef.0:1");
        pager.drop(0, 0);
        text(pager, pager.writeOffers(), "");
        text(pager, pager.writeFrames(), "..");
    }

    /** "The text that was written last stays until the next text": also behind calls that are refused. */
    private static void textStaysBehindRefusals() {
        SparePager pager = fine(HEAD + "run ab 1 1;in ab 0", 1);
        pager.save(0);
        pager.touch(0, 0, true);
        pager.writeProgram(0);
        Due.refuses("32", Due.INDEX, () -> pager.writeProgram(1));
        Due.refuses("37", Due.ARGUMENT, () -> pager.ask(0));
        text(pager, 4, "ab d");
        pager.undo();
        text(pager, 4, "ab d");
        pager.restore(0);
        text(pager, 4, "ab d");
        Due.feed(pager, "frames");
        Due.refuses("3", Due.ARGUMENT, () -> pager.load(6));
        text(pager, 4, "ab d");
        Due.load(pager, "frames 64 0 0 0 0");
        text(pager, 4, "ab d");
        text(pager, pager.writeFrames(), ".".repeat(64));
    }
}
