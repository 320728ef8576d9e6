/** What the tests share: objects with a text loaded, and answers that are compared with the ones that are due. */
final class Due {
    interface Call {
        void run();
    }

    static final Class<?> STATE = IllegalStateException.class;
    static final Class<?> INDEX = IndexOutOfBoundsException.class;
    static final Class<?> ARGUMENT = IllegalArgumentException.class;

    private static int wrong = 0;
    private static int compared = 0;

    private Due() {
    }

    static void is(String what, long got, long want) {
        compared++;
        if (got != want) {
            tell(what + " answered " + got + ", due is " + want);
        }
    }

    static void is(String what, boolean got, boolean want) {
        is(what, got ? 1 : 0, want ? 1 : 0);
    }

    static void isReal(String what, double got, double want) {
        compared++;
        if (got != want) {
            tell(what + " answered " + got + ", due is " + want);
        }
    }

    static void isText(String what, String got, String want) {
        compared++;
        if (!got.equals(want)) {
            tell(what + " answered \"" + got + "\", due is \"" + want + "\"");
        }
    }

    /** The class is compared exactly: what the machine itself throws is a class below the documented one. */
    static void refuses(String what, Class<?> kind, Call call) {
        compared++;
        try {
            call.run();
            tell(what + " threw nothing, due is " + kind.getName());
        } catch (RuntimeException e) {
            if (e.getClass() != kind) {
                tell(what + " threw " + e + ", due is " + kind.getName());
            }
        }
    }

    static void tell(String line) {
        wrong++;
        if (wrong <= 40) {
            System.out.println(line);
        }
    }

    static void end() {
        System.out.println(compared + " compared, " + wrong + " wrong");
        if (wrong != 0) {
            System.exit(1);
        }
    }

    /** Appends a text, filled up with blanks to whole calls of append. */
    static void feed(SparePager pager, String text) {
        for (int at = 0; at < text.length(); at += 20) {
            pager.append(four(text, at), four(text, at + 4), four(text, at + 8), four(text, at + 12),
                    four(text, at + 16));
        }
    }

    private static int four(String text, int at) {
        int bytes = 0;
        for (int i = at; i < at + 4; i++) {
            bytes = bytes << 8 | (i < text.length() ? text.charAt(i) & 255 : ' ');
        }
        return bytes;
    }

    static int load(SparePager pager, String text) {
        feed(pager, text);
        return pager.load(text.length());
    }

    static SparePager loaded(String text) {
        SparePager pager = new SparePager();
        load(pager, text);
        return pager;
    }

    static int find(SparePager pager, String name) {
        feed(pager, name);
        return pager.find(name.length());
    }

    static String read(SparePager pager, int length) {
        StringBuilder text = new StringBuilder();
        for (int i = 0; i < length; i++) {
            text.append((char) pager.textByte(i));
        }
        return text.toString();
    }

    /** All that can be read of a machine without changing it, but the text that was written. */
    static String told(SparePager pager) {
        StringBuilder told = new StringBuilder();
        told.append(pager.parseError()).append(' ').append(pager.errorPosition()).append(' ')
                .append(pager.buffered()).append(' ').append(pager.undoable()).append('\n');
        told.append(machine(pager));
        return told.toString();
    }

    static String machine(SparePager pager) {
        StringBuilder told = new StringBuilder();
        try {
            pager.count(0);
        } catch (IllegalStateException e) {
            return "no machine";
        }
        for (int what = 0; what <= 15; what++) {
            told.append(pager.count(what)).append(' ');
        }
        for (int what = 0; what <= 4; what++) {
            told.append(pager.setting(what)).append(' ');
        }
        for (int place = 0; place < 6; place++) {
            told.append(pager.watched(place)).append(' ');
        }
        told.append(pager.hitShare()).append(' ').append(pager.meanTrust()).append('\n');
        for (int program = 0; program < pager.count(0); program++) {
            for (int what = 0; what <= 11; what++) {
                told.append(pager.program(program, what)).append(' ');
            }
            told.append('\n');
            for (int page = 0; page < pager.program(program, 1); page++) {
                for (int what = 0; what <= 8; what++) {
                    told.append(pager.page(program, page, what)).append(' ');
                }
                told.append('\n');
            }
        }
        for (int frame = 0; frame < pager.setting(0); frame++) {
            for (int what = 0; what <= 5; what++) {
                told.append(pager.frame(frame, what)).append(' ');
            }
            told.append('\n');
        }
        for (int i = 0; i < pager.count(14); i++) {
            told.append(pager.offer(i, 0)).append('.').append(pager.offer(i, 1)).append(':')
                    .append(pager.offer(i, 2)).append('/').append(pager.worth(i)).append(' ');
        }
        return told.toString();
    }
}
