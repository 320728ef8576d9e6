import java.util.ArrayList;
import java.util.HashMap;
import java.util.HashSet;
import java.util.List;
import java.util.Map;
import java.util.Set;
import java.util.regex.Matcher;
import java.util.regex.Pattern;

/** Texts with errors, each one parsed a second time here in another way: by a list of tokens and the grammar. */
public final class BrokenTextsTest {
    private static final Pattern TOKEN = Pattern.compile("[a-z]+|[0-9]+|[^ ]");
    private static final String[] TOKENS = {
        ";", ";", "run", "in", "pin", "bluff", "frames", "a", "b", "zz", "abcdef", "abcdefg", "0", "1", "2", "12", "13",
        "99", "100", "007", "0001", "!", " ", "A",
    };

    private static final class Wrong extends RuntimeException {
        private static final long serialVersionUID = 1;
        private final int code;

        Wrong(int code) {
            this.code = code;
        }
    }

    private final List<String> tokens = new ArrayList<>();
    private final List<Integer> places = new ArrayList<>();
    private final Map<String, Integer> pagesOf = new HashMap<>();
    private final Set<String> in = new HashSet<>();
    private final Set<String> pinned = new HashSet<>();
    private int at;
    private int frames;

    private BrokenTextsTest(String text) {
        Matcher matcher = TOKEN.matcher(text);
        while (matcher.find()) {
            tokens.add(matcher.group());
            places.add(matcher.start());
        }
        tokens.add("");
        places.add(text.length());
    }

    public static void main(String[] args) {
        int[] codes = new int[5];
        for (int run = 0; run < 20000; run++) {
            WholeTest.start(7000 + run);
            String text = broken();
            SparePager pager = new SparePager();
            Due.feed(pager, text);
            try {
                pager.load(text.length());
            } catch (RuntimeException e) {
                Due.is("load threw " + e, e.getClass() == Due.ARGUMENT, true);
            }
            BrokenTextsTest again = new BrokenTextsTest(text);
            int code = again.code();
            codes[code]++;
            Due.is("4: parseError of \"" + text + "\"", pager.parseError(), code);
            Due.is("5: errorPosition of \"" + text + "\"", pager.errorPosition(), code == 0 ? -1 : again.place());
        }
        for (int code = 0; code <= 4; code++) {
            Due.is("code " + code + " came up often enough", codes[code] >= 100, true);
        }
        Due.end();
    }

    /** A text with up to three bytes or tokens that are other ones, maybe cut off. */
    private static String broken() {
        StringBuilder text = new StringBuilder(WholeTest.machineText());
        for (int i = 0; i < WholeTest.below(4); i++) {
            int place = WholeTest.below(text.length() + 1);
            String token = TOKENS[WholeTest.below(TOKENS.length)];
            if (WholeTest.below(2) == 0) {
                text.insert(place, token);
            } else {
                int blank = text.indexOf(" ", place);
                int from = blank < 0 ? 0 : blank + 1;
                int to = text.indexOf(" ", from);
                text.replace(from, to < 0 ? text.length() : to, token);
            }
        }
        if (WholeTest.below(8) == 0) {
            text.append(";run more 5 5;in a 1;pin b 0;run last 5 5;run g 1 1;run h 1 1;run i 1 1");
        }
        if (WholeTest.below(8) == 0) {
            text.setLength(WholeTest.below(text.length() + 1));
        }
        text.setLength(Math.min(600, text.length()));
        return text.toString();
    }

    private int place() {
        return places.get(at);
    }

    private int code() {
        try {
            text();
            return 0;
        } catch (Wrong e) {
            return e.code;
        }
    }

    private void text() {
        literal("frames");
        frames = number(2, 64);
        number(0, 200);
        number(0, 20);
        int warranty = number(0, 200);
        number(0, warranty);
        while (!isNext("")) {
            literal(";");
            if (isNext("run")) {
                run();
            } else if (isNext("in")) {
                in();
            } else {
                literal("pin");
                String program = program();
                page(program, pinned);
            }
        }
    }

    private void run() {
        require(pagesOf.size() < 6, 4);
        at++;
        require(tokens.get(at).matches("[a-z]{1,6}"), 1);
        String name = tokens.get(at);
        require(!pagesOf.containsKey(name), 3);
        at++;
        number(1, 99);
        pagesOf.put(name, number(1, 12));
        if (isNext("bluff")) {
            at++;
            number(0, 99);
        }
    }

    private void in() {
        at++;
        String program = program();
        do {
            int before = in.size();
            require(!tokens.get(at).matches("[0-9]{1,3}") || before < frames || !isGood(program), 4);
            page(program, in);
        } while (tokens.get(at).matches("[0-9]+"));
    }

    private boolean isGood(String program) {
        int page = Integer.parseInt(tokens.get(at));
        return page < pagesOf.get(program) && !in.contains(program + page);
    }

    private void page(String program, Set<String> set) {
        require(tokens.get(at).matches("[0-9]{1,3}"), 1);
        int page = Integer.parseInt(tokens.get(at));
        require(page < pagesOf.get(program), 2);
        require(set.add(program + page), 3);
        at++;
    }

    private String program() {
        String name = tokens.get(at);
        require(name.matches("[a-z]{1,6}"), 1);
        require(pagesOf.containsKey(name), 3);
        at++;
        return name;
    }

    private int number(int least, int most) {
        require(tokens.get(at).matches("[0-9]{1,3}"), 1);
        int number = Integer.parseInt(tokens.get(at));
        require(number >= least && number <= most, 2);
        at++;
        return number;
    }

    private boolean isNext(String token) {
        return tokens.get(at).equals(token);
    }

    private void literal(String token) {
        require(isNext(token), 1);
        at++;
    }

    private static void require(boolean holds, int code) {
        if (!holds) {
            throw new Wrong(code);
        }
    }
}
