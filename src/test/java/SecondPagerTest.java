import java.lang.reflect.InvocationTargetException;
import java.lang.reflect.Method;
import java.lang.reflect.Modifier;
import java.util.ArrayList;
import java.util.Arrays;
import java.util.HashMap;
import java.util.List;
import java.util.Map;
import java.util.TreeMap;

/**
 * Runs of up to 512 calls on a SparePager and on a SecondPager: each answer and each exception has to be the same.
 * The arguments are mostly such that a call succeeds, and often just inside or just outside of a bound.
 */
public final class SecondPagerTest {
    private static final int RUNS = 200;
    private static final int CALLS = 512;
    private static final String[] CHANGES = {
        "touch", "touch", "touch", "touch", "touch", "touch", "ask", "ask", "take", "tick", "tick", "share", "share",
        "drop", "pin", "pin", "setPrice", "trust", "watch",
    };
    private static final String[] SELDOM = {
        "end", "unwatch", "undo", "undo", "undo", "save", "restore", "append", "find", "load", "parseError",
        "errorPosition", "buffered", "undoable",
    };
    private static final String[] LOOKS = {
        "count", "setting", "program", "page", "frame", "offer", "worth", "costOf", "nextFree", "idlest",
        "leastTrusted", "richest", "priceStep", "sharers", "hitShare", "meanTrust", "written", "would", "freeIn",
        "offersIn", "ticksTo", "creditIf", "victim", "leastPrice", "writeProgram", "writeFrames", "writeOffers",
        "textByte", "watched",
    };

    private static final Map<String, Method> FIRST = new HashMap<>();
    private static final Map<String, Method> SECOND = new HashMap<>();
    private static final Map<String, Integer> SEEN = new TreeMap<>();

    private final SparePager pager = new SparePager();
    private final SecondPager second = new SecondPager();
    private final List<String> calls = new ArrayList<>();
    private boolean isWrong;

    private SecondPagerTest() {
    }

    public static void main(String[] args) {
        collect(SparePager.class, FIRST);
        collect(SecondPager.class, SECOND);
        Due.is("the second one has the whole face", SECOND.keySet().containsAll(FIRST.keySet()), true);
        for (int run = 0; run < RUNS; run++) {
            WholeTest.start(31000 + run);
            new SecondPagerTest().run(run);
        }
        // Without these, the runs would not tell much.
        for (String answer : new String[] {"touch 0", "touch 1", "touch 2", "touch 3", "touch 4", "touch 5",
            "watch true", "watch false", "load IllegalArgumentException", "restore IllegalStateException",
            "undo IllegalStateException", "share IllegalArgumentException", "drop IllegalArgumentException",
            "end IllegalArgumentException", "tick IllegalArgumentException", "leastPrice -1", "ticksTo -1",
            "victim -1", "priceStep -1", "find -1", "append -1", "watched -1", "nextFree -1"}) {
            Due.is("the answer " + answer + " came up", SEEN.getOrDefault(answer, 0) >= 10, true);
        }
        Due.end();
    }

    private static void collect(Class<?> from, Map<String, Method> into) {
        for (Method method : from.getDeclaredMethods()) {
            if (!Modifier.isPrivate(method.getModifiers()) && !Modifier.isStatic(method.getModifiers())) {
                into.put(method.getName(), method);
            }
        }
    }

    private static int below(int limit) {
        return WholeTest.below(limit);
    }

    /** Mostly from the least to the most; sometimes one of them, and seldom just outside or far away. */
    private static int between(int least, int most) {
        switch (below(24)) {
            case 0:
                return least;
            case 1:
                return most;
            case 2:
                return below(3) == 0 ? least - 1 : least;
            case 3:
                return below(3) == 0 ? most + 1 : most;
            case 4:
                return below(6) == 0 ? below(2) == 0 ? Integer.MIN_VALUE : Integer.MAX_VALUE : most;
            default:
                return least + below(Math.max(1, most - least + 1));
        }
    }

    private void run(int run) {
        if (run % 50 == 0) {
            call("append", 1, 2, 3, 4, 5);
        } else {
            feedText(machineText(run % 4));
        }
        if (run % 25 == 1) {
            for (int i = 0; i < 49; i++) {
                call("tick", 200);
            }
        }
        while (calls.size() < CALLS && !isWrong) {
            int kind = below(20);
            if (kind < 12) {
                random(CHANGES[below(CHANGES.length)]);
            } else if (kind < 14) {
                random(SELDOM[below(SELDOM.length)]);
            } else {
                random(LOOKS[below(LOOKS.length)]);
            }
        }
        compareAll();
    }

    private static String machineText(int size) {
        if (size == 0) {
            return WholeTest.machineText();
        }
        int frames = size == 1 ? 2 + below(4) : size == 2 ? 6 + below(10) : 40 + below(25);
        int warranty = below(12);
        StringBuilder text = new StringBuilder("frames " + frames + " " + below(4) + " " + below(5) + " " + warranty
                + " " + below(warranty + 1));
        int programs = 1 + below(6);
        int in = 0;
        for (int program = 0; program < programs; program++) {
            char name = (char) ('a' + program);
            int pages = size == 3 ? 12 : 1 + below(6);
            text.append(";run ").append(name).append(' ').append(1 + below(8)).append(' ').append(pages);
            text.append(below(4) == 0 ? "bluff " + below(6) : "");
            int its = Math.min(pages, frames - in);
            for (int page = 0; page < its && text.length() < 560; page++) {
                text.append(page == 0 ? ";in " + name : "").append(' ').append(page);
                in++;
            }
        }
        return text.toString();
    }

    private void feedText(String text) {
        String whole = text.length() > 600 ? text.substring(0, 600) : text;
        call("load", between(0, buffered()));
        for (int at = 0; at < whole.length(); at += 20) {
            call("append", four(whole, at), four(whole, at + 4), four(whole, at + 8), four(whole, at + 12),
                    four(whole, at + 16));
        }
        call("load", below(8) == 0 ? between(0, whole.length()) : whole.length());
    }

    private static int four(String text, int at) {
        int bytes = 0;
        for (int i = at; i < at + 4; i++) {
            bytes = bytes * 256 + (i < text.length() ? text.charAt(i) : ' ');
        }
        return bytes;
    }

    // ---- arguments

    private int buffered() {
        return pager.buffered();
    }

    private boolean isLoaded() {
        try {
            return pager.count(0) >= 0;
        } catch (IllegalStateException e) {
            return false;
        }
    }

    private int anyProgram() {
        return between(0, isLoaded() ? pager.count(0) - 1 : 5);
    }

    private int anyPage(int program) {
        return between(0, isLoaded() && program >= 0 && program < pager.count(0) ? pager.program(program, 1) - 1 : 11);
    }

    private void random(String name) {
        int program = anyProgram();
        int page = anyPage(program);
        switch (name) {
            case "touch", "pin", "would" -> call(name, program, page, below(2) == 0);
            case "ask", "take" -> call(name, below(6) == 0 ? between(1, 72) : 1 + below(4));
            case "costOf", "victim" -> call(name, below(2) == 0 ? between(1, 72) : 1 + below(8));
            case "tick" -> call(name, below(6) == 0 ? between(1, 200) : 1 + below(4));
            case "freeIn", "offersIn" -> call(name, below(2) == 0 ? between(0, 200) : below(6));
            case "share" -> {
                int other = anyProgram();
                call(name, program, page, other, anyPage(other));
            }
            case "drop", "sharers" -> call(name, program, page);
            case "setPrice" -> call(name, program, below(2) == 0 ? between(1, 99) : 1 + below(8));
            case "trust" -> call(name, program, between(-99, 99));
            case "watch" -> call(name, between(0, 5), program, page);
            case "watched" -> call(name, between(0, 5));
            case "end", "written", "leastPrice", "writeProgram" -> {
                // Programs that have ended make a dull run.
                if (!name.equals("end") || below(6) == 0) {
                    call(name, program);
                }
            }
            case "save", "restore" -> call(name, between(0, 1));
            case "append" -> {
                for (int i = below(3) == 0 ? 12 : 1; i > 0; i--) {
                    call(name, 'a' << 24 | below(2) << 21, below(1 << 30), between(0, 5), 7, 8);
                }
            }
            case "find" -> find();
            case "load" -> {
                if (below(8) == 0) {
                    feedText(machineText(below(4)));
                } else if (below(8) == 0) {
                    call(name, between(0, buffered()));
                }
            }
            case "count" -> call(name, between(0, 15));
            case "setting" -> call(name, between(0, 4));
            case "program" -> call(name, program, between(0, 11));
            case "page" -> call(name, program, page, between(0, 8));
            case "frame" -> call(name, between(0, isLoaded() ? pager.setting(0) - 1 : 63), between(0, 5));
            case "offer" -> call(name, between(0, isLoaded() ? pager.count(14) - 1 : 5), between(0, 2));
            case "worth" -> call(name, between(0, isLoaded() ? pager.count(14) - 1 : 5));
            case "priceStep" -> call(name, below(2) == 0 ? between(0, 200) : below(12));
            case "ticksTo" -> call(name, between(0, isLoaded() ? pager.setting(0) : 63));
            case "creditIf" -> call(name, program, below(2) == 0 ? between(1, 72) : 1 + below(8));
            case "textByte" -> call(name, between(0, 12));
            default -> call(name);
        }
    }

    private void find() {
        if (below(2) == 0) {
            call("append", ('a' + below(7)) << 24 | (below(2) == 0 ? 0x202020 : 0x616161), 0x20202020, 0, 0, 0);
        }
        call("find", below(2) == 0 ? 1 : between(0, buffered()));
    }

    // ---- comparing

    private static Object answer(Map<String, Method> face, Object of, String name, Object[] arguments) {
        try {
            return face.get(name).invoke(of, arguments);
        } catch (InvocationTargetException e) {
            return e.getCause().getClass().getSimpleName();
        } catch (IllegalAccessException e) {
            throw new AssertionError(e);
        }
    }

    private void call(String name, Object... arguments) {
        calls.add(name + Arrays.toString(arguments));
        Object got = answer(FIRST, pager, name, arguments);
        Object want = answer(SECOND, second, name, arguments);
        SEEN.merge(name + " " + got, 1, Integer::sum);
        if (!got.equals(want) && !isWrong) {
            isWrong = true;
            System.out.println("behind " + calls);
        }
        Due.isText(name + Arrays.toString(arguments), got.toString(), want.toString());
        if (calls.size() % 64 == 0) {
            compareAll();
        }
    }

    private void look(String name, Object... arguments) {
        String got = answer(FIRST, pager, name, arguments).toString();
        String want = answer(SECOND, second, name, arguments).toString();
        if (!got.equals(want) && !isWrong) {
            isWrong = true;
            System.out.println("behind " + calls);
        }
        Due.isText(name + Arrays.toString(arguments), got, want);
    }

    private void compareAll() {
        look("undoable");
        look("buffered");
        for (int i = 0; i < 40; i++) {
            look("textByte", i);
        }
        for (int what = 0; what <= 15; what++) {
            look("count", what);
        }
        for (int place = 0; place < 6; place++) {
            look("watched", place);
        }
        for (int program = 0; program < 6; program++) {
            for (int what = 0; what <= 11; what++) {
                look("program", program, what);
            }
            look("written", program);
            look("leastPrice", program);
            for (int page = 0; page < 12; page++) {
                for (int what = 0; what <= 8; what++) {
                    look("page", program, page, what);
                }
                look("would", program, page, true);
                look("would", program, page, false);
                look("sharers", program, page);
            }
        }
        for (int frame = 0; frame < 64; frame += 7) {
            for (int what = 0; what <= 5; what++) {
                look("frame", frame, what);
            }
        }
        for (int offer = 0; offer < 6; offer++) {
            look("offer", offer, 0);
            look("offer", offer, 1);
            look("offer", offer, 2);
            look("worth", offer);
        }
        for (String name : new String[] {"nextFree", "idlest", "leastTrusted", "richest", "hitShare", "meanTrust"}) {
            look(name);
        }
        for (int number = 1; number <= 72; number += 1 + number / 3) {
            look("costOf", number);
            look("victim", number);
            look("ticksTo", number);
            look("freeIn", number);
            look("offersIn", number);
            look("creditIf", number % 6, number);
            look("priceStep", number);
        }
    }
}
