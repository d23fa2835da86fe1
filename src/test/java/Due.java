import java.util.HashMap;
import java.util.Map;

/** What the tests share: answers that are due, and programs written as text. */
final class Due {
    private static final String[] NAMES = {
        "push", "nil", "local", "setlocal", "global", "setglobal", "double", "pop", "swap", "add", "sub", "mul",
        "div", "less", "same", "iszero", "jump", "jumpzero", "call", "return", "spawn", "tuple", "get", "set",
        "getat", "setat", "size", "channel", "send", "receive", "close", "select", "yield", "write", "defer",
        "panic", "recover"};
    private static final Map<String, Integer> OPS = new HashMap<>();
    private static int wrong = 0;
    private static int asked = 0;

    static {
        for (int op = 0; op < NAMES.length; op++) {
            OPS.put(NAMES[op], op);
        }
    }

    private Due() {
    }

    static void is(String what, long got, long due) {
        asked++;
        if (got != due) {
            wrong++;
            System.out.println(what + " answered " + got + ", due is " + due);
        }
    }

    static void refuses(String what, Class<? extends RuntimeException> due, Runnable call) {
        asked++;
        String got = "nothing";
        try {
            call.run();
        } catch (RuntimeException e) {
            got = e.getClass().getSimpleName();
        }
        if (!got.equals(due.getSimpleName())) {
            wrong++;
            System.out.println(what + " threw " + got + ", due is " + due.getSimpleName());
        }
    }

    static void refusesArgument(String what, Runnable call) {
        refuses(what, IllegalArgumentException.class, call);
    }

    static void refusesState(String what, Runnable call) {
        refuses(what, IllegalStateException.class, call);
    }

    static void refusesIndex(String what, Runnable call) {
        refuses(what, IndexOutOfBoundsException.class, call);
    }

    static void sameText(String what, String got, String due) {
        asked++;
        if (!got.equals(due)) {
            wrong++;
            System.out.println(what + " is " + got + ", due is " + due);
        }
    }

    /** The call throws what is due, and all that can be asked is as it was. */
    static void refusesAndStands(String what, Class<? extends RuntimeException> due, StrandRuntime x, Runnable call) {
        String before = standing(x);
        refuses(what, due, call);
        sameText("what stands behind " + what, standing(x), before);
    }

    /** All that can be asked of an object without changing it. */
    static String standing(StrandRuntime x) {
        StringBuilder all = new StringBuilder("state ").append(x.state());
        int quantum = x.quantum(1);
        x.quantum(quantum);
        int pace = x.pace(1);
        x.pace(pace);
        all.append(" quantum ").append(quantum).append(" pace ").append(pace).append(" counts");
        for (int what = 0; what < 36; what++) {
            if (what < 8 || what >= 20) {
                all.append(' ').append(x.count(what));
            }
        }
        for (int s = 0; s < 16; s++) {
            all.append(" strand");
            for (int what = 0; what < 7; what++) {
                all.append(' ').append(x.strand(s, what));
            }
            for (int k = 0; k < x.strand(s, 4); k++) {
                all.append(" (").append(x.operand(s, k)).append(' ').append(x.kind(s, k)).append(')');
            }
        }
        return all.append(" digest ").append(x.digest()).append(" check ").append(x.check()).toString();
    }

    static int op(String name) {
        Integer op = OPS.get(name);
        if (op == null) {
            throw new IllegalStateException("no instruction " + name);
        }
        return op;
    }

    /** Parts divided by ';': "fn params locals", "name", "name a", "name label" or, for the next place, "label:". */
    static void load(StrandRuntime x, String text) {
        Map<String, Integer> labels = labelsOf(text);
        int f = -1;
        for (String part : text.split(";")) {
            String[] words = part.trim().split("\\s+");
            if (words[0].endsWith(":") && words.length > 1) {
                throw new IllegalStateException("a label stands alone: " + part);
            }
            if (words[0].equals("fn")) {
                x.function(Integer.parseInt(words[1]), Integer.parseInt(words[2]));
                f++;
            } else if (!words[0].isEmpty() && !words[0].endsWith(":")) {
                String a = words.length > 1 ? words[1] : "0";
                Integer place = labels.get(f + a);
                x.code(op(words[0]), place == null ? Integer.parseInt(a) : place);
            }
        }
    }

    /** The places of labels, each behind the number of its function. */
    private static Map<String, Integer> labelsOf(String text) {
        Map<String, Integer> labels = new HashMap<>();
        int f = -1;
        int place = 0;
        for (String part : text.split(";")) {
            String word = part.trim().split("\\s+")[0];
            if (word.equals("fn")) {
                f++;
                place = 0;
            } else if (word.endsWith(":")) {
                labels.put(f + word.substring(0, word.length() - 1), place);
            } else if (!word.isEmpty()) {
                place++;
            }
        }
        return labels;
    }

    static StrandRuntime begun(String text) {
        StrandRuntime x = new StrandRuntime();
        load(x, text);
        x.begin(0);
        return x;
    }

    /** Runs as long as the run goes on, at most so many thousand steps. */
    static StrandRuntime ran(String text) {
        StrandRuntime x = begun(text);
        for (int i = 0; i < 20 && x.state() == 1; i++) {
            x.run(1000);
        }
        return x;
    }

    static void written(String what, StrandRuntime x, long... due) {
        is(what + ": how many are written", x.count(3), due.length);
        for (int i = 0; i < due.length; i++) {
            is(what + ": written " + i, x.take(), due[i]);
        }
    }

    static void end(String test) {
        System.out.println(test + ": " + asked + " answers asked, " + wrong + " not as due");
        if (wrong != 0) {
            System.exit(1);
        }
    }
}
