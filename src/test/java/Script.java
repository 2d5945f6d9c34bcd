import java.lang.reflect.Method;
import java.lang.reflect.Modifier;
import java.util.HashMap;
import java.util.HashSet;
import java.util.Map;
import java.util.Set;

/**
 * Calls written down as text, so that an edge reads like the sentence that it tests: "buyer 0 0 9 = 0, go = 1".
 * What stands behind = is due; a call without it is only made. "open up 2;fee 1 = 0" feeds a text and reads it.
 */
final class Script {
    private static final int CALLS = 512;
    private static final Map<String, Method> METHODS = new HashMap<>();
    private static final Map<String, Long> NAMES = new HashMap<>();
    private static final Set<String> SENTENCES = new HashSet<>();
    private static int checks;
    private static int wrong;

    static {
        for (Method m : PennyMore.class.getDeclaredMethods()) {
            if (Modifier.isPublic(m.getModifiers())) {
                METHODS.put(m.getName(), m);
            }
        }
        String[] names = {"NONE", "BAD", "STATE", "FULL", "NOTHING", "CAST", "PLACE", "SIZE"};
        long[] answers = {-1, -2, -3, -4, -11, -12, -13, -14};
        for (int n = 0; n < names.length; n++) {
            NAMES.put(names[n], answers[n]);
        }
        NAMES.put("NO", Long.MIN_VALUE);
        NAMES.put("MAX", (long) Integer.MAX_VALUE);
        NAMES.put("MIN", (long) Integer.MIN_VALUE);
    }

    private final PennyMore x = new PennyMore();
    private final String sentence;
    private int calls;

    /** A sentence of the document with calls on a new object. */
    Script(String sentence, String... lines) {
        this.sentence = sentence;
        SENTENCES.add(sentence);
        go(lines);
    }

    static void edge(String sentence, String... lines) {
        new Script(sentence, lines);
    }

    static String times(String calls, int n) {
        StringBuilder all = new StringBuilder();
        for (int i = 0; i < n; i++) {
            all.append(i > 0 ? ", " : "").append(calls);
        }
        return all.toString();
    }

    static String repeat(String signs, int n) {
        StringBuilder all = new StringBuilder();
        for (int i = 0; i < n; i++) {
            all.append(signs);
        }
        return all.toString();
    }

    Script go(String... lines) {
        for (String line : lines) {
            if (!line.isEmpty()) {
                for (String call : line.split(", ")) {
                    one(call);
                }
            }
        }
        return this;
    }

    /** Reads a text that holds what would end a call here. */
    Script open(String text, long want) {
        due("shop of '" + text + "'", readShop(text), want);
        return this;
    }

    long ask(String call) {
        calls++;
        if (calls > CALLS) {
            throw new IllegalStateException("more than 512 calls: " + sentence);
        }
        String[] words = call.split(" ");
        Method m = METHODS.get(words[0]);
        if (m == null) {
            throw new IllegalStateException("no such call: " + call);
        }
        Class<?>[] types = m.getParameterTypes();
        if (types.length != words.length - 1) {
            throw new IllegalStateException("another number of arguments: " + call);
        }
        Object[] given = new Object[types.length];
        for (int i = 0; i < types.length; i++) {
            long n = number(words[1 + i]);
            if (types[i] == int.class) {
                given[i] = Math.toIntExact(n);
            } else {
                given[i] = n;
            }
        }
        try {
            return ((Number) m.invoke(x, given)).longValue();
        } catch (ReflectiveOperationException e) {
            throw new IllegalStateException(call, e);
        }
    }

    void due(String call, long got, long want) {
        checks++;
        if (got != want) {
            wrong++;
            System.out.println(sentence + "\n    " + call + " answered " + got + ", due is " + want);
        }
    }

    private static long number(String word) {
        Long named = NAMES.get(word);
        return named != null ? named : Long.parseLong(word);
    }

    private void one(String call) {
        int at = call.lastIndexOf(" = ");
        String asked = at < 0 ? call : call.substring(0, at);
        long got = asked.startsWith("open ") ? readShop(asked.substring(5)) : ask(asked);
        if (at >= 0) {
            due(asked, got, number(call.substring(at + 3)));
        }
    }

    private long readShop(String text) {
        for (int i = 0; i < text.length(); i++) {
            ask("feed " + (int) text.charAt(i));
        }
        return ask("shop");
    }

    /** Says how it went; true, if nothing was wrong. */
    static void end() {
        System.out.println(SENTENCES.size() + " sentences, " + checks + " answers, " + wrong + " wrong");
        if (wrong != 0) {
            System.exit(1);
        }
    }
}
