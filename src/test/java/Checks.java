import java.nio.charset.StandardCharsets;
import java.util.HashMap;
import java.util.Map;

/** What the tests share: answers that are due, and texts that are written by the eight bytes. */
final class Checks {
    private int made = 0;
    private int wrong = 0;
    private String part = "";
    private final Map<String, Integer> madeByPart = new HashMap<>();

    void part(String name) {
        part = name;
    }

    void due(String call, Object got, Object want) {
        made++;
        madeByPart.merge(part, 1, Integer::sum);
        if (!want.equals(got)) {
            wrong++;
            System.out.println(part + ": " + call + " answered " + got + ", due is " + want);
        }
    }

    /** How many answers of a part were looked at. */
    int lookedAt(String name) {
        return madeByPart.getOrDefault(name, 0);
    }

    void end() {
        System.out.println(made + " answers looked at, " + wrong + " not as due");
        if (wrong != 0) {
            System.exit(1);
        }
    }

    static void write(MasksAtDawn x, String text) {
        byte[] bytes = text.getBytes(StandardCharsets.ISO_8859_1);
        for (int from = 0; from < bytes.length; from += 8) {
            int n = Math.min(8, bytes.length - from);
            long v = 0;
            for (int b = 0; b < n; b++) {
                v = v << 8 | bytes[from + b] & 255;
            }
            x.write(n, v);
        }
    }

    static MasksAtDawn told(String text) {
        MasksAtDawn x = new MasksAtDawn();
        write(x, text);
        return x;
    }

    static MasksAtDawn laid(String text) {
        MasksAtDawn x = told(text);
        if (x.lay() < 0) {
            throw new IllegalStateException("not laid: " + text);
        }
        return x;
    }
}
