import java.io.IOException;
import java.io.UncheckedIOException;
import java.lang.reflect.Method;
import java.nio.file.Files;
import java.nio.file.Path;
import java.util.Arrays;
import java.util.Set;
import java.util.TreeSet;
import java.util.regex.Matcher;
import java.util.regex.Pattern;

/**
 * Tests that stand by a sentence of the document: each says the sentence, which must be in that part of it, then makes
 * calls that are written as they are read, such as "copy(0, 1, 2, MOST, 4)".
 */
class Sentences extends Checks {
    /** The part ahead of the first promise. */
    static final int TERMS = 0;
    static final int PROMISES = 43;
    private static final String[] PARTS = parts();
    private static final Set<Integer> quoted = new TreeSet<>();
    private static final Pattern CALL = Pattern.compile("(\\w+)\\(([^)]*)\\)");

    private static String[] parts() {
        try {
            String[] parts = Files.readString(Path.of("../shared/DOC.md")).split("## Promise \\d+: ");
            return Arrays.stream(parts).map(part -> part.replaceAll("\\s+", " ")).toArray(String[]::new);
        } catch (IOException e) {
            throw new UncheckedIOException(e);
        }
    }

    /** What follows is due by this sentence of that promise. */
    static void by(int promise, String sentence) {
        where = (promise == TERMS ? "terms" : "promise " + promise) + ", '" + sentence + "'";
        quoted.add(promise);
        due("the document has this sentence, which", PARTS[promise].contains(sentence) ? 1 : 0, 1);
    }

    static void allPromisesAreQuoted() {
        where = "the document";
        due("parts", PARTS.length, PROMISES + 1);
        for (int promise = 0; promise <= PROMISES; promise++) {
            due("sentences of promise " + promise, quoted.contains(promise) ? 1 : 0, 1);
        }
    }

    static long call(CubeHops x, String call) {
        Matcher m = CALL.matcher(call);
        if (!m.matches()) {
            throw new IllegalArgumentException(call);
        }
        Object[] numbers = Arrays.stream(m.group(2).split(",")).map(String::trim).filter(n -> !n.isEmpty())
                .map(n -> n.equals("LEAST") ? LEAST : n.equals("MOST") ? MOST : Integer.parseInt(n)).toArray();
        Class<?>[] types = new Class<?>[numbers.length];
        Arrays.fill(types, int.class);
        try {
            Method method = CubeHops.class.getMethod(m.group(1), types);
            return ((Number) method.invoke(x, numbers)).longValue();
        } catch (ReflectiveOperationException e) {
            throw new IllegalArgumentException(call, e);
        }
    }

    /** All that can be seen without changing it: the digest, what is told, the findings. */
    private static long[] seen(CubeHops x) {
        long[] seen = {x.digest(), x.asked(), x.upper(), x.lower(), x.finding(), 0, 0, 0, 0, 0};
        for (int f = 1; f <= 5; f++) {
            seen[4 + f] = x.findings(f);
        }
        return seen;
    }

    private static void seenAlike(String call, long[] got, long[] want) {
        due(call + " left all as it was, which", Arrays.equals(got, want) ? 1 : 0, 1);
    }

    static void gives(CubeHops x, String call, long answer) {
        due(call, call(x, call), answer);
    }

    /** The answer, and what asked() is then; nothing else may change. */
    static void tells(CubeHops x, String call, long answer, int asked) {
        long[] before = seen(x);
        gives(x, call, answer);
        before[1] = asked;
        due(call + ", asked()", x.asked(), asked);
        seenAlike(call, seen(x), before);
    }

    /** An answer of a call that tells nothing by asked() and changes nothing. */
    static void looks(CubeHops x, String call, long answer) {
        tells(x, call, answer, x.asked());
    }

    static void fraction(CubeHops x, String call, long upper, long lower) {
        long[] before = seen(x);
        gives(x, call, 1);
        due(call + ", upper()", x.upper(), upper);
        due(call + ", lower()", x.lower(), lower);
        before[2] = upper;
        before[3] = lower;
        seenAlike(call, seen(x), before);
    }

    /** Refused by BAD, FULL, STATE; no finding either. */
    static void refuses(CubeHops x, int answer, String... calls) {
        for (String call : calls) {
            looks(x, call, answer);
        }
    }

    static void finds(CubeHops x, int finding, String... calls) {
        for (String call : calls) {
            long[] before = seen(x);
            gives(x, call, FINDING);
            due(call + ", finding()", x.finding(), finding);
            before[4] = finding;
            before[4 + finding]++;
            seenAlike(call, seen(x), before);
        }
    }

    static void message(CubeHops x, int i, int what, int told) {
        gives(x, "message(" + i + ", " + what + ")", 1);
        due("message(" + i + ", " + what + "), asked()", x.asked(), told);
    }

    static void row(CubeHops x, int r, int... places) {
        for (int k = 0; k < places.length; k++) {
            gives(x, "at(" + r + ", " + k + ")", 1);
            due("at(" + r + ", " + k + "), asked()", x.asked(), places[k]);
        }
        finds(x, BEYOND, "at(" + r + ", " + places.length + ")");
    }

    static void steps(CubeHops x, int many) {
        for (int k = 0; k < many; k++) {
            x.step();
        }
    }
}
