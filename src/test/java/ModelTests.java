import java.lang.reflect.Method;
import java.lang.reflect.Modifier;
import java.util.ArrayList;
import java.util.Arrays;
import java.util.Comparator;
import java.util.List;
import java.util.Random;

/** Long runs of calls, drawn by lots of a fixed seed, on CubeHops and on the slow Model side by side. */
public final class ModelTests {
    private static final int RUNS = 400, CALLS = 512;
    private static final int[] EDGES = {
        Integer.MIN_VALUE, -1000, -2, -1, 0, 1, 2, 3, 4, 5, 6, 7, 8, 10, 11, 12, 13, 15, 16, 19, 20, 21, 31, 32, 39, 40,
        41, 59, 60, 61, 98, 99, 100, 127, 128, 255, 256, Integer.MAX_VALUE - 1, Integer.MAX_VALUE};

    private final Random random;
    private final int run;
    private final CubeHops real = new CubeHops();
    private final Model model = new Model();
    private final List<String> log = new ArrayList<>();
    private final Method[] face;
    private boolean wrong;

    private ModelTests(int run, Method[] face) {
        this.run = run;
        this.random = new Random(77_000L + run);
        this.face = face;
    }

    public static void main(String[] args) throws Exception {
        Method[] face = Arrays.stream(CubeHops.class.getDeclaredMethods())
                .filter(m -> Modifier.isPublic(m.getModifiers()))
                .sorted(Comparator.comparing(Method::getName)).toArray(Method[]::new);
        int failed = 0;
        for (int run = 0; run < RUNS && failed < 3; run++) {
            failed += new ModelTests(run, face).runs() ? 0 : 1;
        }
        System.out.println(failed == 0 ? "CubeHops and the model agree" : failed + " runs went wrong");
        if (failed != 0) {
            System.exit(1);
        }
    }

    private boolean runs() throws Exception {
        if (run % 8 != 0) {
            writeCube();
        }
        while (log.size() < CALLS && !wrong) {
            int dice = random.nextInt(100);
            if (dice < 2) {
                writeCube();
            } else if (dice < 6) {
                writeSights();
            } else if (dice < 8) {
                snapSome();
            } else {
                Method m = face[random.nextInt(face.length)];
                // These take the model long, or leave little of a cube.
                boolean rare = m.getName().equals("parts") || m.getName().equals("duel") || m.getName().equals("cube")
                        || m.getName().equals("text");
                if (!rare || random.nextInt(6) == 0) {
                    call(m.getName(), arguments(m));
                }
            }
        }
        return !wrong;
    }

    private int[] arguments(Method m) {
        int[] a = new int[m.getParameterCount()];
        for (int k = 0; k < a.length; k++) {
            int dice = random.nextInt(20);
            a[k] = dice == 0 ? EDGES[random.nextInt(EDGES.length)] : dice == 1 ? random.nextInt() : likely(m.getName(), k);
        }
        return a;
    }

    /** A number that the call will mostly take. */
    private int likely(String name, int k) {
        int i = random.nextInt(7), corner = random.nextInt(16), row = random.nextInt(7);
        switch (name) {
            case "row": return k == 0 ? row : random.nextInt(43) - 1;
            case "lay": case "at": return k == 0 ? row : k == 1 ? random.nextInt(20) : random.nextInt(40) - 12;
            case "copy": return k % 2 == 0 && k < 4 ? row : random.nextInt(9) - 1;
            case "tear": case "mean": return row;
            case "text": return k == 0 ? 2 + random.nextInt(2) : random.nextInt(63) - 1;
            case "put": return k == 0 ? random.nextInt(5) : k == 1 ? random.nextInt(40) : random.nextInt(256);
            case "fault": case "cube": return random.nextInt(5);
            case "message": return k == 0 ? i : random.nextInt(6);
            case "mark": return k == 0 ? i : 1 + random.nextInt(5);
            case "link": case "snap": case "mend": return random.nextInt(32);
            case "aim": return k == 0 ? i : corner;
            case "undo": return random.nextInt(40);
            case "keep": case "on": return random.nextInt(3);
            case "later": return k == 0 ? i : random.nextInt(61);
            case "arrives": return i;
            case "tight": return 1 + random.nextInt(40);
            case "goals": case "kinds": case "test": return k == 0 ? i : row;
            case "duel": return k == 2 ? random.nextInt(4) : corner;
            case "odds": case "mid": return k == 2 ? random.nextInt(13) : corner;
            case "lots": return k == 0 ? 1 + random.nextInt(8) : 1 + random.nextInt(2147483646);
            case "count": return random.nextInt(11);
            default: return 1 + random.nextInt(5);
        }
    }

    private void writeCube() throws Exception {
        StringBuilder text = new StringBuilder();
        int many = random.nextInt(12) == 0 ? random.nextInt(9) : 1 + random.nextInt(7);
        for (int k = 0; k < many; k++) {
            text.append(" ".repeat(random.nextInt(3)));
            text.append(Model.LETTERS.charAt(random.nextInt(6)));
            // Few corners, so that several want one link.
            text.append((char) ('a' + random.nextInt(random.nextBoolean() ? 3 : 16)));
            text.append((char) ('a' + random.nextInt(16)));
        }
        if (random.nextInt(8) == 0 && text.length() > 0) {
            text.setCharAt(random.nextInt(text.length()), (char) random.nextInt(256));
        }
        int t = random.nextInt(2);
        call("text", t, Math.min(60, text.length() + random.nextInt(3)));
        for (int p = 0; p < text.length(); p++) {
            call("put", t, p, text.charAt(p));
        }
        call("fault", t);
        call("cube", t);
    }

    /** Sights that some message may truly come by, sometimes spoilt. */
    private void writeSights() throws Exception {
        int messages = model.count(0), r = random.nextInt(6);
        if (messages == 0) {
            return;
        }
        int i = random.nextInt(messages), n = 1 + random.nextInt(random.nextBoolean() ? 3 : 20);
        call("row", r, n);
        for (int s = 0; s < n; s++) {
            int seen = call("later", i, s + 1);
            call("lay", r, s, random.nextInt(30) == 0 ? random.nextInt(17) : seen);
        }
        call("goals", i, r);
        call("kinds", i, r);
        call("test", i, r);
        call("asked");
    }

    private void snapSome() throws Exception {
        int many = random.nextInt(12);
        for (int k = 0; k < many; k++) {
            call("snap", random.nextInt(32));
        }
    }

    private int call(String name, int... a) throws Exception {
        if (wrong || log.size() >= CALLS) {
            return 0;
        }
        long got = on(real, CubeHops.class, name, a);
        long want = on(model, Model.class, name, a);
        log.add(name + Arrays.toString(a) + " = " + got);
        boolean alike = got == want && real.asked() == model.asked() && real.finding() == model.finding()
                && real.upper() == model.upper() && real.lower() == model.lower() && real.digest() == model.digest();
        for (int f = 1; f <= 5; f++) {
            alike &= real.findings(f) == model.findings(f);
        }
        if (!alike) {
            wrong = true;
            System.out.println("run " + run + ": after " + log + " the model answers " + want + ", asked " + model.asked()
                    + " (" + real.asked() + "), finding " + model.finding() + " (" + real.finding() + "), "
                    + model.upper() + "/" + model.lower() + " (" + real.upper() + "/" + real.lower() + ")");
        }
        return (int) got;
    }

    private static long on(Object object, Class<?> type, String name, int[] a) throws Exception {
        Class<?>[] types = new Class<?>[a.length];
        Object[] values = new Object[a.length];
        for (int k = 0; k < a.length; k++) {
            types[k] = int.class;
            values[k] = a[k];
        }
        Method m = type.getDeclaredMethod(name, types);
        return ((Number) m.invoke(object, values)).longValue();
    }
}
