import java.util.Random;

/** Promises 26, 27, 28, 33 on many cubes with links broken by lots of a fixed seed, held against slow ways to tell them. */
public final class WebTests {
    private static final int CUBES = 150, DUELS = 5;
    private static int wrong;

    private static void due(String what, long got, long want) {
        if (got != want) {
            wrong++;
            System.out.println(what + " answered " + got + ", due is " + want);
        }
    }

    public static void main(String[] args) {
        Random random = new Random(26_28_33);
        for (int k = 0; k < CUBES; k++) {
            CubeHops x = new CubeHops();
            Model model = new Model();
            begin(x, model);
            StringBuilder name = new StringBuilder("without");
            boolean[] broken = new boolean[32];
            int tries = random.nextInt(36);
            for (int t = 0; t < tries; t++) {
                int l = random.nextInt(32);
                x.snap(l);
                model.snap(l);
                name.append(broken[l] ? "" : " " + l);
                broken[l] = true;
            }
            distances(name.toString(), x, broken);
            partings(name.toString(), x, broken);
            for (int d = 0; d < DUELS; d++) {
                int a = random.nextInt(16), b = random.nextInt(16), n = 1 + random.nextInt(3);
                due(name + ": duel(" + a + ", " + b + ", " + n + ")", x.duel(a, b, n), model.duel(a, b, n));
            }
        }
        System.out.println(wrong == 0 ? "all webs are as due" : wrong + " answers are not as due");
        if (wrong != 0) {
            System.exit(1);
        }
    }

    private static void begin(CubeHops x, Model model) {
        String text = "laa";
        x.text(0, 3);
        model.text(0, 3);
        for (int p = 0; p < 3; p++) {
            x.put(0, p, text.charAt(p));
            model.put(0, p, text.charAt(p));
        }
        x.cube(0);
        model.cube(0);
    }

    private static void distances(String name, CubeHops x, boolean[] broken) {
        for (int a = 0; a < 16; a++) {
            int[] far = Model.fromCorner(broken, a);
            int set = 0, most = 0;
            for (int b = 0; b < 16; b++) {
                due(name + ": far(" + a + ", " + b + ")", x.far(a, b), far[b] == 16 ? -9 : far[b]);
                set |= far[b] == 16 ? 0 : 1 << b;
                most = Math.max(most, far[b] == 16 ? 0 : far[b]);
            }
            due(name + ": reach(" + a + ")", x.reach(a), set);
            due(name + ": reach(" + a + "), asked()", x.asked(), most);
        }
    }

    /** Cuts the corners in two in each way that there is. */
    private static void partings(String name, CubeHops x, boolean[] broken) {
        int[][] least = new int[16][16];
        for (int[] row : least) {
            java.util.Arrays.fill(row, 32);
        }
        for (int side = 1; side < 65535; side++) {
            int cut = 0;
            for (int l = 0; l < 32; l++) {
                cut += !broken[l] && (side >> Model.LOWER[l] & 1) != (side >> Model.UPPER[l] & 1) ? 1 : 0;
            }
            for (int a = 0; a < 16 && cut < 5; a++) {
                for (int b = 0; b < 16 && (side >> a & 1) == 1; b++) {
                    if ((side >> b & 1) == 0) {
                        least[a][b] = Math.min(least[a][b], cut);
                    }
                }
            }
        }
        for (int a = 0; a < 16; a++) {
            for (int b = 0; b < 16; b++) {
                due(name + ": parts(" + a + ", " + b + ")", x.parts(a, b), a == b ? -1 : least[a][b]);
            }
        }
    }
}
