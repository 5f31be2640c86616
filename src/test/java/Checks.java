/** What the tests share: how an answer is held against the one that is due, and how cubes and rows are made. */
class Checks {
    static final int BAD = -1, FULL = -2, FINDING = -3, STATE = -4, NONE = -9;
    static final int LEAST = Integer.MIN_VALUE, MOST = Integer.MAX_VALUE;
    static final int NOTHING = 1, BEYOND = 2, UNLIKE = 3, NOUGHT = 4, SIZE = 5;
    static int wrong;
    static String where = "";

    static void due(String what, long got, long want) {
        if (got != want) {
            wrong++;
            System.out.println(where + ": " + what + " answered " + got + ", due is " + want);
        }
    }

    static void write(CubeHops x, int t, String text) {
        x.text(t, text.length());
        for (int p = 0; p < text.length(); p++) {
            x.put(t, p, text.charAt(p));
        }
    }

    static CubeHops cube(String text, int... snapped) {
        CubeHops x = new CubeHops();
        write(x, 0, text);
        due("cube of " + text, x.cube(0), text.replace(" ", "").length() / 3);
        for (int l : snapped) {
            x.snap(l);
        }
        return x;
    }

    static void sights(CubeHops x, int r, int... corners) {
        x.row(r, corners.length);
        for (int k = 0; k < corners.length; k++) {
            x.lay(r, k, corners[k]);
        }
    }

    static long more(long h, int... values) {
        long digest = h;
        for (int v : values) {
            digest = 31 * digest + v;
        }
        return digest;
    }

    static void end(String well) {
        System.out.println(wrong == 0 ? well : wrong + " answers are not as due");
        if (wrong != 0) {
            System.exit(1);
        }
    }
}
