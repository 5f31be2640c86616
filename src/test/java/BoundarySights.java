import java.util.Arrays;

/** Boundaries of promises 30 to 32: which message it is, by where it was seen. */
final class BoundarySights extends Sentences {
    static void test() {
        goals();
        kinds();
        tests();
        for (int promise = 30; promise <= 32; promise++) {
            refused(promise);
        }
    }

    /**
     * Message 6 goes from i towards f, dodging what is broken; others keep it waiting long. Whether it is a DODGE or a
     * SLY one shows behind 21 steps at first, when a DODGE one turns back from a.
     */
    private static CubeHops longAlike() {
        return cube("pildlcdonsopdohdofdif", 3, 4, 7, 11, 13, 14, 15, 17, 20, 24, 26, 30);
    }

    private static final int[] DODGES = {10, 10, 10, 10, 10, 10, 10, 10, 10, 10, 10, 10, 11, 11, 15, 7, 3, 1, 1, 0, 1};

    private static void goals() {
        by(30, "GOALS (bits of CORNERS) that a MESSAGE can have (all else as it is).");
        CubeHops x = cube("lac");
        sights(x, 0, 0);
        looks(x, "goals(0, 0)", 1);
        sights(x, 0, 1);
        looks(x, "goals(0, 0)", 0xAAAA);
        sights(x, 0, 8);
        looks(x, "goals(0, 0)", 1 << 8);
        sights(x, 0, 15);
        looks(x, "goals(0, 0)", 0);
        sights(x, 0, 1, 3, 7, 15);
        looks(x, "goals(0, 0)", 1 << 15);
        // 20 sights; the last of them counts, too.
        int[] twenty = new int[20];
        Arrays.fill(twenty, 2);
        sights(x, 0, twenty);
        looks(x, "goals(0, 0)", 1 << 2);
        x.lay(0, 19, 3);
        looks(x, "goals(0, 0)", 0);
        // From now on, and of the kind that it is.
        x = cube("zac");
        x.step();
        sights(x, 0, 2);
        looks(x, "goals(0, 0)", 65535);
        sights(x, 0, 2, 2);
        looks(x, "goals(0, 0)", 1 << 2);
    }

    private static void kinds() {
        by(31, "KINDS (bits) that it can be of.");
        CubeHops x = cube("lad");
        sights(x, 0, 1);
        looks(x, "kinds(0, 0)", 0b111101);
        sights(x, 0, 2);
        looks(x, "kinds(0, 0)", 0b000010);
        sights(x, 0, 1, 1);
        looks(x, "kinds(0, 0)", 0b000100);
        sights(x, 0, 15);
        looks(x, "kinds(0, 0)", 0);
        x = cube("lcc");
        int[] twenty = new int[20];
        Arrays.fill(twenty, 2);
        sights(x, 0, twenty);
        looks(x, "kinds(0, 0)", 63);
        x.lay(0, 19, 3);
        looks(x, "kinds(0, 0)", 0);
        // The 20th sight tells two kinds apart that were alike till then.
        x = longAlike();
        x.step();
        sights(x, 0, Arrays.copyOfRange(DODGES, 1, 20));
        looks(x, "kinds(6, 0)", 0b101000);
        sights(x, 0, Arrays.copyOfRange(DODGES, 1, 21));
        looks(x, "kinds(6, 0)", 0b001000);
        x.lay(0, 19, 0);
        looks(x, "kinds(6, 0)", 0b100000);
    }

    private static void tests() {
        by(32, "Behind how many STEPS (1 .. 20) to look at it so that these KINDS are told apart best: the greatest part of"
                + " those by which it is at one CORNER is least (the first); that part by asked().");
        CubeHops x = cube("lcc");
        sights(x, 0, 2);
        tells(x, "test(0, 0)", 1, 6);
        // Behind 2 the LAZY one alone is elsewhere.
        x = cube("lad");
        sights(x, 0, 1);
        tells(x, "test(0, 0)", 2, 4);
        // One kind alone is told behind 1 already.
        sights(x, 0, 2);
        tells(x, "test(0, 0)", 1, 1);
        // Two of them show behind 20 steps at first, or behind 21, which is too late.
        x = longAlike();
        sights(x, 0, 10);
        tells(x, "test(6, 0)", 1, 2);
        for (int s = 0; s < 3; s++) {
            sights(x, 0, Arrays.copyOfRange(DODGES, s, 20));
            tells(x, "test(6, 0)", s == 0 ? 1 : 21 - s, s == 0 ? 2 : 1);
            x.step();
        }
        // Looked at from now on: what was seen behind 1 .. 3 is counted with it.
        x = cube("dab", 0, 1);
        sights(x, 0, 2);
        tells(x, "test(0, 0)", 2, 1);
        sights(x, 0, 2, 0);
        tells(x, "test(0, 0)", 1, 1);

        by(32, "NONE: there is no KIND.");
        sights(x, 0, 15);
        looks(x, "test(0, 0)", NONE);
    }

    private static void refused(int promise) {
        String name = promise == 30 ? "goals" : promise == 31 ? "kinds" : "test";
        by(promise, promise == 30 ? "BAD; NOTHING; SIZE: none, more than 20; UNLIKE: no CORNER. (In this order.)"
                : "BAD; NOTHING; SIZE; UNLIKE. (In this order.)");
        CubeHops x = cube("lab hab");
        // BAD, whatever the row is.
        refuses(x, BAD, name + "(2, 0)", name + "(-1, 0)", name + "(LEAST, 0)", name + "(MOST, 0)", name + "(0, 6)",
                name + "(0, -1)", name + "(0, LEAST)", name + "(0, MOST)");
        x.row(0, 0);
        refuses(x, BAD, name + "(2, 0)");
        refuses(new CubeHops(), BAD, name + "(0, 0)", name + "(0, 6)");
        finds(x, NOTHING, name + "(0, 1)", name + "(1, 5)");
        finds(x, SIZE, name + "(0, 0)");
        for (int n = 1; n <= 40; n++) {
            x.row(0, n);
            if (n <= 20) {
                due(name + " by " + n + " is answered, which", call(x, name + "(0, 0)") != FINDING ? 1 : 0, 1);
                x.lay(0, n - 1, 16);
                finds(x, UNLIKE, name + "(0, 0)");
            } else {
                finds(x, SIZE, name + "(0, 0)");
                x.lay(0, 20, -1);
                finds(x, SIZE, name + "(0, 0)");
            }
        }
        for (int none : new int[] {-1, 16, LEAST, MOST}) {
            sights(x, 0, 7, none);
            finds(x, UNLIKE, name + "(0, 0)");
            sights(x, 0, none, 7);
            finds(x, UNLIKE, name + "(0, 0)");
        }
        sights(x, 0, 0, 15);
        due(name + " by 0 and 15 is answered, which", call(x, name + "(0, 0)") != FINDING ? 1 : 0, 1);
    }
}
