/** Boundaries of promises 26 to 29 and 33: how the cube hangs together, turns of two. */
final class BoundaryWeb extends Sentences {
    /** Each corner once, each beside the one ahead of it. */
    private static final int[] LONG_WAY = {0, 1, 3, 2, 6, 7, 5, 4, 12, 13, 15, 14, 10, 11, 9, 8};

    static void test() {
        far();
        reach();
        parts();
        hurts();
        duel();
        refusedDuels();
    }

    /** No link but those between one corner and the next of that way is whole. */
    private static CubeHops longWay() {
        boolean[] whole = new boolean[32];
        for (int k = 1; k < 16; k++) {
            int way = Integer.numberOfTrailingZeros(LONG_WAY[k] ^ LONG_WAY[k - 1]);
            whole[Model.linkOf(LONG_WAY[k], way)] = true;
        }
        CubeHops x = cube("laa");
        for (int l = 0; l < 32; l++) {
            if (!whole[l]) {
                x.snap(l);
            }
        }
        return x;
    }

    private static CubeHops nothingWhole(String text) {
        CubeHops x = cube(text);
        for (int l = 0; l < 32; l++) {
            x.snap(l);
        }
        return x;
    }

    private static void far() {
        by(26, "The fewest LINKS, not BROKEN, from a CORNER to another one (0: alike).");
        CubeHops x = longWay();
        for (int a = 0; a < 16; a++) {
            for (int b = 0; b < 16; b++) {
                looks(x, "far(" + LONG_WAY[a] + ", " + LONG_WAY[b] + ")", Math.abs(a - b));
            }
        }
        looks(x, "far(0, 8)", 15);
        looks(new CubeHops(), "far(0, 15)", 4);
        looks(new CubeHops(), "far(15, 15)", 0);

        by(26, "NONE: there is no such way.");
        x = nothingWhole("laa");
        for (int b = 0; b < 16; b++) {
            looks(x, "far(5, " + b + ")", b == 5 ? 0 : NONE);
        }
        x.mend(31);
        looks(x, "far(7, 15)", 1);
        looks(x, "far(15, 7)", 1);
        looks(x, "far(15, 14)", NONE);

        by(26, "BAD.");
        refuses(x, BAD, "far(16, 0)", "far(0, 16)", "far(-1, 0)", "far(0, -1)", "far(16, 16)", "far(LEAST, 0)", "far(0, MOST)");
    }

    private static void reach() {
        by(27, "CORNERS (bits) that can be reached from one by LINKS that are not BROKEN (itself, too); how far the farthest"
                + " of these is by asked().");
        CubeHops x = longWay();
        for (int a = 0; a < 16; a++) {
            tells(x, "reach(" + LONG_WAY[a] + ")", 65535, Math.max(a, 15 - a));
        }
        x = nothingWhole("laa");
        for (int a = 0; a < 16; a++) {
            tells(x, "reach(" + a + ")", 1 << a, 0);
        }
        x.mend(31);
        tells(x, "reach(15)", 1 << 15 | 1 << 7, 1);
        tells(x, "reach(7)", 1 << 15 | 1 << 7, 1);
        tells(new CubeHops(), "reach(15)", 65535, 4);

        by(27, "BAD.");
        refuses(x, BAD, "reach(16)", "reach(-1)", "reach(LEAST)", "reach(MOST)");
    }

    private static void parts() {
        by(28, "How few LINKS are to be SNAPPED yet so that there is no way between two CORNERS.");
        CubeHops x = cube("laa");
        int[] links = {0, 8, 16, 24};
        for (int many = 0; many <= 4; many++) {
            looks(x, "parts(0, 15)", 4 - many);
            looks(x, "parts(15, 0)", 4 - many);
            looks(x, "parts(0, 1)", 4 - many);
            if (many < 4) {
                x.snap(links[many]);
            }
        }
        looks(x, "parts(6, 9)", 4);
        looks(longWay(), "parts(0, 8)", 1);
        looks(nothingWhole("laa"), "parts(0, 1)", 0);
        looks(new CubeHops(), "parts(0, 1)", 4);
        // Hard to tell for one who seeks ways that share no link: a way must give links back, and these be used again.
        looks(cube("laa", 3, 4, 5, 7, 10, 24), "parts(3, 12)", 4);
        looks(cube("laa", 0, 1, 4, 5, 8, 10, 11, 17, 19, 21, 25), "parts(15, 8)", 3);

        by(28, "BAD: also alike.");
        refuses(x, BAD, "parts(0, 0)", "parts(15, 15)", "parts(16, 0)", "parts(0, 16)", "parts(-1, 0)", "parts(0, -1)",
                "parts(16, 16)", "parts(LEAST, 1)", "parts(1, MOST)");
    }

    private static void hurts() {
        by(29, "The LINK that, SNAPPED now, makes all() latest (NONE there counts as 61; the first); all() then (61) by"
                + " asked().");
        tells(cube("lab"), "hurts()", 0, 61);
        tells(cube("lhp"), "hurts()", 31, 61);
        tells(cube("dop"), "hurts()", 7, 3);
        // Each of its four links would stop it: the first one.
        tells(cube("lap"), "hurts()", 0, 61);
        tells(cube("lpa"), "hurts()", 7, 61);
        // Now, not at first.
        CubeHops x = cube("lad");
        x.step();
        tells(x, "hurts()", 9, 61);
        // With its links as they are.
        x = cube("dab", 0);
        tells(x, "hurts()", 1, 61);
        // Were link 0 mended it would never be there; but what is BROKEN is not SNAPPED.
        x = cube("dad", 0, 9);
        tells(x, "all()", 2, 0);
        tells(x, "hurts()", 1, 61);

        by(29, "NONE: all are BROKEN, or none makes it later. STATE: no MESSAGES.");
        looks(nothingWhole("laa"), "hurts()", NONE);
        looks(nothingWhole("lab"), "hurts()", NONE);
        looks(cube("laa lbb"), "hurts()", NONE);
        looks(cube("lab", 0), "hurts()", NONE);
        refuses(new CubeHops(), STATE, "hurts()");
    }

    private static void duel() {
        by(33, "By n (0 .. 3) turns in all one SNAPS a LINK that is not BROKEN (or none), then another one MENDS one that is"
                + " (or none), and so on: how far two CORNERS are then (no way: 16), the first wanting it far, the other one"
                + " near.");
        CubeHops x = new CubeHops();
        int[] beside = {1, 3, 1, 3};
        int[] across = {4, 4, 4, 4};
        for (int n = 0; n <= 3; n++) {
            looks(x, "duel(0, 1, " + n + ")", beside[n]);
            looks(x, "duel(15, 7, " + n + ")", beside[n]);
            looks(x, "duel(0, 15, " + n + ")", across[n]);
        }
        // None is left to be snapped; the other one joins both, if one link can.
        x = nothingWhole("laa");
        int[] joined = {16, 16, 1, 16};
        for (int n = 0; n <= 3; n++) {
            looks(x, "duel(0, 1, " + n + ")", joined[n]);
            looks(x, "duel(0, 3, " + n + ")", 16);
        }
        // One way alone is left.
        x = longWay();
        looks(x, "duel(0, 8, 0)", 15);
        looks(x, "duel(0, 8, 1)", 16);
        looks(x, "duel(0, 8, 2)", 1);
        looks(x, "duel(0, 8, 3)", 16);
        // The link that is broken already is mended, and snapped again.
        x = cube("laa", 0);
        looks(x, "duel(0, 1, 0)", 3);
        looks(x, "duel(0, 1, 2)", 1);
        looks(x, "duel(1, 0, 3)", 3);
    }

    private static void refusedDuels() {
        by(33, "BAD: also two alike.");
        CubeHops x = cube("laa");
        refuses(x, BAD, "duel(0, 0, 0)", "duel(15, 15, 3)", "duel(0, 1, 4)", "duel(0, 1, -1)", "duel(16, 0, 0)",
                "duel(0, 16, 0)", "duel(-1, 0, 0)", "duel(0, -1, 0)", "duel(LEAST, 0, 0)", "duel(0, MOST, 0)",
                "duel(0, 1, LEAST)", "duel(0, 1, MOST)");
    }
}
