/** Boundaries of promises 15 to 21: steps, links, aims, what is undone, what is kept. */
final class BoundaryDeeds extends Sentences {
    static void test() {
        stepping();
        snapping();
        mending();
        aiming();
        undoing();
        keeping();
        goingOn();
    }

    /** A cube with 40 deeds, none of which is left to be seen. */
    private static CubeHops full(String text) {
        CubeHops x = cube(text);
        for (int k = 0; k < 20; k++) {
            x.snap(20);
            x.mend(20);
        }
        return x;
    }

    private static void stepping() {
        by(15, "A STEP: how many go.");
        CubeHops x = cube("laa");
        gives(x, "step()", 0);
        x = cube("lab lac lae lai lba lca lea");
        gives(x, "step()", 7);
        x = cube("lab".repeat(7));
        gives(x, "step()", 1);

        by(15, "STATE: no MESSAGES, or it is STEP 99; FULL: 40 DEEDS. (FULL last.)");
        // It is never STEP 99, as there are 40 DEEDS at most.
        refuses(new CubeHops(), STATE, "step()");
        x = cube("lap");
        for (int s = 0; s < 40; s++) {
            gives(x, "step()", s < 4 ? 1 : 0);
        }
        refuses(x, FULL, "step()");
        looks(x, "count(1)", 40);
        gives(x, "undo(39)", 1);
        gives(x, "step()", 0);
        refuses(x, FULL, "step()");
        refuses(full("lap"), FULL, "step()");
    }

    private static void snapping() {
        by(16, "SNAPPED: how many are BROKEN then.");
        CubeHops x = cube("laa");
        for (int l = 0; l < 32; l++) {
            gives(x, "snap(" + l + ")", l + 1);
            due("link(" + l + ")", x.link(l), 1);
        }

        by(16, "BAD; STATE: no MESSAGES, or it is; FULL. (FULL last.)");
        for (int l = 0; l < 32; l++) {
            refuses(x, STATE, "snap(" + l + ")");
        }
        refuses(x, BAD, "snap(32)", "snap(-1)", "snap(LEAST)", "snap(MOST)");
        refuses(new CubeHops(), BAD, "snap(32)", "snap(-1)");
        refuses(new CubeHops(), STATE, "snap(0)", "snap(31)");
        x = full("lap");
        refuses(x, FULL, "snap(0)", "snap(20)", "snap(31)");
        refuses(x, BAD, "snap(32)");
        x.undo(39);
        refuses(x, STATE, "snap(20)");
        gives(x, "snap(0)", 2);
        refuses(x, STATE, "snap(0)", "snap(20)");
        refuses(x, FULL, "snap(1)");
    }

    private static void mending() {
        by(17, "MENDED: how many are BROKEN then.");
        CubeHops x = cube("lab", 0, 7, 31);
        gives(x, "mend(31)", 2);
        due("link(31)", x.link(31), 0);
        gives(x, "mend(0)", 1);
        gives(x, "mend(7)", 0);
        gives(x, "step()", 1);

        by(17, "BAD; STATE: it is not; FULL. (FULL last.)");
        refuses(x, STATE, "mend(0)", "mend(7)", "mend(31)", "mend(5)");
        refuses(x, BAD, "mend(32)", "mend(-1)", "mend(LEAST)", "mend(MOST)");
        refuses(new CubeHops(), STATE, "mend(0)", "mend(31)");
        refuses(new CubeHops(), BAD, "mend(32)");
        x = full("lap");
        refuses(x, STATE, "mend(20)");
        x.undo(39);
        x.step();
        refuses(x, FULL, "mend(20)");
        refuses(x, STATE, "mend(21)");
        refuses(x, BAD, "mend(32)");
    }

    private static void aiming() {
        by(18, "AIMED at a CORNER: the GOAL it had.");
        CubeHops x = cube("lap" + "hbc".repeat(6));
        gives(x, "aim(0, 0)", 15);
        gives(x, "aim(0, 15)", 0);
        gives(x, "aim(6, 15)", 2);
        message(x, 6, 2, 15);
        message(x, 5, 2, 2);
        // It may be aimed at where it is.
        gives(x, "aim(6, 1)", 15);
        looks(x, "count(5)", 64);

        by(18, "BAD; STATE: it has that; FULL. (FULL last.)");
        refuses(x, STATE, "aim(0, 15)", "aim(6, 1)", "aim(5, 2)");
        refuses(x, BAD, "aim(7, 0)", "aim(-1, 0)", "aim(0, 16)", "aim(0, -1)", "aim(LEAST, 0)", "aim(MOST, 0)",
                "aim(0, LEAST)", "aim(0, MOST)");
        refuses(new CubeHops(), BAD, "aim(0, 0)", "aim(0, 16)");
        x = full("lap hbc");
        refuses(x, FULL, "aim(0, 14)", "aim(1, 0)");
        refuses(x, STATE, "aim(0, 15)", "aim(1, 2)");
        refuses(x, BAD, "aim(2, 0)", "aim(0, 16)");
        x.undo(39);
        gives(x, "aim(1, 0)", 2);
        refuses(x, FULL, "aim(1, 2)");
    }

    /** Deeds of each sort in turn. */
    private static void deed(CubeHops x, int n) {
        switch (n % 4) {
            case 0:
                x.step();
                break;
            case 1:
                x.message(n / 4 % 2, 2);
                x.aim(n / 4 % 2, (x.asked() + 5) % 16);
                break;
            case 2:
                // Now snapped, now mended.
                call(x, (x.link(n % 8) == 0 ? "snap(" : "mend(") + n % 8 + ")");
                break;
            default:
                x.lots(1, n);
                break;
        }
    }

    private static void undoing() {
        by(19, "DEEDS from number n on are undone: how many.");
        CubeHops x = cube("lap sab");
        long[] digests = new long[41];
        for (int n = 0; n < 40; n++) {
            digests[n] = x.digest();
            deed(x, n);
            looks(x, "count(2)", n + 1);
        }
        digests[40] = x.digest();
        looks(x, "undo(40)", 0);
        for (int n = 39; n >= 0; n--) {
            gives(x, "undo(" + n + ")", 1);
            due("digest() behind it", x.digest(), digests[n]);
        }
        looks(x, "undo(0)", 0);
        // Many at once; then others may be done instead.
        for (int n = 0; n < 40; n++) {
            deed(x, n);
        }
        due("digest() of the same deeds", x.digest(), digests[40]);
        gives(x, "undo(13)", 27);
        due("digest() behind it", x.digest(), digests[13]);
        gives(x, "undo(0)", 13);
        gives(x, "aim(1, 0)", 1);
        looks(x, "count(2)", 1);
        // All 40 at once.
        x = full("lap");
        gives(x, "undo(0)", 40);
        looks(x, "count(2)", 0);

        by(19, "BAD.");
        x = cube("lap", 3);
        refuses(x, BAD, "undo(2)", "undo(-1)", "undo(LEAST)", "undo(MOST)");
        looks(x, "undo(1)", 0);
        gives(x, "undo(0)", 1);
        refuses(x, BAD, "undo(1)");
        looks(x, "undo(0)", 0);
        x = full("lap");
        refuses(x, BAD, "undo(41)");
        CubeHops none = new CubeHops();
        looks(none, "undo(0)", 0);
        refuses(none, BAD, "undo(1)", "undo(-1)");
    }

    private static void keeping() {
        by(20, "The CUBE (as it is, DEEDS) is kept in a place (0 .. 2): how many DEEDS.");
        CubeHops x = cube("lap");
        for (int k = 0; k <= 2; k++) {
            gives(x, "keep(" + k + ")", 0);
            looks(x, "count(8)", k + 1);
        }
        steps(x, 40);
        gives(x, "keep(1)", 40);
        looks(x, "count(8)", 3);
        gives(x, "on(0)", 0);
        gives(x, "on(2)", 0);
        gives(x, "on(1)", 40);
        looks(x, "count(1)", 40);

        by(20, "BAD; STATE: no MESSAGES.");
        refuses(x, BAD, "keep(3)", "keep(-1)", "keep(LEAST)", "keep(MOST)");
        refuses(new CubeHops(), STATE, "keep(0)", "keep(2)");
        refuses(new CubeHops(), BAD, "keep(3)", "keep(-1)");
    }

    private static void goingOn() {
        by(21, "The CUBE is as it was kept: how many DEEDS.");
        CubeHops x = cube("lap sab", 0, 1);
        steps(x, 2);
        gives(x, "keep(1)", 4);
        long digest = x.digest();
        x.aim(0, 3);
        x.mend(1);
        x.step();
        gives(x, "on(1)", 4);
        due("digest()", x.digest(), digest);
        // It stays kept, and what is done behind it is not kept with it.
        x.undo(0);
        steps(x, 7);
        gives(x, "on(1)", 4);
        due("digest()", x.digest(), digest);
        looks(x, "count(8)", 1);
        message(x, 1, 5, 1);
        gives(x, "undo(3)", 1);
        looks(x, "count(1)", 1);
        // Rows, texts, what was told, are none of it.
        x.row(0, 3);
        x.text(1, 2);
        x.later(0, 60);
        int asked = x.asked();
        gives(x, "on(1)", 4);
        looks(x, "count(6)", 1);
        looks(x, "count(7)", 2);
        due("asked()", x.asked(), asked);

        by(21, "BAD; NOTHING.");
        refuses(x, BAD, "on(3)", "on(-1)", "on(LEAST)", "on(MOST)");
        finds(x, NOTHING, "on(0)", "on(2)");
        gives(x, "cube(0)", 2);
        finds(x, NOTHING, "on(1)");
        finds(new CubeHops(), NOTHING, "on(0)", "on(1)", "on(2)");
    }
}
