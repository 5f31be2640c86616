/** Boundaries of promises 34 to 36: chances, means, lots. */
final class BoundaryChances extends Sentences {
    static void test() {
        odds();
        mid();
        lots();
        lotsOfEachSort();
        refusedLots();
    }

    private static void odds() {
        by(34, "Chances that no LINK on the way of a LOW MESSAGE from a CORNER to another one is BROKEN, if each one there"
                + " that is not breaks by p (0 .. 12) of 12, each by itself: 1.");
        CubeHops x = cube("laa");
        fraction(x, "odds(0, 15, 0)", 1, 1);
        fraction(x, "odds(0, 15, 12)", 0, 1);
        fraction(x, "odds(0, 15, 11)", 1, 20736);
        fraction(x, "odds(0, 15, 1)", 14641, 20736);
        fraction(x, "odds(0, 8, 1)", 11, 12);
        fraction(x, "odds(15, 0, 6)", 1, 16);
        fraction(x, "odds(0, 7, 4)", 8, 27);
        // On no link none is broken.
        fraction(x, "odds(5, 5, 12)", 1, 1);
        fraction(x, "odds(5, 5, 0)", 1, 1);
        x.snap(0);
        fraction(x, "odds(0, 15, 0)", 0, 1);
        fraction(x, "odds(0, 1, 12)", 0, 1);
        // From 15 to 0 it goes by other links.
        fraction(x, "odds(15, 0, 0)", 1, 1);
        fraction(x, "odds(1, 0, 3)", 0, 1);
        // Only its own way: from 2 to 1 by 3, not by 0.
        x = cube("laa", 8);
        fraction(x, "odds(2, 1, 6)", 1, 4);
        fraction(x, "odds(1, 2, 6)", 0, 1);
        fraction(x, "odds(0, 3, 6)", 1, 4);
        fraction(x, "odds(3, 0, 0)", 0, 1);
        x = cube("laa", 16);
        fraction(x, "odds(0, 6, 6)", 1, 4);
        fraction(x, "odds(6, 0, 0)", 0, 1);
        fraction(new CubeHops(), "odds(0, 15, 6)", 1, 16);

        by(34, "BAD.");
        refuses(x, BAD, "odds(16, 0, 1)", "odds(0, 16, 1)", "odds(-1, 0, 1)", "odds(0, -1, 1)", "odds(0, 1, 13)",
                "odds(0, 1, -1)", "odds(LEAST, 0, 0)", "odds(0, MOST, 0)", "odds(0, 1, LEAST)", "odds(0, 1, MOST)",
                "odds(16, 16, 0)", "odds(3, 3, 13)");
    }

    private static void mid() {
        by(35, "The mean of how many LINKS on it are not BROKEN then: 1.");
        CubeHops x = cube("laa");
        fraction(x, "mid(0, 15, 0)", 4, 1);
        fraction(x, "mid(0, 15, 12)", 0, 1);
        fraction(x, "mid(0, 15, 11)", 1, 3);
        fraction(x, "mid(0, 15, 1)", 11, 3);
        fraction(x, "mid(0, 8, 1)", 11, 12);
        fraction(x, "mid(9, 9, 5)", 0, 1);
        x.snap(0);
        fraction(x, "mid(0, 15, 0)", 3, 1);
        fraction(x, "mid(0, 15, 11)", 1, 4);
        fraction(x, "mid(0, 1, 0)", 0, 1);
        fraction(x, "mid(15, 0, 0)", 4, 1);
        x = cube("laa", 8);
        fraction(x, "mid(2, 1, 6)", 1, 1);
        fraction(x, "mid(1, 2, 6)", 1, 2);
        fraction(new CubeHops(), "mid(0, 3, 6)", 1, 1);

        by(35, "BAD.");
        refuses(x, BAD, "mid(16, 0, 1)", "mid(0, 16, 1)", "mid(-1, 0, 1)", "mid(0, -1, 1)", "mid(0, 1, 13)", "mid(0, 1, -1)",
                "mid(LEAST, 0, 0)", "mid(0, MOST, 0)", "mid(0, 1, LEAST)", "mid(0, 1, MOST)", "mid(16, 16, 0)",
                "mid(3, 3, 13)");
    }

    private static void lots() {
        by(36, "n (1 .. 20) DEEDS truly by LOTS of a seed: a number comes from the one ahead by 48271 times it modulo"
                + " 2147483647, the first from the seed (1 .. 2147483646)");
        // 48271 modulo 4 is 3: a step.
        CubeHops x = cube("lap");
        gives(x, "lots(1, 1)", 1);
        looks(x, "count(1)", 1);
        looks(x, "count(2)", 1);
        // The greatest seed is -1, so its first number is -48271, or 2147435376: link 14.
        x = cube("lap");
        gives(x, "lots(1, 2147483646)", 0);
        due("link(14)", x.link(14), 1);
        looks(x, "count(4)", 1);
        // Then aims at a and c, steps 0 and 1, link 27, steps 2 and 3.
        x = cube("lap");
        gives(x, "lots(8, 2147483646)", 1);
        message(x, 0, 2, 2);
        message(x, 0, 1, 2);
        looks(x, "count(1)", 4);
        looks(x, "count(2)", 8);
        due("link(27)", x.link(27), 1);
        gives(x, "undo(1)", 7);
        message(x, 0, 2, 15);
        // To 7 by 3 steps, aimed at 5, 3 to 3, aimed at 9, 1 to 1 (5 steps), aimed at 5, 10 to 0, aimed at 8 to 8.
        x = cube("lap");
        gives(x, "lots(20, 1)", 7);
        looks(x, "count(2)", 20);
        looks(x, "count(1)", 13);
        message(x, 0, 1, 8);
        // Each call begins with its seed anew.
        x = cube("lap");
        gives(x, "lots(1, 1)", 1);
        gives(x, "lots(1, 1)", 2);
        gives(x, "lots(1, 1)", 3);
        gives(x, "lots(1, 1)", 4);
    }

    private static void lotsOfEachSort() {
        by(36, "if it modulo 4 is 0, LINK (it by 8, cut, modulo 32) is SNAPPED, or MENDED, if it is BROKEN;");
        // 188 leads to 9074948, which by 8 is 1134368, or 0 modulo 32; 68 to 3282428, 410303, 31.
        CubeHops x = cube("lab");
        gives(x, "lots(1, 188)", 0);
        due("link(0)", x.link(0), 1);
        gives(x, "lots(1, 68)", 0);
        due("link(31)", x.link(31), 1);
        looks(x, "count(4)", 2);
        gives(x, "lots(1, 188)", 0);
        due("link(0)", x.link(0), 0);
        looks(x, "count(4)", 1);
        looks(x, "count(2)", 3);

        by(36, "if it is 1, MESSAGE (it by 8, cut, modulo how many there are) is AIMED at CORNER (it by 64, cut, modulo 16;"
                + " also if it has that);");
        // 7 leads to 337897: by 8 it is 42237 (6 modulo 7), by 64 5279 (15 modulo 16).
        x = cube("lab".repeat(7));
        gives(x, "lots(1, 7)", 0);
        message(x, 6, 2, 15);
        message(x, 0, 2, 1);
        gives(x, "lots(1, 7)", 0);
        message(x, 6, 2, 15);
        looks(x, "count(2)", 2);
        gives(x, "undo(1)", 1);
        message(x, 6, 2, 15);
        gives(x, "undo(0)", 1);
        message(x, 6, 2, 1);
        x = cube("lab");
        gives(x, "lots(1, 7)", 0);
        message(x, 0, 2, 15);
        // 387 leads to 18680877: by 8 it is 2335109 (0), by 64 291888 (0); 115 to 5551165: 693895 (6), 86736 (0).
        x = cube("lab".repeat(7));
        gives(x, "lots(1, 387)", 0);
        message(x, 0, 2, 0);
        gives(x, "lots(1, 115)", 0);
        message(x, 6, 2, 0);
        for (int i = 1; i < 6; i++) {
            message(x, i, 2, 1);
        }
        // Of two it is the second one, as 42237 is odd.
        x = cube("lab lcd");
        gives(x, "lots(1, 7)", 0);
        message(x, 1, 2, 15);

        by(36, "else there is a STEP, if it is not STEP 99 (else a DEED of nothing): HOPS so far.");
        // 1 leads to 48271, then 182605794: they are 3 and 2 modulo 4.
        x = cube("lap lpa");
        gives(x, "lots(2, 1)", 4);
        looks(x, "count(1)", 2);
        gives(x, "lots(2, 1)", 8);
        gives(x, "lots(2, 1)", 8);
        looks(x, "count(1)", 6);
    }

    private static void refusedLots() {
        by(36, "BAD; STATE: no MESSAGES; FULL: with n more there would be more than 40 DEEDS. (FULL last.)");
        CubeHops x = cube("lab");
        refuses(x, BAD, "lots(0, 1)", "lots(21, 1)", "lots(-1, 1)", "lots(LEAST, 1)", "lots(MOST, 1)", "lots(1, 0)",
                "lots(1, -1)", "lots(1, LEAST)", "lots(1, MOST)", "lots(0, 0)");
        refuses(new CubeHops(), BAD, "lots(0, 1)", "lots(1, 0)", "lots(21, MOST)");
        refuses(new CubeHops(), STATE, "lots(1, 1)", "lots(20, 2147483646)");
        gives(x, "lots(20, 5)", x.count(3) + hops("lab", 20, 5));
        looks(x, "count(2)", 20);
        x.step();
        looks(x, "count(2)", 21);
        refuses(x, FULL, "lots(20, 5)");
        call(x, "lots(19, 5)");
        looks(x, "count(2)", 40);
        refuses(x, FULL, "lots(1, 1)", "lots(20, 1)");
        refuses(x, BAD, "lots(0, 1)", "lots(21, 1)", "lots(1, 0)");
        x.undo(20);
        call(x, "lots(20, 5)");
        looks(x, "count(2)", 40);
    }

    /** How many hops those lots make of a new cube. */
    private static int hops(String text, int n, int seed) {
        CubeHops x = cube(text);
        x.lots(n, seed);
        return x.count(3);
    }
}
