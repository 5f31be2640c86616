/** Boundaries of promises 22 to 25: where each is later, when it is there, when all are, which link is used most. */
final class BoundaryComing extends Sentences {
    static void test() {
        later();
        arrives();
        all();
        tight();
    }

    private static void later() {
        by(22, "The CORNER of a MESSAGE behind n (0 .. 60) STEPS; how many HOPS all make in them by asked().");
        CubeHops x = cube("lap lap dab");
        tells(x, "later(0, 0)", 0, 0);
        tells(x, "later(1, 0)", 0, 0);
        tells(x, "later(0, 1)", 1, 1);
        tells(x, "later(1, 2)", 1, 3);
        tells(x, "later(2, 2)", 0, 3);
        tells(x, "later(2, 3)", 1, 6);
        tells(x, "later(2, 60)", 1, 9);
        tells(x, "later(0, 60)", 15, 9);
        // HOPS that were made already do not count.
        x.step();
        tells(x, "later(0, 0)", 1, 0);
        tells(x, "later(0, 60)", 15, 8);
        x = cube("dab", 0, 1);
        tells(x, "later(0, 60)", 0, 60);
        tells(x, "later(0, 59)", 2, 59);

        by(22, "BAD.");
        refuses(x, BAD, "later(0, 61)", "later(0, -1)", "later(1, 0)", "later(-1, 0)", "later(0, LEAST)", "later(0, MOST)",
                "later(LEAST, 0)", "later(MOST, 0)");
        refuses(new CubeHops(), BAD, "later(0, 0)", "later(0, 61)");
        x = cube("lab".repeat(7));
        tells(x, "later(6, 6)", 0, 6);
        tells(x, "later(6, 7)", 1, 7);
        refuses(x, BAD, "later(7, 0)");
    }

    private static void arrives() {
        by(23, "Behind how many STEPS (0 .. 60) it is at its GOAL first; how many HOPS it makes till then by asked().");
        CubeHops x = cube("lcc lab lab zab hab");
        tells(x, "arrives(0)", 0, 0);
        tells(x, "arrives(1)", 1, 1);
        tells(x, "arrives(2)", 2, 1);
        tells(x, "arrives(3)", 3, 1);
        tells(x, "arrives(4)", 4, 1);
        // Those ahead take its link in each step, or in all but the odd ones: no run that was found takes longer.
        x = cube("demdcppejpenpeppenpel", 1, 3, 28, 29, 30, 31);
        tells(x, "arrives(6)", 44, 4);
        x.step();
        tells(x, "arrives(6)", 43, 4);
        steps(x, 20);
        tells(x, "arrives(6)", 23, 4);
        x = cube("dab", 0);
        tells(x, "arrives(0)", 3, 3);

        by(23, "NONE: not by then. BAD.");
        x = cube("lab dab hca", 0, 1);
        x.later(2, 1);
        looks(x, "arrives(0)", NONE);
        looks(x, "arrives(1)", NONE);
        tells(x, "arrives(2)", 1, 1);
        refuses(x, BAD, "arrives(3)", "arrives(-1)", "arrives(LEAST)", "arrives(MOST)");
        refuses(new CubeHops(), BAD, "arrives(0)");
        refuses(cube("lab".repeat(7)), BAD, "arrives(7)");
    }

    private static void all() {
        by(24, "Behind how many STEPS (0 .. 60) all are at their GOALS at once first;");
        tells(cube("lab".repeat(7)), "all()", 7, 6);
        tells(cube("lap"), "all()", 4, 0);
        CubeHops x = cube("zedpejpejpehpejpedpel", 1, 4, 5, 6, 8, 10, 13, 16, 28, 29, 30, 31);
        tells(x, "all()", 26, 6);
        steps(x, 25);
        tells(x, "all()", 1, 6);
        x.step();
        tells(x, "all()", 0, 0);

        // One alone on a long way round; who is there already does not hurry it.
        x = cube("dah lbb", 0, 2, 4, 5, 7, 8, 11, 15, 16, 21, 28, 30);
        tells(x, "all()", 9, 0);
        tells(x, "arrives(0)", 9, 9);

        by(24, "who was not at its GOAL a STEP ahead of that, the lowest, by asked() (behind 0: 0).");
        tells(cube("laa lap lbb lpa"), "all()", 4, 1);
        tells(cube("lab lap"), "all()", 5, 1);
        x = cube("lbb lcc");
        tells(x, "link(3)", 0, 6 + 16 * 7);
        tells(x, "all()", 0, 0);

        by(24, "NONE: not by then. STATE: no MESSAGES.");
        x = cube("lab lcd", 1);
        x.later(0, 1);
        looks(x, "all()", NONE);
        looks(cube("dab", 0, 1), "all()", NONE);
        refuses(new CubeHops(), STATE, "all()");
    }

    private static void tight() {
        by(25, "The LINK through which most go in n (1 .. 40) STEPS, either way (the first); how many by asked().");
        CubeHops x = cube("dab", 0, 1);
        for (int n = 1; n <= 40; n++) {
            tells(x, "tight(" + n + ")", 8, n);
        }
        x = cube("lab lba");
        tells(x, "tight(1)", 0, 2);
        tells(x, "tight(1)", 0, 2);
        // Each of them, either way.
        for (int l = 0; l < 32; l++) {
            x.link(l);
            char lower = (char) ('a' + x.asked() % 16);
            char upper = (char) ('a' + x.asked() / 16);
            tells(cube("l" + lower + upper), "tight(40)", l, 1);
            tells(cube("h" + upper + lower), "tight(1)", l, 1);
        }
        x = cube("hhp hap lpo");
        // 31 (7 to 15), 24 (0 to 8) and 7 (15 to 14) have one each: the first.
        tells(x, "tight(1)", 7, 1);
        x = cube("lop lpo");
        tells(x, "tight(1)", 7, 2);
        x = cube("lhp lph");
        tells(x, "tight(40)", 31, 2);
        // Goings ahead of now do not count.
        x = cube("lab lab hap");
        x.step();
        tells(x, "tight(1)", 0, 1);

        by(25, "NONE: none goes.");
        looks(cube("laa"), "tight(40)", NONE);
        looks(cube("lab", 0), "tight(40)", NONE);
        x = cube("zab");
        x.step();
        x.aim(0, 0);
        looks(x, "tight(1)", NONE);
        tells(x, "tight(2)", 0, 1);

        by(25, "BAD; STATE: no MESSAGES.");
        refuses(x, BAD, "tight(0)", "tight(41)", "tight(-1)", "tight(LEAST)", "tight(MOST)");
        refuses(new CubeHops(), BAD, "tight(0)", "tight(41)");
        refuses(new CubeHops(), STATE, "tight(1)", "tight(40)");
    }
}
