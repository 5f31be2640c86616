/** Boundaries of promises 37 to 43: what is told. */
final class BoundaryTold extends Sentences {
    /** What tells nothing by asked(), in a cube of "lap dab" with links 0 and 1 broken. */
    private static final String[] SILENT = {"row(3, 2)", "copy(3, 0, 3, 1, 1)", "tear(3)", "text(3, 2)", "put(3, 0, 97)",
        "fault(3)", "mark(1, 3)", "step()", "snap(31)", "mend(31)", "aim(0, 3)", "undo(4)", "keep(0)", "on(0)", "far(0, 1)",
        "parts(0, 1)", "goals(0, 0)", "kinds(0, 0)", "duel(0, 1, 1)", "odds(0, 1, 2)", "mid(0, 1, 2)", "lots(2, 5)",
        "asked()", "upper()", "lower()", "count(0)", "finding()", "findings(1)", "digest()", "cube(0)"};

    static void test() {
        asked();
        askedStays();
        fractions();
        counts();
        findings();
        digests();
        digestsOfRowsAndTexts();
    }

    private static void asked() {
        by(37, "What the latest lay(), at(), mean(), message(), link(), later(), arrives(), all(), tight(), reach(), hurts(),"
                + " test() that was not refused (nor answered NONE) told;");
        CubeHops x = cube("lap lpa");
        sights(x, 0, 3, 5);
        gives(x, "lay(0, 0, 7)", 1);
        due("asked()", x.asked(), 3);
        tells(x, "at(0, 0)", 1, 7);
        tells(x, "mean(0)", 1, 6);
        tells(x, "message(1, 1)", 1, 15);
        tells(x, "link(0)", 0, 16);
        tells(x, "later(0, 1)", 1, 2);
        tells(x, "arrives(0)", 4, 4);
        x.undo(0);
        tells(x, "all()", 4, 0);
        tells(x, "tight(1)", 0, 1);
        tells(x, "reach(0)", 65535, 4);
        tells(x, "hurts()", 0, 61);
        sights(x, 1, 1);
        tells(x, "test(0, 1)", 2, 3);
        // A number that is like one of the refusals is told all the same.
        x.lay(0, 0, NONE);
        tells(x, "at(0, 0)", 1, NONE);
        x.lay(0, 0, BAD);
        tells(x, "at(0, 0)", 1, BAD);

        by(37, "0 before.");
        looks(new CubeHops(), "asked()", 0);
    }

    private static void askedStays() {
        by(37, "that was not refused (nor answered NONE) told;");
        CubeHops x = cube("lap dab", 0, 1);
        x.row(0, 1);
        x.lay(0, 0, 15);
        tells(x, "later(1, 60)", 0, 60);
        looks(x, "arrives(1)", NONE);
        looks(x, "all()", NONE);
        looks(x, "hurts()", NONE);
        looks(x, "test(0, 0)", NONE);
        looks(cube("laa"), "tight(1)", NONE);
        refuses(x, BAD, "lay(6, 0, 0)", "at(6, 0)", "mean(6)", "message(2, 0)", "link(32)", "later(2, 0)", "arrives(2)",
                "tight(0)", "reach(16)", "test(2, 0)");
        finds(x, NOTHING, "lay(1, 0, 0)", "at(1, 0)", "mean(1)", "test(0, 1)");
        CubeHops none = new CubeHops();
        none.reach(0);
        refuses(none, STATE, "all()", "tight(1)", "hurts()");
        due("asked()", none.asked(), 4);
        x.step();
        x.step();
        for (String silent : SILENT) {
            long answer = call(x, silent);
            due(silent + " is refused", answer < 0 && answer >= -6 && !silent.equals("digest()") ? 1 : 0, 0);
            due("asked() behind " + silent, x.asked(), 60);
        }
    }

    private static void fractions() {
        by(38, "The upper number that was told last; 0 before.");
        CubeHops x = new CubeHops();
        looks(x, "upper()", 0);
        by(39, "Its lower number; 1 before.");
        looks(x, "lower()", 1);
        x.odds(0, 15, 1);
        looks(x, "upper()", 14641);
        looks(x, "lower()", 20736);
        x.mid(0, 1, 5);
        looks(x, "upper()", 7);
        looks(x, "lower()", 12);
        refuses(x, BAD, "odds(0, 15, 13)", "mid(0, 16, 1)");
        sights(x, 0, 1, 2);
        x.mean(0);
        x.text(0, 3);
        looks(x, "upper()", 7);
        looks(x, "lower()", 12);
        x.mid(0, 1, 12);
        looks(x, "upper()", 0);
        looks(x, "lower()", 1);
    }

    private static void counts() {
        by(40, "0 MESSAGES, 1 the STEP, 2 DEEDS, 3 HOPS so far, 4 how many LINKS are BROKEN, 5 those at their GOALS (bits), 6"
                + " ROWS, 7 TEXTS that are there, 8 kept CUBES, 9 HIGH ones (PROUD, too), 10 DODGE ones (SLY, too).");
        CubeHops x = cube("paa haa dbb sab lab hpp zcc");
        int[] counts = {7, 0, 0, 0, 0, 0b1100111, 0, 1, 0, 3, 2};
        for (int what = 0; what <= 10; what++) {
            looks(x, "count(" + what + ")", counts[what]);
        }
        for (int k = 0; k < 3; k++) {
            x.keep(k);
        }
        for (int l = 0; l < 32; l++) {
            x.snap(l);
        }
        steps(x, 8);
        for (int r = 0; r < 6; r++) {
            x.row(r, 0);
        }
        for (int t = 0; t < 4; t++) {
            x.text(t, 0);
        }
        int[] most = {7, 8, 40, 0, 32, 0b1100111, 6, 4, 3, 3, 2};
        for (int what = 0; what <= 10; what++) {
            looks(x, "count(" + what + ")", most[what]);
        }
        x = cube("lab".repeat(7));
        steps(x, 7);
        looks(x, "count(5)", 127);
        looks(x, "count(3)", 7);
        x.undo(3);
        looks(x, "count(3)", 3);

        by(40, "BAD.");
        refuses(x, BAD, "count(11)", "count(-1)", "count(LEAST)", "count(MOST)");
    }

    private static void findings() {
        by(41, "The latest FINDING (0 before any).");
        CubeHops x = cube("lab");
        looks(x, "finding()", 0);
        refuses(x, BAD, "row(6, 0)");
        refuses(x, STATE, "mend(0)");
        looks(x, "finding()", 0);
        x.row(0, 0);
        String[] finding = {"tear(1)", "at(0, 0)", "mark(0, 1)", "mean(0)", "row(0, -1)"};
        for (int f = 5; f >= 1; f--) {
            finds(x, f, finding[f - 1]);
            refuses(x, BAD, "tear(6)");
            x.count(1);
            looks(x, "finding()", f);
        }

        by(42, "How often a FINDING (1 .. 5) was answered. BAD.");
        for (int f = 1; f <= 5; f++) {
            looks(x, "findings(" + f + ")", 1);
            looks(new CubeHops(), "findings(" + f + ")", 0);
            for (int k = 0; k < f; k++) {
                finds(x, f, finding[f - 1]);
            }
        }
        for (int f = 1; f <= 5; f++) {
            looks(x, "findings(" + f + ")", f + 1);
        }
        // A new cube forgets none of them.
        x.cube(0);
        looks(x, "findings(5)", 6);
        looks(x, "finding()", 5);
        refuses(x, BAD, "findings(0)", "findings(6)", "findings(-1)", "findings(LEAST)", "findings(MOST)");
    }

    private static final int[] NO_COUNTS = new int[11];
    private static final int[] NO_LINKS = new int[32];
    private static final int[] NONE_KEPT = {-1, -1, -1};
    private static final int[] NO_ROWS = {-1, -1, -1, -1, -1, -1};
    private static final int[] NO_TEXTS = {-1, -1, -1, -1};

    private static long digest(int[]... parts) {
        long h = 17;
        for (int[] part : parts) {
            h = more(h, part);
        }
        return h;
    }

    private static void digests() {
        by(43, "h = 17; then h = 31 h + v for each v: count() 0 to 10;");
        CubeHops x = new CubeHops();
        looks(x, "digest()", digest(NO_COUNTS, NO_LINKS, NONE_KEPT, NO_ROWS, NO_TEXTS));

        by(43, "of each MESSAGE message() 0 to 5;");
        x = cube("sab hai");
        int[] text = {7, 's', 'a', 'b', ' ', 'h', 'a', 'i', -1, -1, -1};
        int[] counts = {2, 0, 0, 0, 0, 0, 0, 1, 0, 1, 1};
        int[] messages = {5, 0, 1, 0, 1, NONE, 1, 0, 8, 3, 1, NONE};
        looks(x, "digest()", digest(counts, messages, NO_LINKS, NONE_KEPT, NO_ROWS, text));
        x.step();
        counts = new int[] {2, 1, 1, 2, 0, 3, 0, 1, 0, 1, 1};
        messages = new int[] {5, 1, 1, NONE, 0, 0, 1, 8, 8, NONE, 0, 3};
        looks(x, "digest()", digest(counts, messages, NO_LINKS, NONE_KEPT, NO_ROWS, text));

        by(43, "of each LINK 1, if it is BROKEN, else 0;");
        x.snap(0);
        x.snap(31);
        counts = new int[] {2, 1, 3, 2, 2, 3, 0, 1, 0, 1, 1};
        int[] links = new int[32];
        links[0] = 1;
        links[31] = 1;
        looks(x, "digest()", digest(counts, messages, links, NONE_KEPT, NO_ROWS, text));

        by(43, "of each kept CUBE how many DEEDS (-1: missing);");
        x.keep(2);
        counts[8] = 1;
        looks(x, "digest()", digest(counts, messages, links, new int[] {-1, -1, 3}, NO_ROWS, text));
        x.undo(0);
        x.keep(0);
        counts = new int[] {2, 0, 0, 0, 0, 0, 0, 1, 2, 1, 1};
        messages = new int[] {5, 0, 1, 0, 1, NONE, 1, 0, 8, 3, 1, NONE};
        looks(x, "digest()", digest(counts, messages, NO_LINKS, new int[] {0, -1, 3}, NO_ROWS, text));
    }

    private static void digestsOfRowsAndTexts() {
        by(43, "of each ROW its size (-1: missing) and places, of each TEXT likewise.");
        CubeHops x = new CubeHops();
        x.row(0, 0);
        int[] counts = new int[11];
        counts[6] = 1;
        looks(x, "digest()", digest(counts, NO_LINKS, NONE_KEPT, new int[] {0, -1, -1, -1, -1, -1}, NO_TEXTS));
        sights(x, 5, MOST, LEAST, -1);
        counts[6] = 2;
        int[] rows = {0, -1, -1, -1, -1, 3, MOST, LEAST, -1};
        looks(x, "digest()", digest(counts, NO_LINKS, NONE_KEPT, rows, NO_TEXTS));
        x.text(3, 2);
        x.put(3, 1, 255);
        x.text(0, 0);
        counts[7] = 2;
        looks(x, "digest()", digest(counts, NO_LINKS, NONE_KEPT, rows, new int[] {0, -1, -1, 2, 32, -1}));
        x.put(3, 1, 128);
        looks(x, "digest()", digest(counts, NO_LINKS, NONE_KEPT, rows, new int[] {0, -1, -1, 2, 32, -128}));
        // What is missing again, or shorter, leaves nothing behind.
        x.tear(5);
        x.row(0, 40);
        x.row(0, 0);
        counts[6] = 1;
        looks(x, "digest()", digest(counts, NO_LINKS, NONE_KEPT, new int[] {0, -1, -1, -1, -1, -1},
                new int[] {0, -1, -1, 2, 32, -128}));
    }
}
