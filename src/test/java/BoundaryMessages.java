/** Boundaries of promises 12 to 14: messages, marks, links. */
final class BoundaryMessages extends Sentences {
    /** For each way the lower corners of its links, by their numbers. */
    private static final int[][] LOWER_CORNERS = {{0, 2, 4, 6, 8, 10, 12, 14}, {0, 1, 4, 5, 8, 9, 12, 13},
        {0, 1, 2, 3, 8, 9, 10, 11}, {0, 1, 2, 3, 4, 5, 6, 7}};

    static void test() {
        facts();
        refusedFacts();
        highMarks();
        otherMarks();
        unlikeMarks();
        links();
    }

    private static void facts() {
        by(12, "0 the KIND, 1 its CORNER, 2 its GOAL,");
        CubeHops x = cube("lap hbo zcn ddm pel sfk lpa");
        for (int i = 0; i < 7; i++) {
            message(x, i, 0, i % 6);
            message(x, i, 1, i < 6 ? i : 15);
            message(x, i, 2, i < 6 ? 15 - i : 0);
        }

        by(12, "3 by which WAY it WISHES to go now (NONE),");
        int[] ways = {0, 3, 0, 0, 0, 0, 0};
        for (int i = 0; i < 7; i++) {
            message(x, i, 3, ways[i]);
        }
        x = cube("lcc hcc zcc dcc pcc scc");
        for (int i = 0; i < 6; i++) {
            message(x, i, 3, NONE);
        }
        // A wish is one, even if its link is broken; but not in a lazy one's odd steps, nor with all links broken.
        x = cube("lab zab dab sab hab", 0, 8, 16, 24);
        int[] wishes = {0, 0, NONE, NONE, 0};
        for (int i = 0; i < 5; i++) {
            message(x, i, 3, wishes[i]);
        }
        x.step();
        message(x, 0, 3, 0);
        message(x, 1, 3, NONE);

        by(12, "4 in how many bits it is off its GOAL,");
        x = cube("laa lab lad lah lap lpa lfk");
        int[] off = {0, 1, 2, 3, 4, 4, 4};
        for (int i = 0; i < 7; i++) {
            message(x, i, 4, off[i]);
        }

        by(12, "5 the WAY by which it went last (NONE: it did not), told by asked(): 1.");
        x = cube("hai lab lab lcc");
        for (int i = 0; i < 4; i++) {
            message(x, i, 5, NONE);
        }
        x.step();
        message(x, 0, 5, 3);
        message(x, 1, 5, 0);
        message(x, 2, 5, NONE);
        message(x, 3, 5, NONE);
        steps(x, 2);
        message(x, 0, 5, 3);
        message(x, 2, 5, 0);
        x.undo(1);
        message(x, 2, 5, NONE);
        x.undo(0);
        message(x, 0, 5, NONE);
    }

    private static void refusedFacts() {
        by(12, "BAD.");
        CubeHops x = cube("lab hab");
        tells(x, "message(1, 5)", 1, NONE);
        tells(x, "message(1, 0)", 1, 1);
        refuses(x, BAD, "message(2, 0)", "message(-1, 0)", "message(0, 6)", "message(0, -1)", "message(LEAST, 0)",
                "message(MOST, 0)", "message(0, LEAST)", "message(0, MOST)", "message(7, 0)");
        CubeHops seven = cube("lab".repeat(7));
        tells(seven, "message(6, 2)", 1, 1);
        refuses(seven, BAD, "message(7, 0)");
        refuses(new CubeHops(), BAD, "message(0, 0)", "message(0, 5)");
    }

    private static void highMarks() {
        by(13, "by how much the WAY by which it WISHES to go is above a LOW one's alike, and 10,");
        CubeHops x = cube("hap hab haj pap paa hcc hag");
        int[] marks = {13, 10, 13, 10, 10, 10, 11};
        for (int i = 0; i < 7; i++) {
            looks(x, "mark(" + i + ", 1)", marks[i]);
        }
        x = cube("lab pap");
        int[] proud = {10, 13, 12};
        for (int s = 0; s < 3; s++) {
            looks(x, "mark(1, 1)", proud[s]);
            x.step();
        }
    }

    private static void otherMarks() {
        by(13, "a LAZY one in how many of the 4 STEPS from now on it would WISH to go from here,");
        CubeHops x = cube("zap zcc zab", 0);
        for (int s = 0; s < 3; s++) {
            looks(x, "mark(0, 2)", 2);
            looks(x, "mark(1, 2)", 0);
            looks(x, "mark(2, 2)", 2);
            x.step();
        }

        by(13, "a DODGE one (SLY, too) how many LINKS of its CORNER are BROKEN,");
        x = cube("daa saa dpp", 1);
        int[] links = {0, 8, 16, 24};
        for (int many = 0; many <= 4; many++) {
            looks(x, "mark(0, 3)", many);
            looks(x, "mark(1, 3)", many);
            looks(x, "mark(2, 3)", 0);
            if (many < 4) {
                x.snap(links[many]);
            }
        }
        int[] ofLast = {7, 15, 23, 31};
        for (int many = 1; many <= 4; many++) {
            x.snap(ofLast[many - 1]);
            looks(x, "mark(2, 3)", many);
        }

        by(13, "a PROUD one whether it WISHES otherwise than a HIGH one alike (1, 0),");
        // From 15 to 0 by ways 0 (step 0), 3 (1), 2 (2), 1 (3: the last one, so alike).
        x = cube("ppa pbb");
        int[] otherwise = {1, 0, 0, 0, 0};
        for (int s = 0; s < otherwise.length; s++) {
            looks(x, "mark(0, 4)", otherwise[s]);
            looks(x, "mark(1, 4)", 0);
            x.step();
        }
        x = cube("pad", 0, 8);
        int[] waiting = {1, 0, 0, 1, 0, 0, 1};
        for (int s = 0; s < waiting.length; s++) {
            looks(x, "mark(0, 4)", waiting[s]);
            x.step();
        }

        by(13, "a SLY one whether than a DODGE one alike. (No WAY counts as -1.)");
        x = cube("sab scc", 0, 1);
        looks(x, "mark(0, 5)", 0);
        looks(x, "mark(1, 5)", 0);
        x.step();
        looks(x, "mark(0, 5)", 1);
        x.mend(1);
        looks(x, "mark(0, 5)", 0);
        // With all its links broken neither wishes to go.
        x = cube("sab", 0, 8, 16, 24);
        looks(x, "mark(0, 5)", 0);
    }

    private static void unlikeMarks() {
        by(13, "BAD: also KIND 0; UNLIKE.");
        CubeHops x = cube("lap hap zap dap pap sap");
        boolean[][] fits = {{}, {false, true, false, false, true, false}, {false, false, true, false, false, false},
            {false, false, false, true, false, true}, {false, false, false, false, true, false},
            {false, false, false, false, false, true}};
        for (int i = 0; i < 6; i++) {
            refuses(x, BAD, "mark(" + i + ", 0)", "mark(" + i + ", 6)", "mark(" + i + ", -1)", "mark(" + i + ", MOST)",
                    "mark(" + i + ", LEAST)");
            for (int kind = 1; kind <= 5; kind++) {
                String call = "mark(" + i + ", " + kind + ")";
                if (fits[kind][i]) {
                    due(call + " answered", x.mark(i, kind) >= 0 ? 1 : 0, 1);
                } else {
                    finds(x, UNLIKE, call);
                }
            }
        }
        refuses(x, BAD, "mark(6, 1)", "mark(-1, 1)", "mark(MOST, 1)", "mark(LEAST, 1)", "mark(6, 0)");
        refuses(new CubeHops(), BAD, "mark(0, 1)", "mark(0, 0)");
    }

    private static void links() {
        CubeHops x = cube("laa");
        for (int l = 0; l < 32; l++) {
            by(TERMS, "the LINK between both has the number 8 times w, and the CORNER without bit w (bits above it one"
                    + " lower; 0 .. 7).");
            int lower = LOWER_CORNERS[l / 8][l % 8];
            int upper = lower + (1 << l / 8);
            tells(x, "link(" + l + ")", 0, lower + 16 * upper);
            looks(x, "far(" + lower + ", " + upper + ")", 1);
            gives(x, "snap(" + l + ")", 1);
            by(14, "Whether a LINK (0 .. 31) is BROKEN: 1, 0; its lower CORNER and 16 times the other one by asked().");
            tells(x, "link(" + l + ")", 1, lower + 16 * upper);
            looks(x, "far(" + lower + ", " + upper + ")", 3);
            gives(x, "mend(" + l + ")", 0);
            tells(x, "link(" + l + ")", 0, lower + 16 * upper);
            x.undo(0);
        }

        by(14, "BAD.");
        refuses(x, BAD, "link(32)", "link(-1)", "link(LEAST)", "link(MOST)");
        CubeHops none = new CubeHops();
        refuses(none, BAD, "link(32)", "link(-1)");
        tells(none, "link(0)", 0, 16);
        tells(none, "link(31)", 0, 7 + 16 * 15);
    }
}
