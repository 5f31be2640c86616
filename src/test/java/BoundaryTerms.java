import java.math.BigInteger;

/** Boundaries of the terms: what an object takes, kinds and what they wish, steps. */
final class BoundaryTerms extends Sentences {
    static void test() {
        calls();
        sizes();
        sets();
        atFirst();
        lowestTerms();
        plainWishes();
        dodgingWishes();
        slyWishes();
        numbers();
        oneLink();
        goals();
        aside();
    }

    private static void calls() {
        by(TERMS, "An object is used for at most 512 calls after it has been made;");
        CubeHops x = new CubeHops();
        x.row(0, 1);
        for (int k = 0; k < 510; k++) {
            x.tear(1);
        }
        due("the 512th call", x.findings(1), 510);
    }

    private static void sizes() {
        by(TERMS, "ROWS 0 .. 5 are rows of 0 to 40 ints, TEXTS 0 .. 3 rows of 0 to 60 bytes, or missing (at first).");
        CubeHops x = new CubeHops();
        for (int r = 0; r < 6; r++) {
            finds(x, NOTHING, "at(" + r + ", 0)");
            gives(x, "row(" + r + ", 0)", 0);
            finds(x, BEYOND, "at(" + r + ", 0)");
            gives(x, "row(" + r + ", 40)", 40);
            gives(x, "lay(" + r + ", 39, " + r + ")", 1);
        }
        for (int t = 0; t < 4; t++) {
            finds(x, NOTHING, "fault(" + t + ")");
            gives(x, "text(" + t + ", 0)", 0);
            finds(x, BEYOND, "put(" + t + ", 0, 1)");
            gives(x, "text(" + t + ", 60)", 60);
            gives(x, "put(" + t + ", 59, " + t + ")", 1032);
        }
        // Each is itself.
        for (int r = 0; r < 6; r++) {
            tells(x, "at(" + r + ", 39)", 1, r);
        }
        for (int t = 0; t < 4; t++) {
            gives(x, "put(" + t + ", 59, 9)", 1000 + t);
        }
        refuses(x, BAD, "row(-1, 0)", "row(6, 0)", "text(-1, 0)", "text(4, 0)", "row(0, 41)", "text(0, 61)");
    }

    private static void sets() {
        by(TERMS, "Sets (of CORNERS, MESSAGES, KINDS) are told by bits.");
        CubeHops x = cube("lab".repeat(6) + "spp");
        looks(x, "count(5)", 1 << 6);
        tells(x, "reach(15)", (1 << 16) - 1, 4);
        sights(x, 0, 15, 15);
        looks(x, "goals(6, 0)", 1 << 15);
        looks(x, "kinds(6, 0)", (1 << 6) - 1);
        // Only a SLY one stays when it would have to turn back.
        x = cube("sab", 0, 1);
        sights(x, 0, 2, 2);
        looks(x, "kinds(0, 0)", 1 << 5);
    }

    private static void atFirst() {
        by(TERMS, "A CUBE (without MESSAGES, no LINK BROKEN at first) is a TEXT");
        CubeHops x = new CubeHops();
        for (int l = 0; l < 32; l++) {
            due("link(" + l + ")", x.link(l), 0);
        }
        for (int b = 0; b < 16; b++) {
            looks(x, "far(10, " + b + ")", Integer.bitCount(10 ^ b));
        }
        looks(x, "count(0)", 0);
        looks(x, "count(4)", 0);
    }

    private static void lowestTerms() {
        by(TERMS, "in lowest terms, the lower number above 0 (0 by 1).");
        CubeHops x = cube("laa", 2, 8, 21, 30);
        for (int b = 0; b < 16; b++) {
            for (int p = 0; p <= 12; p++) {
                for (String call : new String[] {"odds(6, " + b + ", " + p + ")", "mid(6, " + b + ", " + p + ")"}) {
                    gives(x, call, 1);
                    BigInteger common = BigInteger.valueOf(x.upper()).gcd(BigInteger.valueOf(x.lower()));
                    due(call + " shares", common.longValue(), 1);
                    due(call + " is below 0, or by none", x.upper() >= 0 && x.lower() > 0 ? 0 : 1, 0);
                    due(call + " is 0 by 1, or above 0", x.upper() > 0 || x.lower() == 1 ? 1 : 0, 1);
                }
            }
        }
    }

    /** Where message i is, step by step, truly and by looking ahead. */
    private static void goes(CubeHops x, int i, int... corners) {
        for (int s = 0; s < corners.length; s++) {
            due("later(" + i + ", " + (s + 1) + ")", x.later(i, s + 1), corners[s]);
        }
        for (int corner : corners) {
            x.step();
            message(x, i, 1, corner);
        }
    }

    private static void plainWishes() {
        by(TERMS, "a LOW one by the lowest bit in which its CORNER is unlike its GOAL (none: it is there);");
        goes(cube("lap"), 0, 1, 3, 7, 15, 15);
        goes(cube("lpa"), 0, 14, 12, 8, 0, 0);
        goes(cube("lai"), 0, 8, 8);
        goes(cube("lkk"), 0, 10, 10);
        goes(cube("lad", 0), 0, 0, 0, 0);

        by(TERMS, "a HIGH one by the highest such;");
        goes(cube("hap"), 0, 8, 12, 14, 15, 15);
        goes(cube("hpa"), 0, 7, 3, 1, 0, 0);
        goes(cube("hab"), 0, 1, 1);
        goes(cube("hkk"), 0, 10, 10);
        goes(cube("had", 8), 0, 0, 0, 0);

        by(TERMS, "a LAZY one as a LOW one, but by none in STEPS of an odd number;");
        goes(cube("zap"), 0, 1, 1, 3, 3, 7, 7, 15, 15);
        CubeHops x = cube("zap laa");
        x.step();
        goes(x, 0, 1, 3, 3);
        // Snapped and aimed is not stepped.
        x = cube("zap");
        x.snap(31);
        goes(x, 0, 1, 1, 3);

        by(TERMS, "a PROUD one as a HIGH one, but as a LOW one in STEPS that 3 divides;");
        goes(cube("pap"), 0, 1, 9, 13, 15, 15);
        x = cube("paa");
        x.step();
        x.aim(0, 15);
        goes(x, 0, 8, 12, 13, 15);
        x = cube("paa");
        steps(x, 2);
        x.aim(0, 15);
        goes(x, 0, 8, 9, 13, 15);
        x = cube("paa");
        steps(x, 3);
        x.aim(0, 15);
        goes(x, 0, 1, 9, 13, 15);
    }

    private static void dodgingWishes() {
        by(TERMS, "a DODGE one as a LOW one,");
        goes(cube("dap"), 0, 1, 3, 7, 15, 15);
        goes(cube("daa", 0, 8), 0, 0, 0);

        by(TERMS, "but if that LINK is BROKEN, by the lowest such bit whose LINK is not,");
        goes(cube("dap", 0), 0, 2, 3, 7, 15);
        goes(cube("dap", 0, 8), 0, 4, 5, 7, 15);
        goes(cube("dap", 0, 8, 16), 0, 8, 9, 11, 15);
        // Way 1 is whole, but it is no such bit.
        goes(cube("daf", 0), 0, 4, 5, 5);
        // Links that are broken elsewhere are none of its.
        goes(cube("dap", 8, 16, 24, 1, 2), 0, 1, 3, 7, 15);

        by(TERMS, "and if there is none such, by the lowest WAY at all whose LINK is not;");
        goes(cube("dab", 0), 0, 2, 3, 1, 1);
        goes(cube("dab", 0, 8), 0, 4, 5, 1, 1);
        goes(cube("dab", 0, 8, 16), 0, 8, 9, 1, 1);
        // From b the bit that is unlike again is the lowest one.
        goes(cube("dai", 24), 0, 1, 0, 1, 0);
        // With all of them broken there is no way at all.
        goes(cube("dab", 0, 8, 16, 24), 0, 0, 0);
        // It turns back, and does so for ever.
        goes(cube("dab", 0, 1), 0, 2, 0, 2, 0, 2);
    }

    private static void slyWishes() {
        by(TERMS, "a SLY one as a DODGE one, but by none, if that were the WAY by which it went last.");
        goes(cube("sap"), 0, 1, 3, 7, 15, 15);
        goes(cube("sab", 0), 0, 2, 3, 1, 1);
        goes(cube("sab", 0, 1), 0, 2, 2, 2);
        // Having waited, it has gone by that way last all the same, until a link is mended.
        CubeHops x = cube("sab", 0, 1);
        steps(x, 3);
        message(x, 0, 3, NONE);
        message(x, 0, 5, 1);
        x.mend(1);
        goes(x, 0, 3, 1);
        // Aimed back by the way by which it came it stays, though it would only have to turn round once.
        x = cube("sab");
        x.step();
        x.aim(0, 0);
        goes(x, 0, 1, 1, 1);
        x = cube("dab");
        x.step();
        x.aim(0, 0);
        goes(x, 0, 0, 0);
        // What it went last is undone with the step.
        x = cube("sab");
        x.step();
        x.undo(0);
        goes(x, 0, 1, 1);
    }

    private static void numbers() {
        by(TERMS, "STEPS have numbers, 0 at first.");
        CubeHops x = cube("lab");
        looks(x, "count(1)", 0);
        x.snap(5);
        x.aim(0, 2);
        looks(x, "count(1)", 0);
        for (int s = 1; s <= 38; s++) {
            x.step();
            looks(x, "count(1)", s);
        }

        by(TERMS, "These are DEEDS (40 at most).");
        looks(x, "count(2)", 40);
        refuses(x, FULL, "step()", "snap(6)", "mend(5)", "aim(0, 9)", "lots(1, 1)");
        x.undo(39);
        gives(x, "mend(5)", 0);
        looks(x, "count(2)", 40);
        refuses(x, FULL, "step()", "snap(5)", "aim(0, 9)");
        gives(x, "cube(0)", 1);
        gives(x, "aim(0, 9)", 1);
    }

    private static void oneLink() {
        by(TERMS, "In a STEP each MESSAGE WISHES by what is so ahead of it;");
        // Both change places in one step, and who has come does not go on in it.
        CubeHops x = cube("lab lba lad");
        gives(x, "step()", 2);
        int[] corners = {1, 0, 0};
        for (int i = 0; i < 3; i++) {
            message(x, i, 1, corners[i]);
        }

        by(TERMS, "whose LINK is BROKEN stays;");
        x = cube("lab lba hab zab pab", 0);
        gives(x, "step()", 0);
        looks(x, "count(3)", 0);
        looks(x, "count(1)", 1);
        message(x, 0, 5, NONE);

        by(TERMS, "of several that go through one LINK the same way the lowest goes, the others stay (the other way one may"
                + " go, too).");
        x = cube("lab".repeat(7));
        for (int s = 0; s < 7; s++) {
            gives(x, "step()", 1);
            looks(x, "count(5)", (1 << s + 1) - 1);
        }
        gives(x, "step()", 0);
        x = cube("lab hba pab sba zab dba lab");
        gives(x, "step()", 2);
        looks(x, "count(5)", 3);
        gives(x, "step()", 2);
        looks(x, "count(5)", 15);
        // In step 2 the lazy one goes ahead of 6.
        gives(x, "step()", 2);
        looks(x, "count(5)", 63);
        gives(x, "step()", 1);
        looks(x, "count(5)", 127);
        // The lowest that wishes to: a lazy one leaves the link to others in odd steps.
        x = cube("laa zab lab");
        x.step();
        message(x, 1, 1, 1);
        x = cube("lab zab lab");
        x.step();
        x.step();
        message(x, 1, 1, 0);
        message(x, 2, 1, 1);

        by(TERMS, "HOPS are all such goings.");
        looks(x, "count(3)", 2);
        x.step();
        looks(x, "count(3)", 3);
    }

    private static void goals() {
        by(TERMS, "What has its GOAL stays there (but is not gone).");
        CubeHops x = cube("lbb lab lba");
        gives(x, "step()", 2);
        looks(x, "count(0)", 3);
        looks(x, "count(5)", 7);
        message(x, 0, 1, 1);
        gives(x, "step()", 0);
        gives(x, "aim(0, 0)", 1);
        gives(x, "step()", 1);
        message(x, 0, 1, 0);
    }

    private static void aside() {
        by(TERMS, "(aside: nothing else done; beyond STEP 99, too)");
        // With 40 DEEDS in all it is STEP 40 at most; 60 STEPS from there on lead beyond 99.
        CubeHops x = cube("lap haa");
        steps(x, 40);
        tells(x, "later(0, 60)", 15, 0);
        tells(x, "arrives(0)", 0, 0);
        tells(x, "all()", 0, 0);
        looks(x, "tight(40)", NONE);
        // It turns to and fro.
        x = cube("dab", 0, 1);
        steps(x, 38);
        tells(x, "later(0, 60)", 0, 60);
        tells(x, "later(0, 59)", 2, 59);
        tells(x, "tight(40)", 8, 40);
        looks(x, "arrives(0)", NONE);
        looks(x, "all()", NONE);
    }
}
