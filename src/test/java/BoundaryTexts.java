/** Boundaries of promises 8 to 11: texts, the language of cubes. */
final class BoundaryTexts extends Sentences {
    static void test() {
        making();
        putting();
        faults();
        everyByte();
        cubes();
    }

    private static void making() {
        by(8, "A TEXT is there with n blanks: n.");
        CubeHops x = new CubeHops();
        for (int n = 0; n <= 60; n += 20) {
            gives(x, "text(3, " + n + ")", n);
            for (int p = 0; p < n; p++) {
                gives(x, "put(3, " + p + ", 108)", 1032);
            }
            finds(x, BEYOND, "put(3, " + n + ", 108)");
        }
        for (int t = 0; t < 4; t++) {
            gives(x, "text(" + t + ", 1)", 1);
        }
        looks(x, "count(7)", 4);
        gives(x, "text(3, 60)", 60);
        gives(x, "put(3, 59, 1)", 1032);
        looks(x, "count(7)", 4);

        by(8, "BAD: also n above 60;");
        refuses(x, BAD, "text(3, 61)", "text(3, MOST)", "text(4, 1)", "text(-1, 1)", "text(LEAST, 1)", "text(MOST, 60)");
        refuses(x, BAD, "text(4, -1)", "text(-1, LEAST)");

        by(8, "SIZE: below 0.");
        finds(x, SIZE, "text(3, -1)", "text(3, LEAST)");
        gives(x, "put(3, 59, 2)", 1001);
        CubeHops none = new CubeHops();
        finds(none, SIZE, "text(0, -1)");
        finds(none, NOTHING, "fault(0)");
    }

    private static void putting() {
        by(9, "Byte i of a TEXT is v, cut to a byte: what it was, and 1000 more.");
        CubeHops x = new CubeHops();
        x.text(0, 60);
        int[] put = {0, 127, 128, 129, 255, 256, 257, 383, 384, -1, -128, -129, -256, MOST, LEAST, 108};
        int[] was = {32, 0, 127, -128, -127, -1, 0, 1, 127, -128, -1, -128, 127, 0, -1, 0};
        for (int k = 0; k < put.length; k++) {
            gives(x, "put(0, 59, " + put[k] + ")", 1000 + was[k]);
        }
        gives(x, "put(0, 0, 364)", 1032);
        gives(x, "put(0, 0, -148)", 1108);
        gives(x, "put(0, 0, 0)", 1108);
        due("asked()", x.asked(), 0);
        // A number that is cut to a letter is that letter.
        x.text(1, 3);
        x.put(1, 0, 108 + 256);
        x.put(1, 1, 97 - 256);
        x.put(1, 2, 112 + 65536);
        gives(x, "cube(1)", 1);
        message(x, 0, 2, 15);

        by(9, "BAD; NOTHING; BEYOND.");
        refuses(x, BAD, "put(4, 0, 1)", "put(-1, 0, 1)", "put(LEAST, 0, 1)", "put(MOST, -1, 1)");
        finds(x, NOTHING, "put(2, 0, 1)", "put(2, -1, 1)", "put(3, MOST, 1)");
        finds(x, BEYOND, "put(0, 60, 1)", "put(0, -1, 1)", "put(0, MOST, 1)", "put(0, LEAST, 1)");
        x.text(2, 0);
        finds(x, BEYOND, "put(2, 0, 1)");
    }

    private static void fault(String text, int place) {
        CubeHops x = new CubeHops();
        write(x, 2, text);
        due("fault of '" + text + "'", x.fault(2), place);
        looks(x, "fault(2)", place);
        long digest = x.digest();
        int answer = x.cube(2);
        if (place == NONE) {
            due("cube of '" + text + "'", answer, text.replace(" ", "").length() / 3);
        } else {
            due("cube of '" + text + "'", answer, STATE);
            due("digest() behind it", x.digest(), digest);
        }
    }

    private static void faults() {
        String seven = "labhcdzefdghpijskllno";
        by(TERMS, "blanks (32) ahead, between, behind as many as wanted, none within items");
        fault("lab", NONE);
        fault(" lab", NONE);
        fault("lab ", NONE);
        fault("labhab", NONE);
        fault("lab   hab", NONE);
        fault(" ".repeat(57) + "lab", NONE);
        fault("lab" + " ".repeat(57), NONE);
        fault("lab" + " ".repeat(54) + "hpa", NONE);
        fault("l ab", 1);
        fault("la b", 2);
        fault("lab l ", 5);
        fault("lab la ", 6);

        by(TERMS, "MESSAGES (1 to 7; 0, 1, .. as they come)");
        for (int many = 1; many <= 7; many++) {
            fault("hpa".repeat(many), NONE);
            fault("hpa ".repeat(many), NONE);
        }
        fault("", 0);
        fault("hpa".repeat(8), 21);

        by(TERMS, "(a letter that is none such, an eighth MESSAGE: its place;");
        fault("xab", 0);
        fault("lxb", 1);
        fault("lax", 2);
        fault("  xab", 2);
        fault("labx", 3);
        fault("lab x", 4);
        fault("x", 0);
        fault("lx", 1);
        fault(seven, NONE);
        fault(seven + " ".repeat(39), NONE);
        fault(seven + "l", 21);
        fault(seven + "la", 21);
        fault(seven + "lab", 21);
        fault(seven + "lax", 21);
        fault(seven + "x", 21);
        fault(seven + "  lab", 23);
        fault(seven + " ".repeat(38) + "l", 59);
        // The first of two.
        fault("lqb xab", 1);
        fault("lab lqb la", 5);

        by(TERMS, "the TEXT's size, if its end comes too early, or there is no MESSAGE, or blanks alone)");
        fault("l", 1);
        fault("la", 2);
        fault(" l", 2);
        fault("labh", 4);
        fault("lab ha", 6);
        fault("", 0);
        fault(" ", 1);
        fault(" ".repeat(60), 60);
        fault(" ".repeat(59) + "l", 60);
        fault(" ".repeat(58) + "la", 60);

        by(10, "A FAULT of a TEXT; NONE: there is none. BAD; NOTHING.");
        CubeHops x = new CubeHops();
        refuses(x, BAD, "fault(4)", "fault(-1)", "fault(LEAST)", "fault(MOST)");
        finds(x, NOTHING, "fault(0)", "fault(3)");
        write(x, 3, "zpa");
        looks(x, "fault(3)", NONE);
        x.text(3, 0);
        looks(x, "fault(3)", 0);
    }

    /** Each byte in each place of an item. */
    private static void everyByte() {
        CubeHops x = new CubeHops();
        for (int v = -128; v < 128; v++) {
            by(TERMS, "KINDS of MESSAGES and letters: 0 LOW (l, 108), 1 HIGH (h, 104; a LOW one), 2 LAZY (z, 122; a LOW"
                    + " one), 3 DODGE (d, 100; a LOW one), 4 PROUD (p, 112; a HIGH one), 5 SLY (s, 115; a DODGE one).");
            int kind = "lhzdps".indexOf((char) v);
            write(x, 0, "lab");
            x.put(0, 0, v);
            due("fault by a kind of " + v, x.fault(0), kind >= 0 ? NONE : v == 32 ? 1 : 0);
            if (kind >= 0) {
                x.cube(0);
                message(x, 0, 0, kind);
            }
            by(TERMS, "CORNERS 0 .. 15 (letters a, 97, .. p, 112).");
            boolean corner = v >= 97 && v <= 112;
            for (int p = 1; p <= 2; p++) {
                write(x, 0, "lab");
                x.put(0, p, v);
                due("fault by a corner of " + v, x.fault(0), corner ? NONE : p);
                if (corner) {
                    x.cube(0);
                    message(x, 0, p, v - 97);
                }
            }
        }
    }

    private static void cubes() {
        by(11, "(anew: no LINK BROKEN, STEP 0, no HOPS, no DEEDS; kept CUBES go): how many MESSAGES.");
        CubeHops x = cube("lap hap", 5, 31);
        steps(x, 3);
        x.keep(0);
        x.keep(2);
        x.later(0, 3);
        int asked = x.asked();
        // The same text once more is a new cube, too.
        gives(x, "cube(0)", 2);
        for (int what = 1; what <= 5; what++) {
            looks(x, "count(" + what + ")", 0);
        }
        looks(x, "count(8)", 0);
        finds(x, NOTHING, "on(0)", "on(1)", "on(2)");
        looks(x, "undo(0)", 0);
        refuses(x, BAD, "undo(1)");
        due("asked() stays", x.asked(), asked);
        due("link(5)", x.link(5), 0);
        message(x, 0, 1, 0);
        message(x, 0, 5, NONE);
        write(x, 3, "zpp" + " hab".repeat(6));
        gives(x, "cube(3)", 7);
        write(x, 3, "zpp");
        looks(x, "count(0)", 7);
        gives(x, "cube(3)", 1);
        refuses(x, BAD, "message(1, 0)");
        // A text that is written over, or none, takes nothing from the cube.
        x.text(3, 0);
        looks(x, "count(0)", 1);
        message(x, 0, 0, 2);
        gives(x, "snap(0)", 1);
        gives(x, "undo(0)", 1);
        message(x, 0, 1, 15);

        by(11, "BAD; NOTHING; STATE: a FAULT. (STATE behind NOTHING.)");
        x.keep(1);
        x.step();
        refuses(x, BAD, "cube(4)", "cube(-1)", "cube(LEAST)", "cube(MOST)");
        finds(x, NOTHING, "cube(1)", "cube(2)");
        refuses(x, STATE, "cube(3)");
        for (String text : new String[] {"   ", "l", "la", "lab l", "lab lab lab lab lab lab lab lab", "Lab"}) {
            write(x, 3, text);
            refuses(x, STATE, "cube(3)");
        }
        gives(x, "on(1)", 0);
        CubeHops none = new CubeHops();
        none.text(0, 9);
        refuses(none, STATE, "cube(0)");
        looks(none, "count(0)", 0);
    }
}
