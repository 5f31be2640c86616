import java.util.Arrays;

/** Boundaries of promises 1 to 7: a new object, rows. */
final class BoundaryRows extends Sentences {
    static void test() {
        newObject();
        making();
        places();
        tearing();
        copying();
        copyingBeyond();
        means();
    }

    private static void newObject() {
        by(1, "No ROWS, TEXTS, MESSAGES.");
        CubeHops x = new CubeHops();
        for (int what = 0; what <= 10; what++) {
            looks(x, "count(" + what + ")", 0);
        }
        for (int r = 0; r < 6; r++) {
            finds(x, NOTHING, "at(" + r + ", 0)", "lay(" + r + ", 0, 1)", "tear(" + r + ")", "mean(" + r + ")");
        }
        for (int t = 0; t < 4; t++) {
            finds(x, NOTHING, "put(" + t + ", 0, 32)", "fault(" + t + ")", "cube(" + t + ")");
        }
        refuses(x, BAD, "message(0, 0)", "mark(0, 1)", "aim(0, 0)", "later(0, 0)", "arrives(0)", "goals(0, 0)",
                "kinds(0, 0)", "test(0, 0)");
        // One object knows nothing of another.
        CubeHops other = new CubeHops();
        other.row(0, 1);
        looks(x, "count(6)", 0);
    }

    private static void making() {
        by(2, "A ROW is there with n ints 0: n.");
        CubeHops x = new CubeHops();
        for (int n = 0; n <= 40; n++) {
            gives(x, "row(0, " + n + ")", n);
            row(x, 0, new int[n]);
        }
        Arrays.asList(0, 1, 2, 3, 4, 5).forEach(r -> gives(x, "row(" + r + ", 3)", 3));
        looks(x, "count(6)", 6);
        // A row that is there is made anew, shorter or longer, and nothing of it comes back.
        x.lay(4, 2, 9);
        gives(x, "row(4, 2)", 2);
        gives(x, "row(4, 4)", 4);
        row(x, 4, 0, 0, 0, 0);
        looks(x, "count(6)", 6);

        by(2, "BAD: also n above 40;");
        x.lay(4, 1, 8);
        refuses(x, BAD, "row(4, 41)", "row(4, 42)", "row(4, MOST)", "row(6, 0)", "row(-1, 0)", "row(LEAST, 0)",
                "row(MOST, 40)");
        // BAD comes ahead of SIZE.
        refuses(x, BAD, "row(6, -1)", "row(-1, LEAST)");

        by(2, "SIZE: below 0.");
        finds(x, SIZE, "row(4, -1)", "row(4, LEAST)");
        row(x, 4, 0, 8, 0, 0);
        CubeHops none = new CubeHops();
        finds(none, SIZE, "row(0, -1)");
        finds(none, NOTHING, "at(0, 0)");
    }

    private static void places() {
        by(3, "Place i of a ROW is v: what it was, told by asked(): 1.");
        CubeHops x = new CubeHops();
        x.row(5, 40);
        gives(x, "lay(5, 0, MOST)", 1);
        due("asked()", x.asked(), 0);
        gives(x, "lay(5, 39, LEAST)", 1);
        due("asked()", x.asked(), 0);
        gives(x, "lay(5, 0, -9)", 1);
        due("asked()", x.asked(), MOST);
        gives(x, "lay(5, 39, 4)", 1);
        due("asked()", x.asked(), LEAST);
        gives(x, "lay(5, 39, 4)", 1);
        due("asked()", x.asked(), 4);

        by(3, "BAD; NOTHING; BEYOND.");
        refuses(x, BAD, "lay(6, 0, 1)", "lay(-1, 0, 1)", "lay(LEAST, -1, 1)", "lay(MOST, 99, 1)");
        finds(x, NOTHING, "lay(0, 0, 1)", "lay(0, -1, 1)", "lay(0, MOST, 1)");
        finds(x, BEYOND, "lay(5, 40, 1)", "lay(5, -1, 1)", "lay(5, MOST, 1)", "lay(5, LEAST, 1)");
        x.row(1, 0);
        finds(x, BEYOND, "lay(1, 0, 1)", "lay(1, -1, 1)");

        by(4, "Place i of a ROW, told by asked(): 1.");
        tells(x, "at(5, 0)", 1, -9);
        tells(x, "at(5, 39)", 1, 4);
        tells(x, "at(5, 38)", 1, 0);

        by(4, "BAD; NOTHING; BEYOND.");
        refuses(x, BAD, "at(6, 0)", "at(-1, 0)", "at(LEAST, -1)", "at(MOST, 99)");
        finds(x, NOTHING, "at(0, 0)", "at(0, -1)", "at(0, MOST)");
        finds(x, BEYOND, "at(5, 40)", "at(5, -1)", "at(5, MOST)", "at(5, LEAST)", "at(1, 0)", "at(1, -1)");
        // What a longer row had there once is no place of a shorter one.
        x.row(5, 39);
        finds(x, BEYOND, "at(5, 39)");
    }

    private static void tearing() {
        by(5, "A ROW is missing: 1. BAD; NOTHING.");
        CubeHops x = new CubeHops();
        for (int r = 0; r < 6; r++) {
            finds(x, NOTHING, "tear(" + r + ")");
            x.row(r, 40 * (r % 2));
            gives(x, "tear(" + r + ")", 1);
            finds(x, NOTHING, "tear(" + r + ")", "at(" + r + ", 0)", "mean(" + r + ")");
            looks(x, "count(6)", 0);
        }
        refuses(x, BAD, "tear(6)", "tear(-1)", "tear(LEAST)", "tear(MOST)");
        sights(x, 2, 7, 7);
        x.tear(2);
        x.row(2, 2);
        row(x, 2, 0, 0);
    }

    private static CubeHops twoRows() {
        CubeHops x = new CubeHops();
        sights(x, 0, 1, 2, 3, 4, 5);
        sights(x, 1, 7, 8, 9);
        return x;
    }

    private static void copying() {
        by(6, "n places of a ROW, from one on, come to those of another one (perhaps itself) from one on, as if taken"
                + " ahead: 1.");
        CubeHops x = twoRows();
        gives(x, "copy(0, 0, 0, 1, 4)", 1);
        row(x, 0, 1, 1, 2, 3, 4);
        x = twoRows();
        gives(x, "copy(0, 1, 0, 0, 4)", 1);
        row(x, 0, 2, 3, 4, 5, 5);
        x = twoRows();
        gives(x, "copy(0, 0, 0, 0, 5)", 1);
        row(x, 0, 1, 2, 3, 4, 5);
        gives(x, "copy(0, 2, 1, 0, 3)", 1);
        row(x, 0, 1, 2, 3, 4, 5);
        row(x, 1, 3, 4, 5);
        gives(x, "copy(1, 0, 0, 0, 3)", 1);
        row(x, 0, 3, 4, 5, 4, 5);
        gives(x, "copy(0, 4, 1, 0, 1)", 1);
        row(x, 1, 5, 4, 5);
        // Of no places none comes, not even to a row without any.
        x.row(2, 0);
        for (String none : new String[] {"copy(0, 0, 1, 0, 0)", "copy(0, 5, 1, 3, 0)", "copy(2, 0, 2, 0, 0)",
            "copy(2, 0, 0, 5, 0)", "copy(0, 5, 2, 0, 0)"}) {
            looks(x, none, 1);
        }
        x.row(3, 40);
        x.row(4, 40);
        x.lay(3, 39, 6);
        gives(x, "copy(3, 0, 4, 0, 40)", 1);
        tells(x, "at(4, 39)", 1, 6);
        gives(x, "copy(3, 1, 3, 0, 39)", 1);
        tells(x, "at(3, 38)", 1, 6);
        tells(x, "at(3, 39)", 1, 6);
    }

    private static void copyingBeyond() {
        by(6, "BAD; SIZE: n below 0; NOTHING: either; BEYOND: not so many there.");
        CubeHops x = twoRows();
        refuses(x, BAD, "copy(6, 0, 1, 0, 1)", "copy(-1, 0, 1, 0, 1)", "copy(0, 0, 6, 0, 1)", "copy(0, 0, -1, 0, 1)",
                "copy(LEAST, 0, 0, 0, 0)", "copy(0, 0, MOST, 0, 0)");
        // BAD, then SIZE, then NOTHING, then BEYOND.
        refuses(x, BAD, "copy(6, -1, 1, -1, -1)", "copy(5, 0, 6, 0, -1)");
        finds(x, SIZE, "copy(0, 0, 1, 0, -1)", "copy(0, 0, 1, 0, LEAST)", "copy(5, 0, 1, 0, -1)", "copy(0, 0, 5, 0, -1)",
                "copy(0, 9, 1, -1, -1)", "copy(5, 9, 5, 9, LEAST)");
        finds(x, NOTHING, "copy(5, 0, 1, 0, 1)", "copy(0, 0, 5, 0, 1)", "copy(5, 0, 5, 0, 0)", "copy(5, -1, 1, 0, 1)",
                "copy(0, 9, 5, 9, MOST)");
        finds(x, BEYOND, "copy(0, 0, 1, 0, 4)", "copy(0, 0, 1, 1, 3)", "copy(1, 0, 0, 0, 4)", "copy(1, 1, 0, 0, 3)",
                "copy(0, 1, 0, 0, 5)", "copy(0, 0, 0, 1, 5)", "copy(0, 5, 1, 0, 1)", "copy(0, 0, 1, 3, 1)");
        finds(x, BEYOND, "copy(0, -1, 1, 0, 1)", "copy(0, 0, 1, -1, 1)", "copy(0, -1, 1, 0, 0)", "copy(0, 0, 1, -1, 0)",
                "copy(0, 6, 1, 0, 0)", "copy(0, 0, 1, 4, 0)");
        // Sums that run over are not few.
        finds(x, BEYOND, "copy(0, 1, 1, 1, MOST)", "copy(0, MOST, 1, 0, 1)", "copy(0, 0, 1, MOST, 1)",
                "copy(0, MOST, 1, MOST, MOST)", "copy(0, LEAST, 1, 0, MOST)", "copy(0, 0, 1, LEAST, 0)");
        row(x, 0, 1, 2, 3, 4, 5);
        row(x, 1, 7, 8, 9);
    }

    private static void mean(int told, int... places) {
        CubeHops x = new CubeHops();
        sights(x, 3, places);
        tells(x, "mean(3)", 1, told);
    }

    private static void means() {
        by(7, "The mean of a ROW's ints, cut, told by asked(): 1.");
        mean(6, 6);
        mean(2, 3, 2);
        mean(2, 2, 2, 4);
        mean(0, 1, 0);
        mean(0, -1, 0);
        mean(-2, -3, -2);
        mean(-2, -2, -2, -4);
        mean(0, LEAST, MOST);
        mean(MOST, MOST);
        mean(LEAST, LEAST);
        mean(MOST, MOST, MOST, MOST);
        mean(LEAST, LEAST, LEAST, LEAST);
        mean(MOST - 1, MOST, MOST, MOST - 1);
        int[] most = new int[40];
        Arrays.fill(most, MOST);
        mean(MOST, most);
        Arrays.fill(most, LEAST);
        mean(LEAST, most);
        int[] one = new int[40];
        one[39] = 40;
        mean(1, one);
        one[39] = 39;
        mean(0, one);

        by(7, "BAD; NOTHING; NOUGHT.");
        CubeHops x = new CubeHops();
        refuses(x, BAD, "mean(6)", "mean(-1)", "mean(LEAST)", "mean(MOST)");
        finds(x, NOTHING, "mean(0)", "mean(5)");
        x.row(0, 0);
        finds(x, NOUGHT, "mean(0)");
        x.row(0, 1);
        tells(x, "mean(0)", 1, 0);
    }
}
