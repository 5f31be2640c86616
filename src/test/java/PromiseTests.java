/** Each promise of the document with answers worked out by hand: ordinary inputs, edges, wrong inputs. */
public final class PromiseTests extends Checks {
    private static void promise(int number) {
        where = "promise " + number;
    }

    private static void finds(String what, CubeHops x, int got, int finding) {
        due(what, got, FINDING);
        due(what + ", finding()", x.finding(), finding);
    }

    private static void tells(String what, CubeHops x, int got, int want, int asked) {
        due(what, got, want);
        due(what + ", asked()", x.asked(), asked);
    }

    private static void fraction(String what, CubeHops x, int got, long upper, long lower) {
        due(what, got, 1);
        due(what + ", upper()", x.upper(), upper);
        due(what + ", lower()", x.lower(), lower);
    }

    /** A refused call leaves all as it was. */
    private static void changesNothing(String what, CubeHops x, long digest, int asked) {
        due(what + " leaves digest()", x.digest(), digest);
        due(what + " leaves asked()", x.asked(), asked);
    }

    public static void main(String[] args) {
        rows();
        texts();
        messages();
        wishes();
        deeds();
        undoing();
        comes();
        hangsTogether();
        whichMessage();
        turnsAndChances();
        byLots();
        told();
        end("all promises are kept");
    }

    private static void rows() {
        promise(1);
        CubeHops x = new CubeHops();
        for (int what = 0; what <= 10; what++) {
            due("count(" + what + ")", x.count(what), 0);
        }
        for (int k = 0; k < 6; k++) {
            finds("at() of no row", x, x.at(k, 0), NOTHING);
        }
        for (int k = 0; k < 4; k++) {
            finds("fault() of no text", x, x.fault(k), NOTHING);
        }

        promise(2);
        x = new CubeHops();
        due("row(0, 0)", x.row(0, 0), 0);
        due("row(5, 40)", x.row(5, 40), 40);
        due("row(5, 41)", x.row(5, 41), BAD);
        due("row(5, MOST)", x.row(5, MOST), BAD);
        due("row(6, 1)", x.row(6, 1), BAD);
        due("row(-1, 1)", x.row(-1, 1), BAD);
        due("row(6, -1)", x.row(6, -1), BAD);
        due("finding()", x.finding(), 0);
        x.lay(5, 39, 8);
        finds("row(5, -1)", x, x.row(5, -1), SIZE);
        finds("row(5, LEAST)", x, x.row(5, LEAST), SIZE);
        tells("at(5, 39)", x, x.at(5, 39), 1, 8);
        due("row(5, 40) anew", x.row(5, 40), 40);
        tells("at(5, 39) anew", x, x.at(5, 39), 1, 0);
        due("count(6)", x.count(6), 2);

        promise(3);
        x = new CubeHops();
        finds("lay of none", x, x.lay(1, 0, 3), NOTHING);
        x.row(1, 3);
        tells("lay(1, 2, 77)", x, x.lay(1, 2, 77), 1, 0);
        tells("lay(1, 2, LEAST)", x, x.lay(1, 2, LEAST), 1, 77);
        tells("lay(1, 2, 5)", x, x.lay(1, 2, 5), 1, LEAST);
        finds("lay(1, 3, 1)", x, x.lay(1, 3, 1), BEYOND);
        finds("lay(1, -1, 1)", x, x.lay(1, -1, 1), BEYOND);
        finds("lay(1, MOST, 1)", x, x.lay(1, MOST, 1), BEYOND);
        due("lay(6, 0, 1)", x.lay(6, 0, 1), BAD);
        due("lay(-1, 0, 1)", x.lay(-1, 0, 1), BAD);
        due("asked()", x.asked(), LEAST);

        promise(4);
        tells("at(1, 2)", x, x.at(1, 2), 1, 5);
        tells("at(1, 0)", x, x.at(1, 0), 1, 0);
        finds("at(1, 3)", x, x.at(1, 3), BEYOND);
        finds("at(1, -1)", x, x.at(1, -1), BEYOND);
        finds("at(0, 0)", x, x.at(0, 0), NOTHING);
        due("at(6, 0)", x.at(6, 0), BAD);
        due("at(LEAST, 0)", x.at(LEAST, 0), BAD);

        promise(5);
        due("tear(1)", x.tear(1), 1);
        finds("tear(1) again", x, x.tear(1), NOTHING);
        finds("at(1, 2) of it", x, x.at(1, 2), NOTHING);
        due("tear(6)", x.tear(6), BAD);
        due("tear(-1)", x.tear(-1), BAD);
        due("count(6)", x.count(6), 0);

        copying();
        means();
    }

    private static void copying() {
        promise(6);
        CubeHops x = new CubeHops();
        sights(x, 0, 1, 2, 3, 4, 5);
        sights(x, 1, 9, 9, 9);
        due("copy up within one", x.copy(0, 0, 0, 1, 4), 1);
        int[] up = {1, 1, 2, 3, 4};
        for (int k = 0; k < 5; k++) {
            tells("place " + k, x, x.at(0, k), 1, up[k]);
        }
        due("copy down within one", x.copy(0, 2, 0, 0, 3), 1);
        int[] down = {2, 3, 4, 3, 4};
        for (int k = 0; k < 5; k++) {
            tells("place " + k, x, x.at(0, k), 1, down[k]);
        }
        due("copy to another", x.copy(0, 2, 1, 1, 2), 1);
        tells("at(1, 0)", x, x.at(1, 0), 1, 9);
        tells("at(1, 1)", x, x.at(1, 1), 1, 4);
        tells("at(1, 2)", x, x.at(1, 2), 1, 3);
        due("none at the ends", x.copy(0, 5, 1, 3, 0), 1);
        finds("from behind the end", x, x.copy(0, 6, 1, 0, 0), BEYOND);
        finds("to behind the end", x, x.copy(0, 0, 1, 4, 0), BEYOND);
        finds("too many from", x, x.copy(1, 1, 0, 0, 3), BEYOND);
        finds("too many to", x, x.copy(0, 0, 1, 1, 3), BEYOND);
        finds("far too many", x, x.copy(0, 1, 1, 1, MOST), BEYOND);
        finds("from far off", x, x.copy(0, MOST, 1, 0, 1), BEYOND);
        finds("from -1", x, x.copy(0, -1, 1, 0, 1), BEYOND);
        finds("to LEAST", x, x.copy(0, 0, 1, LEAST, 1), BEYOND);
        finds("fewer than none", x, x.copy(0, 0, 1, 0, -1), SIZE);
        finds("fewer than none of none", x, x.copy(2, 0, 1, 0, -1), SIZE);
        finds("of none", x, x.copy(2, 9, 1, 0, 1), NOTHING);
        finds("to none", x, x.copy(0, 0, 2, 9, 1), NOTHING);
        due("copy from 6", x.copy(6, 0, 0, 0, -1), BAD);
        due("copy to -1", x.copy(0, 0, -1, 0, 0), BAD);
        tells("at(1, 1) still", x, x.at(1, 1), 1, 4);
    }

    private static void means() {
        promise(7);
        CubeHops x = new CubeHops();
        sights(x, 3, 1, 2, 4);
        tells("mean of 7 by 3", x, x.mean(3), 1, 2);
        sights(x, 3, -3, -4);
        tells("mean of -7 by 2, cut", x, x.mean(3), 1, -3);
        sights(x, 3, MOST, MOST, MOST);
        tells("mean of great ones", x, x.mean(3), 1, MOST);
        sights(x, 3, LEAST, LEAST);
        tells("mean of least ones", x, x.mean(3), 1, LEAST);
        x.row(4, 0);
        finds("mean of no ints", x, x.mean(4), NOUGHT);
        finds("mean of no row", x, x.mean(0), NOTHING);
        due("mean(6)", x.mean(6), BAD);
        due("mean(-1)", x.mean(-1), BAD);
        due("asked()", x.asked(), LEAST);
    }

    private static void texts() {
        promise(8);
        CubeHops x = new CubeHops();
        due("text(0, 0)", x.text(0, 0), 0);
        due("text(3, 60)", x.text(3, 60), 60);
        due("text(3, 61)", x.text(3, 61), BAD);
        due("text(4, 1)", x.text(4, 1), BAD);
        due("text(-1, -1)", x.text(-1, -1), BAD);
        finds("text(3, -1)", x, x.text(3, -1), SIZE);
        due("count(7)", x.count(7), 2);

        promise(9);
        due("put(3, 59, 97)", x.put(3, 59, 97), 1032);
        due("put(3, 59, 200)", x.put(3, 59, 200), 1097);
        due("put(3, 59, 256 + 5), a byte being -128 .. 127", x.put(3, 59, 261), 1000 - 56);
        due("put(3, 59, -1)", x.put(3, 59, -1), 1005);
        due("put(3, 59, 0)", x.put(3, 59, 0), 999);
        finds("put(3, 60, 1)", x, x.put(3, 60, 1), BEYOND);
        finds("put(3, -1, 1)", x, x.put(3, -1, 1), BEYOND);
        finds("put(0, 0, 1)", x, x.put(0, 0, 1), BEYOND);
        finds("put(1, 0, 1)", x, x.put(1, 0, 1), NOTHING);
        due("put(4, 0, 1)", x.put(4, 0, 1), BAD);
        due("put(-1, 0, 1)", x.put(-1, 0, 1), BAD);

        promise(10);
        String[] good = {"lab", "  lab", "lab  ", "hapzpa", "dcc  sdd  ppp", "labhabzabdabpabsablpp"};
        for (String text : good) {
            write(x, 1, text);
            due("fault of '" + text + "'", x.fault(1), NONE);
        }
        String[] bad = {"", "   ", "l", "la", "lab h", "xab", "lqb", "l`b", "laq", "la b", "l ab", "Lab", "lab.",
            "lablablablablablablablab", "lablablablablablablab x", "lablablablablablablab l", "lab lax"};
        int[] at = {0, 3, 1, 2, 5, 0, 1, 1, 2, 2, 1, 0, 3, 21, 22, 22, 6};
        for (int k = 0; k < bad.length; k++) {
            write(x, 1, bad[k]);
            due("fault of '" + bad[k] + "'", x.fault(1), at[k]);
        }
        finds("fault(2)", x, x.fault(2), NOTHING);
        due("fault(4)", x.fault(4), BAD);
        due("fault(-1)", x.fault(-1), BAD);

        newCubes();
    }

    private static void newCubes() {
        promise(11);
        CubeHops x = cube(" lab  hpa zcd", 3, 4);
        x.step();
        x.keep(1);
        write(x, 1, "sop dgg");
        due("cube(1)", x.cube(1), 2);
        int[] counts = {2, 0, 0, 0, 0, 2, 0, 2, 0, 0, 2};
        for (int what = 0; what <= 10; what++) {
            due("count(" + what + ")", x.count(what), counts[what]);
        }
        finds("on(1)", x, x.on(1), NOTHING);
        tells("its kind", x, x.message(0, 0), 1, 5);
        tells("its corner", x, x.message(0, 1), 1, 14);
        tells("its goal", x, x.message(0, 2), 1, 15);
        x.step();
        x.keep(2);
        write(x, 1, "sop dg");
        long digest = x.digest();
        due("cube by a fault", x.cube(1), STATE);
        finds("cube by none", x, x.cube(2), NOTHING);
        due("cube(4)", x.cube(4), BAD);
        due("cube(-1)", x.cube(-1), BAD);
        changesNothing("a refused cube", x, digest, 15);
        due("on(2)", x.on(2), 1);
    }

    private static void messages() {
        promise(12);
        CubeHops x = cube("laf hag zii");
        int[][] facts = {{0, 0, 5, 0, 2, NONE}, {1, 0, 6, 2, 2, NONE}, {2, 8, 8, NONE, 0, NONE}};
        for (int i = 0; i < 3; i++) {
            for (int what = 0; what < 6; what++) {
                tells("message(" + i + ", " + what + ")", x, x.message(i, what), 1, facts[i][what]);
            }
        }
        x.step();
        int[] behind = {0, 1, 5, 2, 1, 0};
        for (int what = 0; what < 6; what++) {
            tells("then message(0, " + what + ")", x, x.message(0, what), 1, behind[what]);
        }
        x.step();
        x.step();
        tells("the way it went last, long ago", x, x.message(0, 5), 1, 2);
        due("message(3, 0)", x.message(3, 0), BAD);
        due("message(-1, 0)", x.message(-1, 0), BAD);
        due("message(0, 6)", x.message(0, 6), BAD);
        due("message(0, -1)", x.message(0, -1), BAD);
        due("message of none", new CubeHops().message(0, 0), BAD);
        due("asked()", x.asked(), 2);

        marks();

        promise(14);
        x = cube("laa", 13);
        tells("link(0)", x, x.link(0), 0, 16);
        tells("link(13), 9 to 11", x, x.link(13), 1, 9 + 16 * 11);
        tells("link(20), 8 to 12", x, x.link(20), 0, 8 + 16 * 12);
        tells("link(31), 7 to 15", x, x.link(31), 0, 7 + 16 * 15);
        due("link(32)", x.link(32), BAD);
        due("link(-1)", x.link(-1), BAD);
        x = new CubeHops();
        tells("link(7) of no cube, 14 to 15", x, x.link(7), 0, 14 + 16 * 15);
    }

    private static void marks() {
        promise(13);
        CubeHops x = cube("lap hap zap dap pap sap hbb");
        due("high above low", x.mark(1, 1), 13);
        due("proud as low in step 0", x.mark(4, 1), 10);
        due("high, there", x.mark(6, 1), 10);
        due("proud otherwise than high", x.mark(4, 4), 1);
        due("lazy", x.mark(2, 2), 2);
        due("dodge, none broken", x.mark(3, 3), 0);
        due("sly as dodge", x.mark(5, 5), 0);
        x.step();
        due("proud above low in step 1", x.mark(4, 1), 13);
        due("proud as high in step 1", x.mark(4, 4), 0);
        due("lazy in step 1", x.mark(2, 2), 2);
        int[][] others = {{0, 1}, {0, 2}, {0, 3}, {0, 4}, {0, 5}, {1, 2}, {1, 3}, {1, 4}, {1, 5}, {2, 1}, {2, 3}, {3, 1},
            {3, 2}, {3, 4}, {3, 5}, {4, 2}, {4, 3}, {4, 5}, {5, 1}, {5, 2}, {5, 4}};
        for (int[] o : others) {
            finds("mark(" + o[0] + ", " + o[1] + ")", x, x.mark(o[0], o[1]), UNLIKE);
        }
        due("mark(0, 0)", x.mark(0, 0), BAD);
        due("mark(0, 6)", x.mark(0, 6), BAD);
        due("mark(7, 1)", x.mark(7, 1), BAD);
        due("mark(-1, 1)", x.mark(-1, 1), BAD);
        due("mark of none", new CubeHops().mark(0, 1), BAD);
        // Links 0 and 1 broken: the sly one goes from a by way 1, and would go back by it.
        x = cube("sab zcc", 0, 1);
        due("broken at a", x.mark(0, 3), 1);
        due("sly as dodge at first", x.mark(0, 5), 0);
        due("lazy, there", x.mark(1, 2), 0);
        x.step();
        tells("it is at c", x, x.message(0, 1), 1, 2);
        due("sly otherwise than dodge", x.mark(0, 5), 1);
        tells("by none", x, x.message(0, 3), 1, NONE);
    }

    private static void path(String text, int[] snapped, int... corners) {
        CubeHops x = cube(text, snapped);
        for (int s = 0; s < corners.length; s++) {
            due(text + " behind " + (s + 1), x.later(0, s + 1), corners[s]);
        }
        for (int s = 0; s < corners.length; s++) {
            x.step();
            tells(text + " truly behind " + (s + 1), x, x.message(0, 1), 1, corners[s]);
        }
    }

    private static void wishes() {
        promise(15);
        int[] none = {};
        path("lap", none, 1, 3, 7, 15, 15);
        path("hap", none, 8, 12, 14, 15, 15);
        path("lgj", none, 7, 5, 1, 9);
        path("zap", none, 1, 1, 3, 3, 7, 7, 15, 15);
        path("pap", none, 1, 9, 13, 15);
        path("dap", none, 1, 3, 7, 15);
        path("lap", new int[] {0}, 0, 0, 0);
        path("hap", new int[] {24}, 0, 0, 0);
        path("daf", new int[] {0}, 4, 5, 5);
        // No other bit is unlike, so it goes round by the lowest way that is whole.
        path("dab", new int[] {0}, 2, 3, 1, 1);
        path("sab", new int[] {0}, 2, 3, 1, 1);
        path("dab", new int[] {0, 1}, 2, 0, 2, 0);
        path("sab", new int[] {0, 1}, 2, 2, 2, 2);
        path("dab", new int[] {0, 8, 16}, 8, 9, 1);
        path("dab", new int[] {0, 8, 16, 24}, 0, 0);
        // There, it stays, whatever is broken.
        path("daa", new int[] {0}, 0, 0);

        CubeHops x = cube("lab lab lba hab lca");
        due("step 0: one each way", x.step(), 3);
        tells("the lowest goes", x, x.message(0, 1), 1, 1);
        tells("another waits", x, x.message(1, 1), 1, 0);
        tells("the other way goes, too", x, x.message(2, 1), 1, 0);
        tells("another link goes, too", x, x.message(4, 1), 1, 0);
        due("count(3)", x.count(3), 3);
        due("step 1", x.step(), 1);
        tells("who waited", x, x.message(1, 1), 1, 1);
        tells("who waits still", x, x.message(3, 1), 1, 0);
        due("step 2", x.step(), 1);
        due("step 3", x.step(), 0);
        due("count(1)", x.count(1), 4);
        due("step of none", new CubeHops().step(), STATE);
        for (int k = 4; k < 40; k++) {
            due("a step of nobody", x.step(), 0);
        }
        due("a 41st deed", x.step(), FULL);
        due("count(1)", x.count(1), 40);
    }

    private static void deeds() {
        promise(16);
        CubeHops x = cube("lab");
        due("snap(0)", x.snap(0), 1);
        due("snap(31)", x.snap(31), 2);
        due("snap(31) again", x.snap(31), STATE);
        due("snap(32)", x.snap(32), BAD);
        due("snap(-1)", x.snap(-1), BAD);
        due("count(4)", x.count(4), 2);
        due("snap of none", new CubeHops().snap(0), STATE);
        due("snap(32) of none", new CubeHops().snap(32), BAD);

        promise(17);
        due("mend(0)", x.mend(0), 1);
        due("mend(0) again", x.mend(0), STATE);
        due("mend(31)", x.mend(31), 0);
        due("mend(32)", x.mend(32), BAD);
        due("mend(-1)", x.mend(-1), BAD);
        due("it goes again", x.step(), 1);

        promise(18);
        due("aim(0, 15)", x.aim(0, 15), 1);
        due("aim(0, 15) again", x.aim(0, 15), STATE);
        tells("its goal", x, x.message(0, 2), 1, 15);
        due("aim(0, 16)", x.aim(0, 16), BAD);
        due("aim(0, -1)", x.aim(0, -1), BAD);
        due("aim(1, 0)", x.aim(1, 0), BAD);
        due("aim(-1, 0)", x.aim(-1, 0), BAD);
        due("count(2)", x.count(2), 6);

        x = cube("lab");
        for (int k = 0; k < 20; k++) {
            x.snap(3);
            x.mend(3);
        }
        long digest = x.digest();
        promise(16);
        due("snap, full", x.snap(3), FULL);
        promise(17);
        due("mend, full, not broken", x.mend(3), STATE);
        promise(18);
        due("aim, full", x.aim(0, 2), FULL);
        due("aim, full, alike", x.aim(0, 1), STATE);
        promise(15);
        due("step, full", x.step(), FULL);
        changesNothing("what is full", x, digest, 0);
        x.undo(39);
        x.aim(0, 5);
        promise(16);
        due("snap, full, broken", x.snap(3), STATE);
        promise(17);
        due("mend, full", x.mend(3), FULL);
    }

    private static void undoing() {
        promise(19);
        CubeHops x = cube("lap sac", 1);
        long[] digests = new long[7];
        digests[1] = x.digest();
        x.step();
        digests[2] = x.digest();
        x.aim(0, 0);
        digests[3] = x.digest();
        x.step();
        digests[4] = x.digest();
        x.mend(1);
        digests[5] = x.digest();
        x.step();
        digests[6] = x.digest();
        due("undo(7)", x.undo(7), BAD);
        due("undo(-1)", x.undo(-1), BAD);
        due("undo(6)", x.undo(6), 0);
        due("digest", x.digest(), digests[6]);
        for (int n = 5; n >= 1; n--) {
            due("undo(" + n + ")", x.undo(n), 1);
            due("digest behind " + n, x.digest(), digests[n]);
        }
        due("undo(0)", x.undo(0), 1);
        due("count(4)", x.count(4), 0);
        due("undo(0) again", x.undo(0), 0);
        due("undo(0) of none", new CubeHops().undo(0), 0);
        due("undo(1) of none", new CubeHops().undo(1), BAD);

        promise(20);
        x = cube("lap");
        x.step();
        x.snap(9);
        due("keep(0)", x.keep(0), 2);
        due("keep(2)", x.keep(2), 2);
        due("keep(3)", x.keep(3), BAD);
        due("keep(-1)", x.keep(-1), BAD);
        due("keep of none", new CubeHops().keep(0), STATE);
        due("keep(3) of none", new CubeHops().keep(3), BAD);
        due("count(8)", x.count(8), 2);
        long digest = x.digest();

        promise(21);
        x.mend(9);
        x.step();
        x.step();
        due("on(0)", x.on(0), 2);
        due("digest", x.digest(), digest);
        x.aim(0, 3);
        due("on(2)", x.on(2), 2);
        due("digest", x.digest(), digest);
        due("what is kept can be undone", x.undo(1), 1);
        due("count(4)", x.count(4), 0);
        due("on(0) again", x.on(0), 2);
        due("digest", x.digest(), digest);
        x.undo(0);
        due("keep(0) anew", x.keep(0), 0);
        due("on(2) is not it", x.on(2), 2);
        due("on(0) is", x.on(0), 0);
        tells("at its first corner", x, x.message(0, 1), 1, 0);
        finds("on(1)", x, x.on(1), NOTHING);
        due("on(3)", x.on(3), BAD);
        due("on(-1)", x.on(-1), BAD);
    }

    private static void comes() {
        promise(22);
        CubeHops x = cube("lap lap");
        long digest = x.digest();
        tells("later(0, 0)", x, x.later(0, 0), 0, 0);
        tells("later(1, 1)", x, x.later(1, 1), 0, 1);
        tells("later(1, 2)", x, x.later(1, 2), 1, 3);
        tells("later(1, 60)", x, x.later(1, 60), 15, 8);
        due("later(0, 61)", x.later(0, 61), BAD);
        due("later(0, -1)", x.later(0, -1), BAD);
        due("later(2, 0)", x.later(2, 0), BAD);
        due("later(-1, 0)", x.later(-1, 0), BAD);
        x.later(0, 1);
        changesNothing("what comes", x, digest, 1);
        x = cube("dab", 0, 1);
        tells("it goes to and fro", x, x.later(0, 59), 2, 59);
        for (int k = 0; k < 38; k++) {
            x.step();
        }
        tells("beyond step 97", x, x.later(0, 60), 0, 60);

        promise(23);
        x = cube("lap zap lcc lab", 8);
        tells("arrives(0)", x, x.arrives(0), 4, 4);
        tells("arrives(2)", x, x.arrives(2), 0, 0);
        // The lazy one waits in step 0, as 0 takes the link, goes in 2, 4, 6, 8.
        tells("arrives(1)", x, x.arrives(1), 9, 4);
        tells("arrives(3)", x, x.arrives(3), 2, 1);
        due("arrives(4)", x.arrives(4), BAD);
        due("arrives(-1)", x.arrives(-1), BAD);
        x.snap(7);
        x.snap(31);
        due("not by then", x.arrives(0), NONE);
        due("asked() as it was", x.asked(), 1);

        promise(24);
        x = cube("lab lab lae");
        tells("all()", x, x.all(), 2, 1);
        x = cube("lap lac lab");
        tells("all(), the lowest of those who come last", x, x.all(), 4, 0);
        x = cube("lcc lbb");
        x.message(1, 1);
        tells("all at once", x, x.all(), 0, 0);
        x = cube("lab lcd", 1);
        x.message(0, 2);
        due("never", x.all(), NONE);
        due("asked() as it was", x.asked(), 1);
        due("all of none", new CubeHops().all(), STATE);

        promise(25);
        x = cube("lab lba lab hae", 31);
        tells("tight(1)", x, x.tight(1), 0, 2);
        tells("tight(2)", x, x.tight(2), 0, 3);
        tells("tight(40)", x, x.tight(40), 0, 3);
        x = cube("hae lab");
        tells("the first of two", x, x.tight(1), 0, 1);
        x = cube("lhp");
        tells("way 3", x, x.tight(5), 31, 1);
        due("tight(0)", x.tight(0), BAD);
        due("tight(41)", x.tight(41), BAD);
        due("tight(0) of none", new CubeHops().tight(0), BAD);
        due("tight(1) of none", new CubeHops().tight(1), STATE);
        due("none goes", cube("laa").tight(40), NONE);
    }

    private static void hangsTogether() {
        promise(26);
        CubeHops x = cube("laa", 0, 8, 16);
        due("far(0, 0)", x.far(0, 0), 0);
        due("far(0, 1)", x.far(0, 1), 3);
        due("far(1, 0)", x.far(1, 0), 3);
        due("far(0, 15)", x.far(0, 15), 4);
        due("far(16, 0)", x.far(16, 0), BAD);
        due("far(0, -1)", x.far(0, -1), BAD);
        x.snap(24);
        due("no way", x.far(0, 8), NONE);
        due("none off itself", x.far(0, 0), 0);
        due("far of no cube", new CubeHops().far(5, 10), 4);

        promise(27);
        tells("reach(0)", x, x.reach(0), 1, 0);
        tells("reach(15)", x, x.reach(15), 65534, 3);
        x.mend(24);
        tells("reach(0)", x, x.reach(0), 65535, 5);
        due("reach(16)", x.reach(16), BAD);
        due("reach(-1)", x.reach(-1), BAD);
        due("asked()", x.asked(), 5);

        promise(28);
        due("parts(0, 15)", x.parts(0, 15), 1);
        due("parts(15, 0)", x.parts(15, 0), 1);
        due("parts(7, 9)", x.parts(7, 9), 4);
        // One of the four links of 8 leads to 0 alone.
        due("parts(7, 8)", x.parts(7, 8), 3);
        due("parts(1, 14)", x.parts(1, 14), 3);
        x.snap(24);
        due("parted", x.parts(0, 15), 0);
        due("parts(3, 3)", x.parts(3, 3), BAD);
        due("parts(16, 3)", x.parts(16, 3), BAD);
        due("parts(3, -1)", x.parts(3, -1), BAD);
        // Way 3 is whole between 0 and 8 alone: that one link parts both halves.
        x = cube("laa", 25, 26, 27, 28, 29, 30, 31);
        due("one link between halves", x.parts(3, 13), 1);
        due("within a half", x.parts(3, 4), 3);

        promise(29);
        x = cube("lab");
        tells("lab", x, x.hurts(), 0, 61);
        x = cube("dab");
        tells("dab", x, x.hurts(), 0, 3);
        // Without link 9, between 1 and 3, it turns back from 1 for ever.
        x = cube("dad");
        tells("dad", x, x.hurts(), 9, 61);
        due("nobody minds", cube("laa").hurts(), NONE);
        due("never there as it is", cube("lab", 0).hurts(), NONE);
        due("hurts of none", new CubeHops().hurts(), STATE);
        x = cube("laa");
        for (int l = 0; l < 32; l++) {
            x.snap(l);
        }
        due("all are broken", x.hurts(), NONE);
    }

    private static void refusesSights(String what, java.util.function.BiFunction<CubeHops, int[], Integer> call) {
        CubeHops x = cube("lad");
        due(what + "(1, 0)", call.apply(x, new int[] {1, 0}), BAD);
        due(what + "(-1, 0)", call.apply(x, new int[] {-1, 0}), BAD);
        due(what + "(0, 6)", call.apply(x, new int[] {0, 6}), BAD);
        due(what + "(0, -1)", call.apply(x, new int[] {0, -1}), BAD);
        due(what + " of none", call.apply(new CubeHops(), new int[] {0, 0}), BAD);
        finds(what + " by no row", x, call.apply(x, new int[] {0, 0}), NOTHING);
        x.row(0, 0);
        finds(what + " by none", x, call.apply(x, new int[] {0, 0}), SIZE);
        x.row(0, 21);
        x.lay(0, 0, 16);
        finds(what + " by 21", x, call.apply(x, new int[] {0, 0}), SIZE);
        sights(x, 0, 1, 16);
        finds(what + " by 16", x, call.apply(x, new int[] {0, 0}), UNLIKE);
        sights(x, 0, 7, -1);
        finds(what + " by -1", x, call.apply(x, new int[] {0, 0}), UNLIKE);
        due("findings(3)", x.findings(3), 2);
    }

    private static void whichMessage() {
        promise(30);
        refusesSights("goals", (x, a) -> x.goals(a[0], a[1]));
        CubeHops x = cube("lac");
        sights(x, 2, 1);
        due("at b behind 1", x.goals(0, 2), 0xAAAA);
        sights(x, 2, 1, 3);
        due("at b, d", x.goals(0, 2), 0x8888);
        sights(x, 2, 1, 1);
        due("at b twice", x.goals(0, 2), 2);
        sights(x, 2, 3);
        due("at d at once", x.goals(0, 2), 0);
        x.row(2, 20);
        due("20 times at a", x.goals(0, 2), 1);
        x = cube("lab lab");
        sights(x, 2, 0, 1);
        due("who waits for another one", x.goals(1, 2), 2 | 1 << 3 | 1 << 5 | 1 << 7 | 1 << 9 | 1 << 11 | 1 << 13 | 1 << 15);

        promise(31);
        refusesSights("kinds", (y, a) -> y.kinds(a[0], a[1]));
        x = cube("lad");
        sights(x, 2, 1);
        due("all but the high one", x.kinds(0, 2), 61);
        sights(x, 2, 1, 3);
        due("nor the lazy one", x.kinds(0, 2), 57);
        sights(x, 2, 2, 3);
        due("the high one", x.kinds(0, 2), 2);
        sights(x, 2, 4);
        due("none", x.kinds(0, 2), 0);

        promise(32);
        refusesSights("test", (y, a) -> y.test(a[0], a[1]));
        sights(x, 2, 1);
        tells("the lazy one is told behind 2", x, x.test(0, 2), 2, 4);
        sights(x, 2, 1, 3);
        tells("nothing more can be told", x, x.test(0, 2), 1, 4);
        sights(x, 2, 4);
        due("no kind", x.test(0, 2), NONE);
        due("asked() as lay() left it", x.asked(), 0);
    }

    private static void turnsAndChances() {
        promise(33);
        CubeHops x = new CubeHops();
        due("duel(0, 1, 0)", x.duel(0, 1, 0), 1);
        due("duel(0, 1, 1)", x.duel(0, 1, 1), 3);
        due("duel(0, 1, 2)", x.duel(0, 1, 2), 1);
        due("duel(0, 1, 3)", x.duel(0, 1, 3), 3);
        due("duel(0, 15, 1)", x.duel(0, 15, 1), 4);
        x = cube("laa", 0, 8, 16);
        due("far as it is", x.duel(0, 1, 0), 3);
        due("cut off", x.duel(0, 1, 1), 16);
        due("joined", x.duel(0, 1, 2), 1);
        due("cut off again", x.duel(0, 1, 3), 16);
        x.snap(24);
        due("cut off as it is", x.duel(0, 1, 0), 16);
        due("duel(3, 3, 0)", x.duel(3, 3, 0), BAD);
        due("duel(16, 3, 0)", x.duel(16, 3, 0), BAD);
        due("duel(3, -1, 0)", x.duel(3, -1, 0), BAD);
        due("duel(3, 1, 4)", x.duel(3, 1, 4), BAD);
        due("duel(3, 1, -1)", x.duel(3, 1, -1), BAD);

        promise(34);
        x = cube("laa");
        fraction("odds(0, 15, 2)", x, x.odds(0, 15, 2), 625, 1296);
        fraction("odds(0, 15, 1)", x, x.odds(0, 15, 1), 14641, 20736);
        fraction("odds(9, 1, 12)", x, x.odds(9, 1, 12), 0, 1);
        fraction("odds(9, 1, 0)", x, x.odds(9, 1, 0), 1, 1);
        fraction("odds(4, 4, 12)", x, x.odds(4, 4, 12), 1, 1);
        x.snap(8);
        fraction("not on the way", x, x.odds(0, 3, 6), 1, 4);
        fraction("but on the way back", x, x.odds(3, 0, 6), 0, 1);
        due("odds(16, 0, 1)", x.odds(16, 0, 1), BAD);
        due("odds(0, -1, 1)", x.odds(0, -1, 1), BAD);
        due("odds(0, 1, 13)", x.odds(0, 1, 13), BAD);
        due("odds(0, 1, -1)", x.odds(0, 1, -1), BAD);

        promise(35);
        fraction("mid(1, 14, 3)", x, x.mid(1, 14, 3), 9, 4);
        fraction("mid(15, 4, 3)", x, x.mid(15, 4, 3), 9, 4);
        fraction("mid(0, 1, 5)", x, x.mid(0, 1, 5), 7, 12);
        fraction("mid(0, 15, 12)", x, x.mid(0, 15, 12), 0, 1);
        fraction("mid(7, 7, 1)", x, x.mid(7, 7, 1), 0, 1);
        fraction("one broken", x, x.mid(3, 0, 6), 1, 2);
        due("mid(16, 0, 1)", x.mid(16, 0, 1), BAD);
        due("mid(0, -1, 1)", x.mid(0, -1, 1), BAD);
        due("mid(0, 1, 13)", x.mid(0, 1, 13), BAD);
        due("mid(0, 1, -1)", x.mid(0, 1, -1), BAD);
    }

    private static void byLots() {
        promise(36);
        // From 1: 48271 (3), 182605794 (2), 1291394886 (2), 1914720637 (1), 2078669041 (1), 407355683 (3).
        CubeHops x = cube("lad");
        due("lots(3, 1)", x.lots(3, 1), 2);
        due("count(1)", x.count(1), 3);
        due("count(2)", x.count(2), 3);
        x = cube("lad");
        due("lots(4, 1)", x.lots(4, 1), 2);
        tells("aimed at f", x, x.message(0, 2), 1, 5);
        x = cube("lad");
        due("lots(6, 1)", x.lots(6, 1), 2);
        tells("aimed at d", x, x.message(0, 2), 1, 3);
        due("count(1)", x.count(1), 4);
        due("undo(3)", x.undo(3), 3);
        due("count(1)", x.count(1), 3);
        // Of two messages 1914720637 by 8, that is 239340079, takes the second one.
        x = cube("lad laf");
        x.lots(4, 1);
        tells("not this one", x, x.message(0, 2), 1, 3);
        tells("it has that", x, x.message(1, 2), 1, 5);
        due("it counts all the same", x.count(2), 4);
        // From 4: 193084 (0), which by 8 is 24135, or 7 modulo 32.
        due("lots(1, 4)", x.lots(1, 4), x.count(3));
        due("snapped", x.link(7), 1);
        x.lots(1, 4);
        due("mended", x.link(7), 0);
        due("lots(0, 1)", x.lots(0, 1), BAD);
        due("lots(21, 1)", x.lots(21, 1), BAD);
        due("lots(1, 0)", x.lots(1, 0), BAD);
        due("lots(1, -5)", x.lots(1, -5), BAD);
        due("lots(1, MOST)", x.lots(1, MOST), BAD);
        due("lots of none", new CubeHops().lots(1, 1), STATE);
        due("lots(0, 1) of none", new CubeHops().lots(0, 1), BAD);
        x.lots(20, MOST - 1);
        due("count(2)", x.count(2), 26);
        long digest = x.digest();
        due("15 more", x.lots(15, 1), FULL);
        due("digest", x.digest(), digest);
        due("14 more", x.lots(14, 1), x.count(3));
        due("count(2)", x.count(2), 40);
        due("one more", x.lots(1, 1), FULL);
    }

    private static void told() {
        promise(37);
        CubeHops x = new CubeHops();
        due("asked()", x.asked(), 0);
        x.row(0, 2);
        x.lay(0, 0, 6);
        tells("at(0, 0)", x, x.at(0, 0), 1, 6);
        due("at(0, 2)", x.at(0, 2), FINDING);
        due("asked() stays", x.asked(), 6);
        x.text(0, 3);
        x.put(0, 0, 'l');
        x.put(0, 1, 'a');
        x.put(0, 2, 'b');
        x.cube(0);
        x.far(0, 15);
        x.snap(0);
        x.all();
        x.odds(0, 1, 2);
        x.arrives(0);
        x.tight(3);
        x.hurts();
        x.count(2);
        x.digest();
        x.goals(0, 0);
        due("asked() stays", x.asked(), 6);

        promise(38);
        x = new CubeHops();
        due("upper()", x.upper(), 0);
        x.mid(0, 3, 1);
        due("upper()", x.upper(), 11);
        x.mid(0, 3, 13);
        due("upper() stays", x.upper(), 11);

        promise(39);
        due("lower() stays", x.lower(), 6);
        due("lower()", new CubeHops().lower(), 1);

        promise(40);
        x = cube("lab hcc pdd zae dap sbb sab", 9, 31);
        x.step();
        x.row(1, 1);
        x.text(3, 0);
        x.keep(0);
        // Messages 4 and 6 wait for 0, as it takes link 0.
        int[] counts = {7, 1, 3, 2, 2, 0b0101111, 1, 2, 1, 2, 3};
        for (int what = 0; what <= 10; what++) {
            due("count(" + what + ")", x.count(what), counts[what]);
        }
        due("count(11)", x.count(11), BAD);
        due("count(-1)", x.count(-1), BAD);

        promise(41);
        x = new CubeHops();
        due("finding()", x.finding(), 0);
        x.tear(0);
        due("finding()", x.finding(), NOTHING);
        x.row(0, 0);
        x.tear(9);
        due("finding() stays", x.finding(), NOTHING);
        x.mean(0);
        due("finding()", x.finding(), NOUGHT);

        promise(42);
        x.mean(0);
        x.at(0, 0);
        x.row(0, -4);
        due("findings(0)", x.findings(0), BAD);
        due("findings(6)", x.findings(6), BAD);
        due("findings(LEAST)", x.findings(LEAST), BAD);
        int[] found = {1, 1, 0, 2, 1};
        for (int f = 1; f <= 5; f++) {
            due("findings(" + f + ")", x.findings(f), found[f - 1]);
        }
        digests();
    }

    private static void digests() {
        promise(43);
        long h = more(17, new int[11 + 32]);
        due("of a new object", new CubeHops().digest(), more(h, -1, -1, -1, -1, -1, -1, -1, -1, -1, -1, -1, -1, -1));
        CubeHops x = cube("laf zcc", 31);
        x.step();
        x.step();
        x.keep(1);
        sights(x, 5, 7, -8);
        x.put(0, 3, 255);
        x.message(0, 0);
        h = more(17, 2, 2, 3, 2, 1, 3, 1, 1, 1, 0, 0);
        h = more(h, 0, 5, 5, NONE, 0, 2);
        h = more(h, 2, 2, 2, NONE, 0, NONE);
        h = more(more(h, new int[31]), 1);
        h = more(h, -1, 3, -1);
        h = more(h, -1, -1, -1, -1, -1, 2, 7, -8);
        h = more(h, 7, 'l', 'a', 'f', -1, 'z', 'c', 'c', -1, -1, -1);
        due("digest", x.digest(), h);
        due("asked() stays", x.asked(), 0);
    }
}
