/** How calls are refused: in which order, and that nothing changes by it. */
final class BoundaryRefusals extends Sentences {
    /** Calls that are refused by BAD in each state, with other reasons beside it as often as there are. */
    private static final String[] ALWAYS_BAD = {"row(6, -1)", "row(-1, 0)", "row(0, 41)", "lay(6, -1, 0)", "at(-1, 99)",
        "tear(6)", "copy(6, 0, 0, 0, -1)", "copy(0, 0, -1, 0, -1)", "mean(6)", "text(4, -1)", "text(0, 61)",
        "put(4, -1, 0)", "fault(4)", "cube(-1)", "message(7, 0)", "message(0, 6)", "mark(7, 1)", "mark(0, 0)",
        "mark(0, 6)", "link(32)", "snap(32)", "snap(-1)", "mend(32)", "mend(-1)", "aim(7, 0)", "aim(0, 16)", "aim(-1, -1)",
        "undo(41)", "undo(-1)", "keep(3)", "keep(-1)", "on(3)", "on(-1)", "later(7, 0)", "later(0, 61)", "later(0, -1)",
        "arrives(7)", "arrives(-1)", "tight(0)", "tight(41)", "far(16, 0)", "far(0, -1)", "reach(16)", "parts(3, 3)",
        "parts(16, 0)", "goals(7, 5)", "goals(0, 6)", "kinds(7, 5)", "kinds(0, -1)", "test(7, 5)", "test(0, 6)",
        "duel(4, 4, 1)", "duel(0, 1, 4)", "duel(0, 16, -1)", "odds(0, 1, 13)", "odds(-1, 1, 0)", "mid(0, 1, -1)",
        "mid(0, 16, 0)", "lots(0, 1)", "lots(21, 1)", "lots(1, 0)", "lots(20, MOST)", "count(11)", "count(-1)",
        "findings(0)", "findings(6)"};

    static void test() {
        constants();
        findings();
        withoutMessages();
        withMessages();
        whenFull();
    }

    private static void constants() {
        by(TERMS, "Refused is, the first of these that fits, in this order: BAD -1 (a number that is none, or not as told),"
                + " FULL -2, STATE -4 (not now), SPENT -6 (more than told), FINDING -3 (finding() tells which), unless a call"
                + " says so otherwise. NONE -9.");
        int[] got = {CubeHops.BAD, CubeHops.FULL, CubeHops.STATE, CubeHops.SPENT, CubeHops.FINDING, CubeHops.NONE};
        int[] want = {-1, -2, -4, -6, -3, -9};
        for (int k = 0; k < want.length; k++) {
            due("constant " + k, got[k], want[k]);
        }
    }

    private static void findings() {
        CubeHops x = cube("lab");
        x.row(0, 2);
        x.row(1, 0);
        by(TERMS, "1 NOTHING (a ROW, a TEXT, a kept CUBE that is missing),");
        finds(x, 1, "at(5, 0)", "fault(3)", "on(2)");
        by(TERMS, "2 BEYOND (a place that there is not),");
        finds(x, 2, "at(0, 2)", "put(0, 3, 0)", "copy(0, 0, 1, 0, 1)");
        by(TERMS, "3 UNLIKE (a MESSAGE of another KIND; a number that is none),");
        x.lay(0, 1, 16);
        finds(x, 3, "mark(0, 1)", "goals(0, 0)", "kinds(0, 0)", "test(0, 0)");
        by(TERMS, "4 NOUGHT (shared among none),");
        finds(x, 4, "mean(1)");
        by(TERMS, "5 SIZE (fewer than none; not as many as due).");
        finds(x, 5, "row(0, -1)", "text(0, -1)", "copy(0, 0, 0, 0, -1)", "goals(0, 1)", "kinds(0, 1)", "test(0, 1)");
    }

    private static void changesNothing() {
        by(TERMS, "What is refused changes nothing but finding(), findings().");
    }

    private static void withoutMessages() {
        changesNothing();
        CubeHops x = new CubeHops();
        x.row(0, 2);
        x.lay(0, 0, 5);
        x.mid(0, 7, 1);
        x.at(0, 0);
        refuses(x, BAD, ALWAYS_BAD);
        refuses(x, BAD, "message(0, 0)", "mark(0, 1)", "aim(0, 0)", "later(0, 0)", "arrives(0)", "goals(0, 0)", "kinds(0, 0)",
                "test(0, 0)", "undo(1)");
        refuses(x, STATE, "step()", "snap(0)", "mend(0)", "keep(0)", "all()", "tight(1)", "hurts()", "lots(1, 1)");
        finds(x, NOTHING, "on(0)", "cube(0)", "fault(0)", "tear(1)");
        looks(x, "count(6)", 1);
    }

    /** Rows, texts, deeds of each sort, two kept cubes, a fraction and a number that were told. */
    private static CubeHops rich() {
        CubeHops x = cube("lap hap zcc dab sab", 0, 31);
        x.step();
        x.aim(2, 9);
        x.keep(0);
        x.lots(6, 99);
        x.keep(2);
        x.mend(31);
        x.step();
        sights(x, 0, 1, 2, 99);
        x.row(1, 0);
        x.row(2, 21);
        x.text(2, 7);
        x.odds(0, 3, 5);
        x.later(1, 2);
        return x;
    }

    /** What is kept, and what is behind each deed, can be seen by going there. */
    private static void sameBehind(CubeHops x, CubeHops twin) {
        for (int k : new int[] {-1, 0, 2}) {
            due("on(" + k + ") alike", x.on(k), twin.on(k));
            for (int n = twin.count(2); n >= 0; n--) {
                due("undo(" + n + ") alike", x.undo(n), twin.undo(n));
                due("digest() behind undo(" + n + "), " + k, x.digest(), twin.digest());
            }
        }
    }

    private static void withMessages() {
        changesNothing();
        CubeHops x = rich();
        refuses(x, BAD, ALWAYS_BAD);
        refuses(x, BAD, "undo(14)", "message(5, 0)", "aim(5, 0)", "later(5, 0)", "arrives(5)", "mark(5, 1)", "goals(5, 0)");
        refuses(x, STATE, "cube(2)", "snap(0)", "mend(31)", "aim(0, 15)");
        finds(x, NOTHING, "lay(4, 0, 1)", "at(4, 0)", "tear(4)", "copy(4, 0, 0, 0, 1)", "copy(0, 0, 4, 0, 1)", "mean(4)",
                "put(1, 0, 1)", "fault(1)", "cube(1)", "on(1)", "goals(0, 4)", "kinds(0, 4)", "test(0, 4)");
        finds(x, BEYOND, "lay(0, 3, 1)", "at(0, -1)", "copy(0, 1, 2, 0, 3)", "copy(2, 0, 0, 0, 4)", "put(2, 7, 1)");
        finds(x, UNLIKE, "mark(0, 1)", "mark(1, 4)", "goals(0, 0)", "kinds(0, 0)", "test(0, 0)");
        finds(x, NOUGHT, "mean(1)");
        finds(x, SIZE, "row(0, -1)", "text(2, -1)", "copy(0, 0, 2, 0, -1)", "goals(0, 1)", "kinds(0, 2)", "test(0, 1)");
        sameBehind(x, rich());
    }

    private static CubeHops full() {
        CubeHops x = rich();
        for (int k = x.count(2); k < 40; k++) {
            x.step();
        }
        return x;
    }

    private static void whenFull() {
        changesNothing();
        CubeHops x = full();
        looks(x, "count(2)", 40);
        refuses(x, BAD, ALWAYS_BAD);
        refuses(x, STATE, "cube(2)", "snap(0)", "mend(31)", "aim(0, 15)");
        refuses(x, FULL, "step()", "snap(31)", "mend(0)", "aim(0, 14)", "lots(1, 1)", "lots(20, 1)");
        sameBehind(x, full());
    }
}
