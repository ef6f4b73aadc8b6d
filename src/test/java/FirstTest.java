/** Where more than one answer could be meant: the first that fits, BAD ahead of STATE, FULL, NONE and the rest. */
public final class FirstTest {
    private static final Due due = new Due();

    public static void main(String[] args) {
        badAheadOfFull();
        badAheadOfState();
        badAheadOfNone();
        badAheadOfFaults();
        faultsByOrder();
        firstOfMany();
        due.close("FirstTest");
    }

    private static void badAheadOfFull() {
        NoonCity x = Towns.of("walker 0 left llllllllll;" + " ".repeat(135));
        for (int i = 0; i < 160; i++) {
            x.feed(32);
        }
        due.is("feed(-1) to 160 bytes", x.feed(-1), -1);
        due.is("feed(128) to 160 bytes", x.feed(128), -1);
        due.is("feed(0) to 160 bytes", x.feed(0), -3);
        due.is("feed(127) to 160 bytes", x.feed(127), -3);
        due.is("adds(0, 2) to 10 letters", x.adds(0, 2), -1);
        due.is("adds(1, 0) to 10 letters", x.adds(1, 0), -1);
        due.is("adds(0, 0) to 10 letters", x.adds(0, 0), -3);
        due.is("adds(0, 1) to 10 letters", x.adds(0, 1), -3);
        for (int i = 0; i < 16; i++) {
            x.go(60);
        }
        due.is("go(61) from 960", x.go(61), -1);
        due.is("go(60) from 960", x.go(60), -3);
        due.is("go(40) from 960", x.go(40), -3);
        due.is("go(39) from 960", x.go(39), 0);
        due.is("go(-1) from 999", x.go(-1), -1);
        due.is("go(61) from 999", x.go(61), -1);
        due.is("go(1) from 999", x.go(1), -3);
        due.is("go(0) from 999", x.go(0), 0);
        for (int i = 1; i <= 8; i++) {
            due.is("see()", x.see(0, 10, 3, true), i);
        }
        due.is("see(0, 11, 3) of the 9th", x.see(0, 11, 3, true), -1);
        due.is("see(0, -1, 3) of the 9th", x.see(0, -1, 3, true), -1);
        due.is("see(0, 0, 4) of the 9th", x.see(0, 0, 4, true), -1);
        due.is("see(1, 0, 0) of the 9th", x.see(1, 0, 0, true), -1);
        due.is("see(0, 0, 0) of the 9th", x.see(0, 0, 0, true), -3);
        due.is("forget(9)", x.forget(9), -1);
    }

    private static void badAheadOfState() {
        NoonCity x = new NoonCity();
        due.is("back(2)", x.back(2), -1);
        due.is("back(-1)", x.back(-1), -1);
        due.is("back(32)", x.back(32), -1);
        due.is("back(0)", x.back(0), -2);
        due.is("back(1)", x.back(1), -2);
    }

    /** No street, nobody who meets or clashes: a number that is not as told is BAD yet. */
    private static void badAheadOfNone() {
        NoonCity x = Towns.of("walker 0 left l;walker 1 right l;");
        due.is("corner(0, 2)", x.corner(0, 2), -1);
        due.is("corner(0, 1)", x.corner(0, 1), -4);
        due.is("leads(0, 1, 24)", x.leads(0, 1, 24), -1);
        due.is("leads(0, 2, 23)", x.leads(0, 2, 23), -1);
        due.is("leads(0, 1, 23)", x.leads(0, 1, 23), -4);
        due.is("clash(0, 2)", x.clash(0, 2), -1);
        due.is("clash(1, 1)", x.clash(1, 1), -1);
        due.is("clash(0, 1)", x.clash(0, 1), -4);
        int[] bad = {-1, 1, 9, 34};
        int[] none = {0, 10, 33};
        for (int what : bad) {
            due.is("way(0, 1, 0, " + what + ")", x.way(0, 1, 0, what), -1);
            due.is("both(0, 1, 0, " + what + ")", x.both(0, 1, 0, what), -1);
            due.is("way(0, 0, 0, " + what + ")", x.way(0, 0, 0, what), -1);
            due.is("both(0, 0, 0, " + what + ")", x.both(0, 0, 0, what), -1);
        }
        for (int what : none) {
            due.is("way(0, 1, 0, " + what + ")", x.way(0, 1, 0, what), -4);
            due.is("both(0, 1, 0, " + what + ")", x.both(0, 1, 0, what), -4);
            due.is("way(0, 1, 24, " + what + ")", x.way(0, 1, 24, what), -1);
            due.is("both(0, 4, 0, " + what + ")", x.both(0, 4, 0, what), -1);
            due.is("way(0, 0, 0, " + what + ")", x.way(0, 0, 0, what), what == 0 ? 0 : -4);
            due.is("both(0, 0, 0, " + what + ")", x.both(0, 0, 0, what), what == 0 ? 0 : -4);
        }
        due.is("when(0, 1, 2)", x.when(0, 1, 2), -1);
        due.is("when(0, 1, 1)", x.when(0, 1, 1), -4);
        due.is("signs(0, 1, 25)", x.signs(0, 1, 25), -1);
        due.is("signs(0, 1, 0)", x.signs(0, 1, 0), -1);
        due.is("signs(0, 1, 24)", x.signs(0, 1, 24), -4);
        due.is("signs(0, 0, 0)", x.signs(0, 0, 0), -1);
        due.is("meet(0, 1, 2)", x.meet(0, 1, 2), -1);
        due.is("meet(0, 0, 0)", x.meet(0, 0, 0), -1);
        due.is("meet(0, 1, 0)", x.meet(0, 1, 0), -4);
        due.is("meet(0, 1, 1)", x.meet(0, 1, 1), -4);
        due.is("shake(0, 2)", x.shake(0, 2), -1);
        due.is("shake(1, 1)", x.shake(1, 1), -1);
        due.is("shake(0, 1)", x.shake(0, 1), -4);
        due.is("street(0, 0, -5)", x.street(0, 0, -5), -1);
        due.is("street(4, 0, -4)", x.street(4, 0, -4), -1);
        due.is("street(0, 2, -4)", x.street(0, 2, -4), -1);
        due.is("street(0, 0, -4)", x.street(0, 0, -4), -4);
    }

    private static void badAheadOfFaults() {
        NoonCity x = new NoonCity();
        due.is("sheet(4, 0, -1)", x.sheet(4, 0, -1), -1);
        due.is("sheet(0, 3, -1)", x.sheet(0, 3, -1), -1);
        due.is("sheet(0, 0, 41)", x.sheet(0, 0, 41), -1);
        due.is("sheet(0, 0, -1)", x.sheet(0, 0, -1), -14);
        due.is("lay(4, -1, 0)", x.lay(4, -1, 0), -1);
        due.is("lay(-1, 0, 0)", x.lay(-1, 0, 0), -1);
        due.is("read(4, 0, 0, 0)", x.read(4, 0, 0, 0), -1);
        due.is("read(0, 3, 0, 0)", x.read(0, 3, 0, 0), -1);
        due.is("read(0, 0, 0, 21)", x.read(0, 0, 0, 21), -1);
        due.is("read(0, 0, 0, -1)", x.read(0, 0, 0, -1), -1);
        due.is("torn()", x.torn(), 0);
    }

    private static void reads(NoonCity x, int lane, int f, int n, int answer, int fault) {
        String call = "read(0, " + lane + ", " + f + ", " + n + ")";
        due.is(call, x.read(0, lane, f, n), answer);
        due.is("torn() behind " + call, x.torn(), fault);
    }

    /** NULL, then CAST, then INDEX, as the machine finds them; a pair that put() refuses where it is met. */
    private static void faultsByOrder() {
        NoonCity x = Towns.of("walker 0 left l;");
        due.is("lay() of nothing, below 0", x.lay(0, -1, 0), -11);
        due.is("lay() of nothing", x.lay(0, 40, 0), -11);
        reads(x, 1, -1, 1, 0, 1);
        reads(x, 1, -1, 0, 0, 0);
        x.sheet(0, 0, 0);
        due.is("lay() of no CELLS", x.lay(0, 0, 0), -12);
        reads(x, 1, -1, 1, 0, 3);
        reads(x, 1, -1, 0, 0, 0);
        reads(x, 0, 0, 1, 0, 2);
        reads(x, 0, 0, 0, 0, 0);
        x.sheet(0, 0, 5);
        x.lay(0, 2, 1);
        x.lay(0, 3, 4);
        reads(x, 2, 2, 1, 0, 3);
        reads(x, 0, 4, 1, 0, 2);
        reads(x, 0, 2, 1, -20, 2);
        reads(x, 0, 2, 2, -20, 2);
        reads(x, 0, 0, 1, 1, 0);
        reads(x, 0, 0, 2, -21, 0);
        reads(x, 0, 0, 20, -21, 0);
        x.lay(0, 2, 0);
        x.lay(0, 3, 3);
        reads(x, 0, 0, 20, 2, 2);
        x.lay(0, 0, 1);
        reads(x, 0, 0, 20, -20, 2);
        reads(x, 0, 2, 20, 1, 2);
        x.lay(0, 3, 4);
        reads(x, 0, 0, 2, -20, 2);
    }

    /** The first HOUR, the least CORNER, the first word, the least number: where others would do as well. */
    private static void firstOfMany() {
        NoonCity x = Towns.of("city 8;left 1 7;right 1 5;left 2 5;right 2 7;left 0 1;right 0 1;left 5 6;right 7 6;"
            + "walker 1 left l;keeper 2 left l;walker 2 right l;");
        due.is("the least CORNER of 5 and 7", x.meet(0, 1, 1), 5);
        due.is("the least CORNER of 5 and 7", x.meet(1, 0, 1), 5);
        due.is("the first HOUR", x.shake(0, 1), 0);
        due.is("in no HOUR", x.shake(0, 2), -4);
        due.is("the first HOUR behind noon", x.shake(1, 2), 12);
        due.is("the first of l and r", x.way(0, 1, 23, 10), 0);
        due.is("the first of ll, lr and rr", x.way(0, 6, 0, 11), 0);
        due.is("its last letter", x.way(0, 6, 0, 12), 1);
        due.is("the first of two words for both", x.both(0, 1, 0, 10), 0);
        due.is("the first HOUR of all", x.when(0, 6, 0), 0);
        due.is("the least set of SIGNS", x.signs(0, 6, 3), 0);
        due.is("left KEPT or left and right", x.needs(1, 1, 1), 11);
    }
}
