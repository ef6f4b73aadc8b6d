/** Promises 32 to 36: odds, who began where, drifting by a seed. */
public final class OddsTest {
    private static final Due due = new Due();

    public static void main(String[] args) {
        luck();
        luckOverNoon();
        see();
        fits();
        fitsLater();
        drift();
        due.close("OddsTest");
    }

    private static void luck(NoonCity x, int w, int v, int c, long top, long bottom) {
        String call = "luck(" + w + ", " + v + ", " + c + ", ";
        due.is(call + "0)", x.luck(w, v, c, 0), top);
        due.is(call + "1)", x.luck(w, v, c, 1), bottom);
    }

    private static void luck() {
        NoonCity x = Towns.of("city 4;left 0 1;right 0 2;left 1 3;right 2 3;walker 0 left ll;walker 2 left l;");
        luck(x, 0, 0, 3, 1, 1);
        luck(x, 0, 0, 0, 0, 1);
        luck(x, 0, 10, 3, 1, 1);
        luck(x, 0, 2, 3, 17, 25);
        luck(x, 0, 2, 1, 4, 25);
        luck(x, 0, 2, 2, 4, 25);
        luck(x, 0, 5, 1, 1, 4);
        luck(x, 1, 3, 2, 7, 10);
        luck(x, 1, 3, 3, 3, 10);
        luck(x, 1, 3, 0, 0, 1);
        due.is("nothing is changed", x.walker(0, 3), 2);
        x.go(2);
        luck(x, 0, 7, 3, 1, 1);
        luck(x, 0, 7, 0, 0, 1);
        int[][] wrong = {{2, 0, 0, 0}, {-1, 0, 0, 0}, {0, 11, 0, 0}, {0, -1, 0, 0}, {0, 0, 4, 0}, {0, 0, -1, 0},
            {0, 0, 0, 2}, {0, 0, 0, -1}};
        for (int[] w : wrong) {
            due.is("luck", x.luck(w[0], w[1], w[2], w[3]), -1);
        }
        NoonCity z = Towns.of("left 0 1;right 0 2;left 1 3;right 1 0;left 2 0;right 2 2;walker 0 left rlr;");
        luck(z, 0, 0, 2, 1, 1);
        luck(z, 0, 2, 2, (512 + 128 + 32) / 8, 125);
        z.go(1);
        luck(z, 0, 1, 2, (81 + 9) / 10, 10);
        luck(z, 0, 1, 1, 9, 100);
        NoonCity y = Towns.of("left 0 0;right 0 1;walker 0 left llllllllll;");
        luck(y, 0, 1, 0, 3486784401L, 10000000000L);
        luck(y, 0, 1, 1, 6513215599L, 10000000000L);
        luck(y, 0, 9, 0, 1, 10000000000L);
    }

    private static void luckOverNoon() {
        NoonCity x = Towns.of("hour 11;left 0 1;right 0 2;left 1 3;right 1 0;walker 0 left ll;keeper 0 left ll;");
        luck(x, 0, 0, 0, 1, 1);
        luck(x, 1, 0, 3, 1, 1);
        luck(x, 0, 1, 0, 81, 100);
        luck(x, 0, 1, 3, 9, 100);
        luck(x, 0, 1, 2, 1, 10);
        x.sign(1, true);
        luck(x, 0, 1, 3, 81, 100);
        x.go(1);
        luck(x, 0, 1, 3, 9, 10);
    }

    private static void see() {
        NoonCity x = Towns.of("walker 0 left l;");
        for (int i = 1; i <= 8; i++) {
            due.is("see", x.see(0, i, 3, true), i);
        }
        due.is("the 9th", x.see(0, 0, 0, true), -3);
        due.is("the 9th, of nobody", x.see(1, 0, 0, true), -1);
        due.is("count(1)", x.count(1), 8);
        due.is("forget(9)", x.forget(9), -1);
        due.is("forget(-1)", x.forget(-1), -1);
        due.is("forget(8)", x.forget(8), 8);
        due.is("forget(2)", x.forget(2), 8);
        due.is("forget(3)", x.forget(3), -1);
        due.is("count(1)", x.count(1), 2);
        due.is("see", x.see(0, 10, 0, false), 3);
        due.is("forget(0)", x.forget(0), 3);
        due.is("forget(0)", x.forget(0), 0);
        int[][] wrong = {{1, 0, 0}, {-1, 0, 0}, {0, 11, 0}, {0, -1, 0}, {0, 0, 4}, {0, 0, -1}};
        for (int[] w : wrong) {
            due.is("see", x.see(w[0], w[1], w[2], true), -1);
        }
        due.is("count(1)", x.count(1), 0);
    }

    private static void fits() {
        NoonCity x = Towns.of("city 4;hour 11;left 0 1;right 0 2;left 1 3;right 1 2;left 2 0;"
            + "walker 3 left ll;keeper 0 left r;");
        due.is("nothing SEEN", x.fits(0, 0), 15);
        due.is("nothing SEEN", x.fits(0, 1), 15);
        x.see(0, 2, 2, true);
        due.is("over noon: 0 by 1", x.fits(0, 0), 0b0101);
        due.is("who KEEPS his side: none", x.fits(0, 1), 0);
        due.is("of the other one nothing is SEEN", x.fits(1, 0), 15);
        x.see(0, 1, 1, false);
        due.is("but not by 1", x.fits(0, 0), 0b0100);
        x.forget(0);
        x.see(0, 10, 3, true);
        due.is("he stays where he has no letters", x.fits(0, 1), 0b1011);
        due.is("behind noon", x.fits(0, 0), 0b1010);
        x.see(1, 0, 2, false);
        due.is("now", x.fits(1, 0), 0b1011);
        due.is("where he is does not matter", x.put(0, 2), 3);
        due.is("nor whether he KEEPS his side", x.keeps(0, true), 0);
        due.is("fits(0, 0)", x.fits(0, 0), 0b1010);
        due.is("nothing is changed", x.walker(0, 0), 2);
        int[][] wrong = {{2, 0}, {-1, 0}, {0, 2}, {0, -1}};
        for (int[] w : wrong) {
            due.is("fits", x.fits(w[0], w[1]), -1);
        }
    }

    private static void fitsLater() {
        NoonCity x = Towns.of("city 4;left 0 1;left 1 2;left 2 3;walker 0 left lll;");
        x.see(0, 1, 2, true);
        due.is("from 1", x.fits(0, 0), 0b0010);
        x.go(1);
        due.is("what goes on does not make n less", x.fits(0, 0), 0b0010);
        x.go(2);
        due.is("no letter is left", x.fits(0, 0), 0b0100);
        x.again(0);
        x.clock(12);
        due.is("behind noon no street to the left leads", x.fits(0, 0), 0b0100);
        due.is("who KEEPS his side", x.fits(0, 1), 0b0010);
    }

    /** By hand: seed 1 gives 16838 (2: stays), 5758 (1: right), 10113 (0: left), 17515 (1), 31051 (1), 5627 (2). */
    private static void drift() {
        NoonCity x = Towns.of("city 4;left 0 1;right 0 2;right 1 0;left 2 3;walker 0 left lll;walker 0 left r;");
        due.is("one stays, one to the right", x.drift(1, 1, 1), 0b0101);
        due.is("drift(1, 1, 0)", x.drift(1, 1, 0), 0);
        due.is("0 to 1, 2 stays", x.drift(1, 2, 1), 0b0110);
        due.is("1 to 0, 2 stays", x.drift(1, 3, 1), 0b0101);
        due.is("nothing is changed", x.walker(1, 0), 0);
        due.is("nothing is changed", x.rule(1), 0);
        x.clock(12);
        due.is("behind noon", x.drift(1, 1, 1), 0b0011);
        x.keeps(1, true);
        due.is("who KEEPS his side", x.drift(1, 1, 1), 0b0101);
        x.keeps(1, false);
        x.sign(0, true);
        due.is("by a SIGN", x.drift(1, 1, 1), 0b0101);
        due.is("drift(1, 0, 0)", x.drift(1, 0, 0), -1);
        due.is("drift(1, -1, 0)", x.drift(1, -1, 0), -1);
        due.is("drift(1, 61, 0)", x.drift(1, 61, 0), -1);
        due.is("drift(1, 1, 2)", x.drift(1, 1, 2), -1);
        due.is("drift(1, 1, -1)", x.drift(1, 1, -1), -1);
        due.is("nobody", new NoonCity().drift(-5, 60, 1), 0);
        NoonCity y = Towns.of("city 2;left 0 1;right 0 1;left 1 0;right 1 0;walker 0 left l;walker 1 left l;");
        due.is("first, 0 stays", y.drift(1, 1, 0), 0);
        due.is("then 0 to 1, 0 to 1", y.drift(1, 2, 1), 2);
        due.is("then 1 to 0, 1 stays", y.drift(1, 3, 1), 3);
        y.go(1);
        due.is("CLASHES so far do not count", y.drift(1, 1, 0), 0);
        due.is("CLASHES so far", y.rule(4), 1);
        due.is("seed 1103527590, as 1 becomes", y.drift(1103527590, 1, 0), 1);
        due.is("both go once more", y.drift(1103527590, 2, 0), 2);
        due.is("then one stays: CLASHES of all hours", y.drift(1103527590, 3, 0), 2);
        due.is("nothing is changed", y.rule(4), 1);
    }
}
