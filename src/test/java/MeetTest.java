/** Promises 28 to 31: who meets. */
public final class MeetTest {
    private static final Due due = new Due();

    public static void main(String[] args) {
        meet();
        shake();
        pairs();
        needs();
        due.close("MeetTest");
    }

    private static void meet() {
        NoonCity x = Towns.of("city 8;left 0 1;right 0 3;left 1 2;left 4 3;right 4 2;left 5 5;"
            + "walker 0 left l;keeper 4 left l;walker 5 left l;walker 4 left l;");
        due.is("meet(0, 1, 0)", x.meet(0, 1, 0), 1);
        due.is("meet(0, 1, 1)", x.meet(0, 1, 1), 3);
        due.is("meet(1, 0, 1)", x.meet(1, 0, 1), 3);
        due.is("never", x.meet(0, 2, 0), -4);
        due.is("never", x.meet(0, 2, 1), -4);
        due.is("now", x.meet(1, 3, 0), 0);
        due.is("now", x.meet(1, 3, 1), 4);
        x.street(0, 1, -4);
        due.is("one stays for the other", x.meet(0, 1, 0), 2);
        due.is("one stays for the other", x.meet(0, 1, 1), 2);
        x.clock(12);
        due.is("at noon alike", x.meet(0, 1, 0), 2);
        x.street(1, 1, 3);
        due.is("the least such CORNER", x.meet(0, 1, 1), 2);
        x.street(0, 1, 5);
        x.street(5, 0, 3);
        due.is("at 3 or at 5", x.meet(0, 2, 1), 5);
        due.is("nothing is changed", x.walker(0, 0), 0);
        NoonCity y = Towns.of("left 1 0;left 2 0;right 2 3;right 1 3;walker 1 left l;walker 2 left l;");
        due.is("the least of 0 and 3", y.meet(0, 1, 1), 0);
        due.is("behind an hour", y.meet(1, 0, 0), 1);
        int[][] wrong = {{0, 0, 0}, {4, 0, 0}, {0, 4, 0}, {-1, 0, 0}, {0, -1, 0}, {0, 1, 2}, {0, 1, -1}};
        for (int[] w : wrong) {
            due.is("meet", x.meet(w[0], w[1], w[2]), -1);
        }
    }

    private static void shake() {
        NoonCity x = Towns.of("hour 13;walker 0 left l;walker 1 right l;keeper 0 left l;keeper 0 right l;");
        due.is("shake(0, 1)", x.shake(0, 1), -4);
        due.is("shake(0, 2)", x.shake(0, 2), 0);
        due.is("shake(0, 3)", x.shake(0, 3), 12);
        due.is("shake(1, 2)", x.shake(1, 2), 12);
        due.is("shake(1, 3)", x.shake(1, 3), 0);
        due.is("shake(2, 3)", x.shake(2, 3), -4);
        due.is("shake(3, 0)", x.shake(3, 0), 12);
        due.is("alike", x.shake(0, 0), -1);
        due.is("shake(4, 0)", x.shake(4, 0), -1);
        due.is("shake(0, 4)", x.shake(0, 4), -1);
        due.is("shake(-1, 0)", x.shake(-1, 0), -1);
        due.is("shake(0, -1)", x.shake(0, -1), -1);
    }

    private static void pairs() {
        NoonCity x = Towns.of("walker 0 left l;walker 1 right l;keeper 0 left l;keeper 0 left l;");
        due.is("three left ones, a right one", x.pairs(0), 1);
        due.is("at 11", x.pairs(11), 1);
        due.is("all left ones behind noon but one", x.pairs(12), 1);
        x.keeps(1, true);
        due.is("a right one turned, a right one, two left ones", x.pairs(12), 2);
        due.is("at 23", x.pairs(23), 2);
        due.is("before noon", x.pairs(0), 1);
        due.is("pairs(24)", x.pairs(24), -1);
        due.is("pairs(-1)", x.pairs(-1), -1);
        NoonCity y = Towns.of("walker 0 left l;walker 1 left l;walker 0 left l;walker 0 left l;");
        due.is("all alike", y.pairs(17), 2);
        due.is("nobody", new NoonCity().pairs(0), 0);
    }

    private static void needs(NoonCity x, int l, int r, int many, int least) {
        due.is("needs(" + l + ", " + r + ", 0)", x.needs(l, r, 0), many);
        due.is("needs(" + l + ", " + r + ", 1)", x.needs(l, r, 1), least);
    }

    private static void needs() {
        NoonCity x = new NoonCity();
        needs(x, 0, 0, 0, 0);
        needs(x, 1, 0, 1, 10);
        needs(x, 0, 1, 1, 1);
        needs(x, 1, 1, 2, 11);
        needs(x, 9, 9, 18, 99);
        needs(x, 3, 5, 8, 35);
        x.buy(0, 3);
        needs(x, 1, 1, 1, 100);
        needs(x, 0, 2, 2, 2);
        needs(x, 3, 3, 3, 300);
        needs(x, 4, 4, 5, 311);
        needs(x, 4, 2, 4, 220);
        x.clock(14);
        needs(x, 3, 3, 3, 300);
        x.buy(2, 9);
        needs(x, 9, 0, 0, 0);
        needs(x, 9, 9, 9, 9);
        x.buy(3, 9);
        needs(x, 9, 9, 0, 0);
        NoonCity z = Towns.of("gloves 0 9 0 0;");
        needs(z, 1, 1, 1, 1000);
        needs(z, 3, 9, 9, 3006);
        needs(z, 9, 9, 9, 9000);
        needs(z, 0, 9, 9, 9);
        NoonCity y = Towns.of("gloves 9 9 0 0;");
        needs(y, 9, 9, 0, 0);
        y.buy(1, 0);
        needs(y, 9, 9, 9, 900);
        needs(y, 9, 0, 9, 90);
        due.is("nothing is bought", y.gloves(2), 9);
        int[][] wrong = {{10, 0, 0}, {-1, 0, 0}, {0, 10, 0}, {0, -1, 0}, {0, 0, 2}, {0, 0, -1}};
        for (int[] w : wrong) {
            due.is("needs", y.needs(w[0], w[1], w[2]), -1);
        }
    }
}
