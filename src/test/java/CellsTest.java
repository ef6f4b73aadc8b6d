/** SHEETS: every size, every CELL, every first CELL and number of pairs, every lane, ints that are cut. */
public final class CellsTest {
    private static final Due due = new Due();

    public static void main(String[] args) {
        for (int k = 0; k < 4; k++) {
            for (int lane = 0; lane < 3; lane++) {
                sizes(k, lane);
                lanes(k, lane);
                cuts(k, lane);
            }
            newRow(k);
        }
        int[] some = {0, 1, 2, 3, 4, 5, 39, 40};
        for (int size : some) {
            pairs(size);
        }
        order();
        refusals();
        tornStays();
        due.close("CellsTest");
    }

    private static void sizes(int k, int lane) {
        for (int n = 0; n <= 40; n++) {
            NoonCity x = Towns.of("walker 0 left l;");
            String of = " of SHEET " + k + " of " + n;
            due.is("count(4)", x.count(4), -4);
            due.is("NULL" + of, x.lay(k, 0, 0), -11);
            due.is("sheet()" + of, x.sheet(k, lane, n), 1);
            due.is("count(4)" + of, x.count(4), k == 0 ? n : -4);
            if (n > 0) {
                due.is("the first CELL" + of, x.lay(k, 0, 0), 1);
                due.is("the last CELL" + of, x.lay(k, n - 1, 0), 1);
            }
            due.is("the CELL behind" + of, x.lay(k, n, 0), -12);
            due.is("the CELL ahead" + of, x.lay(k, -1, 0), -12);
            due.is("all pairs" + of, x.read(k, lane, 0, n / 2), n / 2);
            due.is("no FAULT" + of, x.torn(), 0);
            due.is("from CELL 1" + of, x.read(k, lane, 1, 20), Math.max(0, (n - 1) / 2));
            due.is("INDEX" + of, x.torn(), 2);
            due.is("the first pair behind all" + of, x.read(k, lane, n - 1, 1), 0);
            due.is("INDEX" + of, x.torn(), 2);
        }
        NoonCity x = new NoonCity();
        due.is("41 CELLS", x.sheet(k, lane, 41), -1);
        due.is("-1 CELLS", x.sheet(k, lane, -1), -14);
        due.is("the most", x.sheet(k, lane, Integer.MAX_VALUE), -1);
        due.is("the least", x.sheet(k, lane, Integer.MIN_VALUE), -14);
        due.is("nothing yet", x.lay(k, 0, 0), -11);
    }

    private static void lanes(int k, int lane) {
        NoonCity x = Towns.of("walker 0 left l;");
        for (int as = 0; as < 3; as++) {
            due.is("nothing as of " + as, x.read(k, as, 0, 1), 0);
            due.is("NULL", x.torn(), 1);
            due.is("nothing as of " + as + ", none", x.read(k, as, 0, 0), 0);
            due.is("no FAULT", x.torn(), 0);
        }
        x.sheet(k, lane, 4);
        for (int as = 0; as < 3; as++) {
            due.is(lane + " as of " + as, x.read(k, as, 0, 2), as == lane ? 2 : 0);
            due.is("its FAULT", x.torn(), as == lane ? 0 : 3);
            due.is(lane + " as of " + as + ", beyond", x.read(k, as, 9, 1), 0);
            due.is("its FAULT", x.torn(), as == lane ? 2 : 3);
            due.is(lane + " as of " + as + ", none", x.read(k, as, 9, 0), 0);
            due.is("no FAULT", x.torn(), 0);
        }
    }

    /** The corner that comes of a value, -1 if put() refuses it. */
    private static int cornerOf(int k, int lane, int v) {
        NoonCity x = Towns.of("city 8;walker 0 left l;");
        x.sheet(k, lane, 2);
        due.is("lay(" + k + ", 1, " + v + ")", x.lay(k, 1, v), 1);
        int came = x.read(k, lane, 0, 1);
        due.holds("read() of " + v, came == 1 || came == -20);
        return came == 1 ? x.walker(0, 0) : -1;
    }

    private static void cuts(int k, int lane) {
        int[] bits = {8, 16, 32};
        for (int c = -2; c <= 9; c++) {
            int want = c >= 0 && c < 8 ? c : -1;
            for (int bit = 4; bit < 32; bit++) {
                boolean cut = bit >= bits[lane];
                due.is("lane " + lane + ", " + c + " and bit " + bit, cornerOf(k, lane, c + (1 << bit)), cut ? want : -1);
                due.is("lane " + lane + ", " + c + " less bit " + bit, cornerOf(k, lane, c - (1 << bit)), cut ? want : -1);
            }
            due.is("lane " + lane + ", " + c, cornerOf(k, lane, c), want);
        }
        due.is("the most", cornerOf(k, lane, Integer.MAX_VALUE), -1);
        due.is("the least", cornerOf(k, lane, Integer.MIN_VALUE), lane == 2 ? -1 : 0);
        due.is("the least byte", cornerOf(k, lane, -128), -1);
        due.is("the most of a byte", cornerOf(k, lane, 127), -1);
        due.is("the least short", cornerOf(k, lane, -32768), lane == 0 ? 0 : -1);
    }

    private static void newRow(int k) {
        NoonCity x = Towns.of("city 8;walker 0 left l;");
        for (int lane = 0; lane < 3; lane++) {
            x.sheet(k, lane, 40);
            for (int i = 0; i < 40; i++) {
                due.is("lay()", x.lay(k, i, i % 2 == 0 ? 0 : 7), 1);
            }
            due.is("read()", x.read(k, lane, 38, 1), 1);
            due.is("where he came", x.walker(0, 0), 7);
            due.is("a new row of its size", x.sheet(k, lane, 40), 1);
            for (int f = 0; f < 40; f += 2) {
                x.put(0, 3);
                due.is("read() of it", x.read(k, lane, f, 1), 1);
                due.is("a CELL 0", x.walker(0, 0), 0);
            }
        }
    }

    private static void pairs(int size) {
        for (int f = -3; f <= size + 2; f++) {
            NoonCity x = Towns.of("walker 0 left l;");
            x.sheet(2, 1, size);
            for (int n = 0; n <= 20; n++) {
                int whole = f < 0 ? 0 : Math.max(0, (size - f) / 2);
                String call = "read(2, 1, " + f + ", " + n + ") of " + size;
                due.is(call, x.read(2, 1, f, n), Math.min(n, whole));
                due.is("torn() behind " + call, x.torn(), n <= whole ? 0 : 2);
            }
            int[] far = {Integer.MIN_VALUE, Integer.MIN_VALUE + 1, -40, 1 << 30, Integer.MAX_VALUE - 2,
                Integer.MAX_VALUE - 1, Integer.MAX_VALUE};
            for (int from : far) {
                due.is("read(2, 1, " + from + ", 20)", x.read(2, 1, from, 20), 0);
                due.is("torn()", x.torn(), 2);
            }
        }
    }

    private static NoonCity withCells(int... cells) {
        NoonCity x = Towns.of("city 8;walker 0 left l;walker 0 left l;walker 0 left l;walker 0 left l;");
        x.sheet(3, 0, cells.length);
        for (int i = 0; i < cells.length; i++) {
            x.lay(3, i, cells[i]);
        }
        return x;
    }

    private static void places(NoonCity x, int... want) {
        for (int w = 0; w < 4; w++) {
            due.is("WALKER " + w, x.walker(w, 0), want[w]);
        }
    }

    /** Those that are asked come, each by its two CELLS, and no others. */
    private static void order() {
        int[] cells = {3, 1, 2, 3, 1, 5, 0, 7};
        int[][] want = {{0, 0, 0, 1}, {0, 0, 3, 0}, {0, 5, 0, 0}, {7, 0, 0, 0}};
        for (int i = 0; i < 4; i++) {
            NoonCity x = withCells(cells);
            due.is("pair " + i, x.read(3, 0, 2 * i, 1), 1);
            places(x, want[i]);
        }
        NoonCity x = withCells(cells);
        due.is("two of them", x.read(3, 0, 2, 2), 2);
        places(x, 0, 5, 3, 0);
        due.is("all, and torn", x.read(3, 0, 0, 5), 4);
        due.is("INDEX", x.torn(), 2);
        places(x, 7, 5, 3, 1);
        NoonCity y = withCells(1, 4, 1, 6, 1, 2);
        due.is("one behind another", y.read(3, 0, 0, 2), 2);
        places(y, 0, 6, 0, 0);
        due.is("one behind another", y.read(3, 0, 0, 3), 3);
        places(y, 0, 2, 0, 0);
        NoonCity z = withCells(1, 4, 2, 6, 3);
        due.is("half a pair", z.read(3, 0, 0, 3), 2);
        due.is("INDEX", z.torn(), 2);
        places(z, 0, 4, 6, 0);
        due.is("not of the lane", z.read(3, 1, 0, 3), 0);
        due.is("CAST", z.torn(), 3);
        places(z, 0, 4, 6, 0);
    }

    private static void refusals() {
        for (int i = 0; i < 20; i++) {
            for (int part = 0; part < 2; part++) {
                int[] cells = new int[40];
                cells[2 * i + part] = part == 0 ? 4 : 8;
                cells[1] += i == 0 ? 0 : 5;
                NoonCity x = withCells(cells);
                due.is("refused at " + i, x.read(3, 0, 0, 20), -20 - i);
                places(x, 0, 0, 0, 0);
                due.is("refused at " + i + " as the last", x.read(3, 0, 0, i + 1), -20 - i);
                places(x, 0, 0, 0, 0);
                due.is("read from there", x.read(3, 0, 2 * i, 20), -20);
                due.is("not read", x.read(3, 0, 0, i), i);
                places(x, i == 1 ? 5 : 0, 0, 0, 0);
            }
        }
        NoonCity x = withCells(0, 1, 9, 9, 0, 2, -1, 0);
        due.is("the first of two", x.read(3, 0, 0, 4), -21);
        due.is("the second of two", x.read(3, 0, 4, 2), -21);
        due.is("both numbers", x.read(3, 0, 2, 1), -20);
        places(x, 0, 0, 0, 0);
    }

    /** torn() is of the latest read() that answered 0 or more, whatever comes behind it. */
    private static void tornStays() {
        NoonCity x = withCells(0, 1, 0, 8, 0);
        for (int fault = 0; fault < 4; fault++) {
            switch (fault) {
                case 0: x.read(3, 0, 0, 1); break;
                case 1: x.read(0, 0, 0, 1); break;
                case 2: x.read(3, 0, 4, 1); break;
                default: x.read(3, 2, 0, 1);
            }
            due.is("torn()", x.torn(), fault);
            due.is("refused", x.read(3, 0, 0, 2), -21);
            due.is("torn() behind one that is refused", x.torn(), fault);
            due.is("BAD", x.read(3, 0, 0, 21), -1);
            due.is("BAD", x.read(4, 0, 0, 0), -1);
            due.is("BAD", x.read(3, 3, 0, 0), -1);
            due.is("torn() behind BAD", x.torn(), fault);
            due.is("lay() beyond", x.lay(3, 5, 0), -12);
            due.is("lay() of nothing", x.lay(0, 5, 0), -11);
            due.is("sheet() below 0", x.sheet(3, 0, -1), -14);
            due.is("sheet()", x.sheet(1, 0, 4), 1);
            due.is("torn() behind those", x.torn(), fault);
            x.keep(0);
            x.back(0);
            due.is("torn() behind an IMAGE", x.torn(), fault);
            due.is("a text", Towns.tell(x, "city 8;walker 0 left l;"), 2);
            due.is("torn() behind a text", x.torn(), fault);
        }
    }
}
