/** Promises 37 to 43: images, sheets, what is counted. */
public final class SheetsTest {
    private static final Due due = new Due();

    public static void main(String[] args) {
        images();
        imagesApart();
        sheet();
        lay();
        lanes();
        read();
        readFaults();
        readRefused();
        count();
        due.close("SheetsTest");
    }

    private static void images() {
        NoonCity x = Towns.of("city 5;left 0 1;left 1 0;sign 3;hour 9;walker 0 left llr;walker 1 right l;gloves 1 2 3 4;");
        x.see(0, 3, 4, true);
        due.is("back(0)", x.back(0), -2);
        due.is("keep(0)", x.keep(0), 0);
        x.go(3);
        x.street(0, 0, 4);
        x.sign(3, false);
        x.keeps(0, true);
        x.adds(1, 1);
        x.put(1, 4);
        x.buy(2, 9);
        x.forget(0);
        x.see(1, 2, 2, false);
        x.sheet(0, 1, 7);
        Towns.feed(x, "hour");
        due.is("CLASHES", x.rule(4), 1);
        due.is("back(0)", x.back(0), 9);
        int[] rules = {5, 9, 2, 8, 0, 0};
        for (int i = 0; i < rules.length; i++) {
            due.is("rule(" + i + ")", x.rule(i), rules[i]);
        }
        int[] counts = {2, 1, 1, 4, 7, 4, 2};
        for (int i = 0; i < counts.length; i++) {
            due.is("count(" + i + ")", x.count(i), counts[i]);
        }
        due.is("a street", x.corner(0, 0), 1);
        due.is("whether he KEEPS his side", x.walker(0, 2), 0);
        due.is("letters left", x.walker(0, 3), 3);
        due.is("a ROUTE", x.letter(1, 1), -1);
        due.is("a CORNER", x.walker(1, 0), 1);
        due.is("GLOVES", x.gloves(2), 10);
        due.is("what was SEEN", x.fits(0, 0), 1 << 4);
        due.is("of the other one nothing", x.fits(1, 0), 31);
        due.is("keep(0) once more", x.keep(0), 1);
    }

    private static void imagesApart() {
        NoonCity x = new NoonCity();
        x.clock(20);
        x.go(60);
        due.is("keep(1)", x.keep(1), 0);
        x.clock(1);
        due.is("keep(0)", x.keep(0), 0);
        due.is("count(2)", x.count(2), 2);
        due.is("back(1), HOUR as it went on", x.back(1), 80);
        due.is("rule(1)", x.rule(1), 80);
        due.is("back(0)", x.back(0), 1);
        x.clock(2);
        due.is("an IMAGE stays as it was", x.back(0), 1);
        Towns.tell(x, "left 0 1;left 1 2;left 2 3;walker 0 left lll;");
        x.see(0, 2, 3, true);
        x.keep(0);
        x.forget(0);
        x.see(0, 1, 3, true);
        due.is("SEEN behind an hour", x.fits(0, 0), 0b1100);
        x.back(0);
        due.is("SEEN behind two hours", x.fits(0, 0), 0b1110);
        due.is("keep(2)", x.keep(2), -1);
        due.is("keep(-1)", x.keep(-1), -1);
        due.is("back(2)", x.back(2), -1);
        due.is("back(-1)", x.back(-1), -1);
        x.text();
        due.is("a text: IMAGES are gone", x.count(2), 0);
        due.is("back(0)", x.back(0), -2);
        due.is("back(1)", x.back(1), -2);
    }

    private static void sheet() {
        NoonCity x = new NoonCity();
        due.is("sheet(0, 0, 0)", x.sheet(0, 0, 0), 1);
        due.is("count(4)", x.count(4), 0);
        due.is("sheet(0, 2, 40)", x.sheet(0, 2, 40), 1);
        due.is("count(4)", x.count(4), 40);
        due.is("sheet(0, 2, 41)", x.sheet(0, 2, 41), -1);
        due.is("sheet(0, 2, -1)", x.sheet(0, 2, -1), -14);
        due.is("SIZE", x.sheet(3, 0, Integer.MIN_VALUE), -14);
        due.is("count(4)", x.count(4), 40);
        due.is("sheet(4, 0, -1)", x.sheet(4, 0, -1), -1);
        due.is("sheet(-1, 0, 1)", x.sheet(-1, 0, 1), -1);
        due.is("sheet(0, 3, -1)", x.sheet(0, 3, -1), -1);
        due.is("sheet(0, -1, 1)", x.sheet(0, -1, 1), -1);
        due.is("torn()", x.torn(), 0);
    }

    private static void lay() {
        NoonCity x = new NoonCity();
        due.is("NULL", x.lay(3, 0, 0), -11);
        due.is("NULL ahead of INDEX", x.lay(3, -1, 0), -11);
        x.sheet(3, 0, 2);
        due.is("lay(3, 1, 5)", x.lay(3, 1, 5), 1);
        due.is("lay(3, 0, 5)", x.lay(3, 0, 5), 1);
        due.is("INDEX", x.lay(3, 2, 5), -12);
        due.is("INDEX", x.lay(3, -1, 5), -12);
        due.is("INDEX", x.lay(3, Integer.MAX_VALUE, 5), -12);
        due.is("lay(4, 0, 0)", x.lay(4, 0, 0), -1);
        due.is("lay(-1, 0, 0)", x.lay(-1, 0, 0), -1);
        x.sheet(2, 1, 0);
        due.is("no CELLS", x.lay(2, 0, 0), -12);
        due.is("torn()", x.torn(), 0);
    }

    private static int readOf(NoonCity x, int lane, int v) {
        x.put(0, 0);
        x.sheet(1, lane, 2);
        x.lay(1, 1, v);
        return x.read(1, lane, 0, 1);
    }

    private static void lanes() {
        NoonCity x = Towns.of("walker 0 left l;");
        int[][] lanes = {{0, 8}, {1, 16}, {2, 31}};
        for (int[] lane : lanes) {
            int over = 1 << lane[1];
            due.is("as it is, lane " + lane[0], readOf(x, lane[0], 3), 1);
            due.is("walker(0, 0)", x.walker(0, 0), 3);
            due.is("lowest bits, lane " + lane[0], readOf(x, lane[0], over + 2), lane[0] < 2 ? 1 : -20);
            due.is("walker(0, 0)", x.walker(0, 0), lane[0] < 2 ? 2 : 0);
            due.is("with a sign, lane " + lane[0], readOf(x, lane[0], -1), -20);
            due.is("with a sign, lane " + lane[0], readOf(x, lane[0], over - 1), -20);
        }
        due.is("a short is no byte", readOf(x, 1, 256 + 1), -20);
        due.is("an int is no short", readOf(x, 2, 65536 + 1), -20);
        x.lay(1, 1, 2);
        due.is("a new row", x.sheet(1, 2, 2), 1);
        due.is("of CELLS 0", x.read(1, 2, 0, 1), 1);
        due.is("walker(0, 0)", x.walker(0, 0), 0);
    }

    private static NoonCity withSheet(int... cells) {
        NoonCity x = Towns.of("walker 0 left l;walker 0 left l;");
        x.sheet(2, 1, cells.length);
        for (int i = 0; i < cells.length; i++) {
            x.lay(2, i, cells[i]);
        }
        return x;
    }

    private static void read() {
        NoonCity x = withSheet(0, 1, 1, 2, 0, 3, 9);
        due.is("read(2, 1, 0, 2)", x.read(2, 1, 0, 2), 2);
        due.is("walker(0, 0)", x.walker(0, 0), 1);
        due.is("walker(1, 0)", x.walker(1, 0), 2);
        due.is("one behind another", x.read(2, 1, 0, 3), 3);
        due.is("walker(0, 0)", x.walker(0, 0), 3);
        due.is("from CELL 2 on", x.read(2, 1, 2, 1), 1);
        due.is("from CELL 1 on", x.read(2, 1, 1, 1), 1);
        due.is("walker(1, 0)", x.walker(1, 0), 1);
        due.is("torn()", x.torn(), 0);
        due.is("read(4, 1, 0, 0)", x.read(4, 1, 0, 0), -1);
        due.is("read(-1, 1, 0, 0)", x.read(-1, 1, 0, 0), -1);
        due.is("read(2, 3, 0, 0)", x.read(2, 3, 0, 0), -1);
        due.is("read(2, -1, 0, 0)", x.read(2, -1, 0, 0), -1);
        due.is("read(2, 1, 0, 21)", x.read(2, 1, 0, 21), -1);
        due.is("read(2, 1, 0, -1)", x.read(2, 1, 0, -1), -1);
        NoonCity y = withSheet();
        y.sheet(0, 2, 40);
        due.is("the most", y.read(0, 2, 0, 20), 20);
        due.is("torn()", y.torn(), 0);
        due.is("the most, from CELL 1 on", y.read(0, 2, 1, 20), 19);
        due.is("torn()", y.torn(), 2);
    }

    private static void readFaults() {
        NoonCity x = withSheet(0, 1, 1, 2, 0);
        due.is("the third is torn", x.read(2, 1, 0, 3), 2);
        due.is("INDEX", x.torn(), 2);
        due.is("those that were whole come", x.walker(1, 0), 2);
        due.is("another lane", x.read(2, 0, 0, 1), 0);
        due.is("CAST", x.torn(), 3);
        due.is("another lane", x.read(2, 2, 0, 1), 0);
        due.is("CAST ahead of INDEX", x.read(2, 2, 99, 1), 0);
        due.is("CAST", x.torn(), 3);
        due.is("nothing", x.read(0, 1, -1, 1), 0);
        due.is("NULL", x.torn(), 1);
        int[] beyond = {-1, -2, 4, 5, 40, Integer.MAX_VALUE, Integer.MAX_VALUE - 1, Integer.MIN_VALUE};
        for (int f : beyond) {
            x.read(0, 1, 0, 1);
            due.is("from " + f, x.read(2, 1, f, 20), 0);
            due.is("INDEX", x.torn(), 2);
        }
        due.is("of n 0", x.read(0, 1, -1, 0), 0);
        due.is("no FAULT", x.torn(), 0);
        x.read(2, 0, 0, 1);
        due.is("of n 0, another lane", x.read(2, 0, 0, 0), 0);
        due.is("no FAULT", x.torn(), 0);
        x.sheet(0, 1, 0);
        due.is("no CELLS", x.read(0, 1, 0, 1), 0);
        due.is("INDEX", x.torn(), 2);
    }

    private static void readRefused() {
        NoonCity x = withSheet(0, 1, 1, 4, 2, 0, 0);
        x.read(0, 0, 0, 1);
        due.is("no such CORNER", x.read(2, 1, 0, 2), -21);
        due.is("then none came", x.walker(0, 0), 0);
        due.is("the FAULT is left", x.torn(), 1);
        due.is("no such WALKER", x.read(2, 1, 4, 1), -20);
        due.is("the first met", x.read(2, 1, 2, 2), -20);
        due.is("ahead of the FAULT", x.read(2, 1, 0, 20), -21);
        due.is("the FAULT is left", x.torn(), 1);
        due.is("the FAULT is left by BAD", x.read(2, 1, 0, 21), -1);
        due.is("torn()", x.torn(), 1);
        due.is("one that is not read", x.read(2, 1, 0, 1), 1);
        due.is("torn()", x.torn(), 0);
        due.is("the last CELL", x.read(2, 1, 5, 1), 1);
    }

    private static void count() {
        NoonCity x = Towns.of("city 5;left 0 1;right 0 1;right 4 4;walker 0 left ll;walker 3 left lrl;keeper 3 left l;");
        int[] counts = {3, 0, 0, 0, -4, 6, 2};
        for (int i = 0; i < counts.length; i++) {
            due.is("count(" + i + ")", x.count(i), counts[i]);
        }
        x.go(1);
        x.keep(1);
        x.see(0, 0, 0, true);
        x.feed(32);
        x.sheet(0, 0, 6);
        x.sheet(1, 0, 5);
        x.street(1, 0, 0);
        x.put(2, 4);
        int[] later = {4, 1, 1, 1, 6, 3, 3};
        for (int i = 0; i < later.length; i++) {
            due.is("count(" + i + ")", x.count(i), later[i]);
        }
        due.is("count(7)", x.count(7), -1);
        due.is("count(-1)", x.count(-1), -1);
    }
}
