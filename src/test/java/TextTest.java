/** Promises 1 to 11: a new object, the tape, its text and faults, what is told of a city. */
public final class TextTest {
    private static final Due due = new Due();

    public static void main(String[] args) {
        newObject();
        tape();
        tokens();
        faultsOfTokens();
        faultsOfNumbers();
        faultsOfSecondTimes();
        faultsOfCorners();
        whatIsTakenAndWhatStays();
        whatIsAsked();
        hands();
        leads();
        due.close("TextTest");
    }

    private static void newObject() {
        NoonCity x = new NoonCity();
        int[] rules = {4, 0, 0, 0, 0, 0};
        for (int i = 0; i < rules.length; i++) {
            due.is("rule(" + i + ") of a new object", x.rule(i), rules[i]);
        }
        for (int c = 0; c < 4; c++) {
            due.is("no street to the left", x.corner(c, 0), -4);
            due.is("no street to the right", x.corner(c, 1), -4);
        }
        due.is("corner(4, 0)", x.corner(4, 0), -1);
        due.is("walker(0, 0)", x.walker(0, 0), -1);
        int[] counts = {0, 0, 0, 0, -4, 0, 0, -1};
        for (int i = 0; i < counts.length; i++) {
            due.is("count(" + i + ") of a new object", x.count(i), counts[i]);
        }
        due.is("gloves(2)", x.gloves(2), 0);
        due.is("fault()", x.fault(), 0);
        due.is("torn()", x.torn(), 0);
        for (int k = 0; k < 4; k++) {
            due.is("a sheet of nothing", x.lay(k, 0, 0), -11);
        }
        due.is("no image", x.back(0), -2);
    }

    private static void tape() {
        NoonCity x = new NoonCity();
        due.is("feed(-1)", x.feed(-1), -1);
        due.is("feed(128)", x.feed(128), -1);
        due.is("feed(0)", x.feed(0), 1);
        due.is("feed(127)", x.feed(127), 2);
        for (int i = 3; i <= 160; i++) {
            due.is("feed " + i, x.feed(32), i);
        }
        due.is("the 161st", x.feed(32), -3);
        due.is("the 161st, no byte", x.feed(128), -1);
        due.is("end(161)", x.end(161), -1);
        due.is("end(-1)", x.end(-1), -1);
        due.is("end(160)", x.end(160), 160);
        due.is("end(2)", x.end(2), 160);
        due.is("end(3)", x.end(3), -1);
        due.is("count(3)", x.count(3), 2);
        due.is("a byte 0 is no token", x.text(), -10);
        due.is("its fault", x.fault(), 1);
        due.is("the tape is empty by a fault, too", x.count(3), 0);
        due.is("end(0)", x.end(0), 0);
        Towns.feed(x, "hour 1;hour");
        due.is("end(7)", x.end(7), 11);
        due.is("what is kept is read", x.text(), 1);
        due.is("the tape is empty", x.count(3), 0);
        due.is("rule(1)", x.rule(1), 1);
        String whole = "sign 0;" + " ".repeat(146) + "hour 7;";
        due.is("a text of 160 bytes", Towns.tell(x, whole), 2);
        due.is("rule(1)", x.rule(1), 7);
    }

    private static void fails(String text, int fault, int place) {
        NoonCity x = new NoonCity();
        due.is("text() of '" + text + "'", Towns.tell(x, text), -10 - place);
        due.is("fault() of '" + text + "'", x.fault(), fault);
    }

    private static void holds(String text, int lines) {
        NoonCity x = new NoonCity();
        due.is("text() of '" + text + "'", Towns.tell(x, text), lines);
        due.is("fault() of '" + text + "'", x.fault(), 0);
    }

    private static void tokens() {
        holds("", 0);
        holds("   ", 0);
        holds("city4;", 1);
        holds("  city   04  ;  hour 00;", 2);
        holds("left0 1;right1 0;sign3;hour23;gloves1 2 3 4;", 5);
        holds("walker0left l;keeper 3right  rl ;", 2);
        holds("walker 0 left lrlrlrlrlr;", 1);
        holds("left 0 0;left 1 0;left 2 0;left 3 0;right 0 0;right 1 0;right 2 0;right 3 0;", 8);
        fails("city 4", 2, 6);
        fails("city 4;;", 2, 7);
        fails("walker 0 leftl;", 2, 9);
        fails("walker 0 left;", 2, 13);
        fails("walker 0 left 1;", 2, 14);
        fails("walker 0 0;", 2, 9);
        fails("leftright 0 1;", 2, 0);
        fails("hour 1 2;", 2, 7);
        fails("hour hour;", 2, 5);
        fails("hour;", 2, 4);
        holds("hour 1;  ", 1);
        fails("hour 1  ", 2, 8);
        fails("gloves 1 2 3;", 2, 12);
        fails("gloves 1 2 3 4 5;", 2, 15);
        fails("4;", 2, 0);
        fails("  cities 4;", 2, 2);
        fails("c", 2, 0);
        fails("az", 2, 0);
        fails("za", 2, 0);
        fails("bity 4;", 2, 0);
        fails("cit 4;", 2, 0);
        fails("glove 4;", 2, 0);
        fails("keepers 4;", 2, 0);
        fails("walker 0 middle l;", 2, 9);
        fails("walker 0 right", 2, 14);
        fails("hour 1;walk 0 left l;", 2, 7);
    }

    private static void faultsOfTokens() {
        fails("City 4;", 1, 0);
        fails("citY 4;", 2, 0);
        fails("city 4.", 1, 6);
        fails("city 004;", 1, 5);
        fails("100", 1, 0);
        fails("left 0 100;", 1, 7);
        fails("city\t4;", 1, 4);
        fails("city 4;\n", 1, 7);
        fails("`", 1, 0);
        fails("{", 1, 0);
        fails(" /", 1, 1);
        fails(" :", 1, 1);
        fails("walker 0 left lL;", 1, 15);
        fails("city 9?", 3, 5);
        fails("walker 0 ? left", 1, 9);
        fails("walker 0 left ? l", 1, 14);
        fails("walker 0 left l ? l", 1, 16);
        fails("walker ? l", 1, 7);
        fails("left 0 ? l", 1, 7);
        fails("sign ? l", 1, 5);
        fails("gloves 1 2 ? l", 1, 11);
        fails("hour ? l", 1, 5);
        fails("city ? l", 1, 5);
        fails("hour 1?", 1, 6);
    }

    private static void faultsOfNumbers() {
        fails("city 1;", 3, 5);
        fails("city 9;", 3, 5);
        holds("city 2;", 1);
        holds("city 8;", 1);
        fails("left 8 0;", 3, 5);
        fails("left 8 x;", 3, 5);
        fails("left 0 8 x;", 3, 7);
        fails("sign 8 x;", 3, 5);
        fails("city 9 x;", 3, 5);
        fails("hour 24 x;", 3, 5);
        fails("gloves 1 10 x;", 3, 9);
        fails("walker 8 x;", 3, 7);
        holds("left 7 7;right 7 7;sign 7;walker 7 left l;keeper 7 left l;city 8;", 6);
        fails("left 0 8;", 3, 7);
        fails("right 8 0;", 3, 6);
        fails("right 0 8;", 3, 8);
        fails("sign 8;", 3, 5);
        fails("hour 24;", 3, 5);
        holds("hour 23;", 1);
        fails("walker 8 left l;", 3, 7);
        fails("keeper 8 left l;", 3, 7);
        fails("gloves 10 0 0 0;", 3, 7);
        fails("gloves 9 10 0 0;", 3, 9);
        fails("gloves 9 9 10 0;", 3, 11);
        fails("gloves 9 9 9 10;", 3, 13);
        holds("gloves 9 9 9 9;", 1);
        fails("walker 0 left lrlrlrlrlrl;", 3, 14);
        fails("walker 0 left lrx;", 3, 14);
        fails("keeper 0 left a;", 3, 14);
        fails("walker 0 left left;", 3, 14);
    }

    private static void faultsOfSecondTimes() {
        fails("city 4;city 4;", 4, 7);
        fails("hour 4;hour 4;", 4, 7);
        fails("hour 4;hour;", 4, 7);
        fails("gloves 1 1 1 1; gloves 1 1 1 1;", 4, 16);
        fails("city 4;city x;", 4, 7);
        fails("hour 4;hour x;", 4, 7);
        fails("gloves 1 1 1 1;gloves x;", 4, 15);
        fails("sign 3;sign 3 x;", 4, 12);
        fails("left 0 1;left 0 x;", 4, 14);
        fails("left 0 1;left 0 1;", 4, 14);
        fails("left 0 1;left 1 1;left 1 8;", 4, 23);
        fails("right 3 1;right 3 1;", 4, 16);
        fails("sign 3;sign 3;", 4, 12);
        fails("sign 3;sign 8;", 3, 12);
        holds("left 0 1;right 0 1;sign 0;", 3);
        fails("walker0left l;walker0left l;keeper0left l;walker0left l;walker0left l;", 5, 56);
        fails("walker0left l;walker0left l;keeper0left l;walker0left l; keeper", 5, 57);
        holds("walker0left l;walker0left l;keeper0left l;walker0left l;", 4);
    }

    private static void faultsOfCorners() {
        fails("left 4 0;", 6, 9);
        fails("left 0 4;", 6, 9);
        fails("right 4 0;", 6, 10);
        fails("right 0 4;  ", 6, 12);
        fails("sign 4;", 6, 7);
        fails("walker 4 left l;", 6, 16);
        fails("keeper 4 left l;", 6, 16);
        fails("walker 7 left l;city 7;", 6, 23);
        holds("walker 7 left l;city 8;", 2);
        holds("left 4 5;right 5 4;sign 4;walker 5 left l;city 6;", 5);
        fails("city 2;left 2 0;", 6, 16);
        fails("sign 7;hour 24;", 3, 12);
    }

    private static void whatIsTakenAndWhatStays() {
        NoonCity x = Towns.of("city 5;left 0 4;right 4 0;sign 3;hour 13;walker 4 right lr;gloves 1 2 3 4;");
        x.see(0, 1, 2, true);
        x.keep(1);
        x.sheet(0, 0, 3);
        due.is("a text with a fault", Towns.tell(x, "city 3;left 0 1;sign 3"), -32);
        due.is("what was told stays: CORNERS", x.rule(0), 5);
        due.is("streets", x.corner(0, 0), 4);
        due.is("SIGNS", x.rule(3), 8);
        due.is("HOUR", x.rule(1), 13);
        due.is("SEEN", x.count(1), 1);
        due.is("IMAGES", x.count(2), 1);
        due.is("GLOVES", x.gloves(2), 10);
        due.is("fault()", x.fault(), 2);
        x.go(0);
        due.is("a text that is taken", Towns.tell(x, "right 2 2;"), 1);
        due.is("fault()", x.fault(), 0);
        due.is("CORNERS as at first", x.rule(0), 4);
        due.is("HOUR as at first", x.rule(1), 0);
        due.is("nobody", x.rule(2), 0);
        due.is("no SIGN", x.rule(3), 0);
        due.is("streets: what is told alone", x.count(0), 1);
        due.is("the one told", x.corner(2, 1), 2);
        due.is("nothing SEEN", x.count(1), 0);
        due.is("no IMAGE", x.count(2), 0);
        due.is("no IMAGE", x.back(1), -2);
        due.is("no GLOVES", x.gloves(2), 0);
        due.is("SHEETS stay", x.count(4), 3);
        Towns.tell(x, "walker 0 right rrrr;keeper 1 right r;");
        x.go(2);
        Towns.tell(x, "keeper 0 left ll;walker 2 left l;");
        int[][] walkers = {{0, 0, 1, 2}, {2, 0, 0, 1}};
        for (int i = 0; i < 8; i++) {
            due.is("walkers in place of walkers", x.walker(i / 4, i % 4), walkers[i / 4][i % 4]);
        }
        due.is("another ROUTE", x.letter(0, 0), 0);
        due.is("a shorter one", x.letter(0, 2), -1);
        NoonCity y = Towns.of("city 2;left 0 1;left 1 0;walker 0 left l;walker 1 left l;");
        y.go(1);
        due.is("a CLASH", y.rule(4), 1);
        due.is("an empty text tells all", y.text(), 0);
        due.is("CLASHES as at first", y.rule(4), 0);
        due.is("nobody", y.walker(0, 0), -1);
    }

    private static void whatIsAsked() {
        NoonCity x = Towns.of("city 3;left 0 1;right 0 2;right 2 2;sign 0;sign 2;hour 11;"
            + "walker 1 left lrr;keeper 2 right r;gloves 1 2 3 5;");
        int[] morning = {3, 11, 2, 5, 0, 0};
        for (int i = 0; i < morning.length; i++) {
            due.is("rule(" + i + ")", x.rule(i), morning[i]);
        }
        due.is("rule(6)", x.rule(6), -1);
        due.is("rule(-1)", x.rule(-1), -1);
        due.is("corner(0, 0)", x.corner(0, 0), 1);
        due.is("corner(0, 1)", x.corner(0, 1), 2);
        due.is("corner(1, 0)", x.corner(1, 0), -4);
        due.is("corner(2, 1)", x.corner(2, 1), 2);
        due.is("corner(3, 0)", x.corner(3, 0), -1);
        due.is("corner(-1, 0)", x.corner(-1, 0), -1);
        due.is("corner(0, 2)", x.corner(0, 2), -1);
        due.is("corner(0, -1)", x.corner(0, -1), -1);
        int[] first = {1, 0, 0, 3};
        int[] second = {2, 1, 1, 1};
        for (int i = 0; i < 4; i++) {
            due.is("walker(0, " + i + ")", x.walker(0, i), first[i]);
            due.is("walker(1, " + i + ")", x.walker(1, i), second[i]);
        }
        due.is("walker(2, 0)", x.walker(2, 0), -1);
        due.is("walker(-1, 0)", x.walker(-1, 0), -1);
        due.is("walker(0, 4)", x.walker(0, 4), -1);
        due.is("walker(0, -1)", x.walker(0, -1), -1);
        int[] letters = {0, 1, 1, -1};
        for (int i = 0; i < letters.length; i++) {
            due.is("letter(0, " + i + ")", x.letter(0, i), letters[i]);
        }
        due.is("letter(0, -1)", x.letter(0, -1), -1);
        due.is("letter(2, 0)", x.letter(2, 0), -1);
        due.is("letter(1, 1)", x.letter(1, 1), -1);
        x.go(2);
        due.is("a letter that is gone", x.letter(0, 0), 0);
        due.is("letters left", x.walker(0, 3), 1);
        due.is("none left", x.walker(1, 3), 0);
        due.is("a ROUTE that is gone", x.letter(1, 0), 1);
    }

    private static void hands() {
        NoonCity x = Towns.of("hour 11;walker 0 left l;keeper 0 right l;gloves 1 2 3 5;");
        due.is("gloves(0) before noon", x.gloves(0), 4);
        due.is("gloves(1) before noon", x.gloves(1), 7);
        due.is("gloves(2)", x.gloves(2), 11);
        due.is("gloves(3)", x.gloves(3), -1);
        due.is("gloves(-1)", x.gloves(-1), -1);
        for (int h = 0; h < 24; h++) {
            x.clock(h);
            boolean turned = h >= 12;
            due.is("turned at " + h, x.rule(5), turned ? 1 : 0);
            due.is("a HAND at " + h, x.walker(0, 1), turned ? 1 : 0);
            due.is("a HAND of one who KEEPS his side at " + h, x.walker(1, 1), 1);
            due.is("gloves(0) at " + h, x.gloves(0), turned ? 5 : 4);
            due.is("gloves(1) at " + h, x.gloves(1), turned ? 6 : 7);
            due.is("gloves(2) at " + h, x.gloves(2), 11);
        }
        x.go(1);
        due.is("HOUR goes on", x.rule(1), 24);
        due.is("24 is midnight again", x.rule(5), 0);
        due.is("his HAND", x.walker(0, 1), 0);
        x.go(12);
        due.is("turned at 36", x.rule(5), 1);
    }

    private static void leads() {
        NoonCity x = Towns.of("left 0 1;right 0 2;left 1 3;sign 1;left 2 0;");
        int[] hours = {0, 11, 12, 23};
        for (int h : hours) {
            boolean turned = h >= 12;
            due.is("leads(0, 0, " + h + ")", x.leads(0, 0, h), turned ? 2 : 1);
            due.is("leads(0, 1, " + h + ")", x.leads(0, 1, h), turned ? 1 : 2);
            due.is("by a SIGN at " + h, x.leads(1, 0, h), 3);
            due.is("by a SIGN, no street at " + h, x.leads(1, 1, h), -4);
            due.is("leads(2, 0, " + h + ")", x.leads(2, 0, h), turned ? -4 : 0);
            due.is("leads(2, 1, " + h + ")", x.leads(2, 1, h), turned ? 0 : -4);
        }
        x.clock(13);
        due.is("the hour asked, not the HOUR", x.leads(0, 0, 11), 1);
        due.is("leads(4, 0, 0)", x.leads(4, 0, 0), -1);
        due.is("leads(-1, 0, 0)", x.leads(-1, 0, 0), -1);
        due.is("leads(0, 2, 0)", x.leads(0, 2, 0), -1);
        due.is("leads(0, -1, 0)", x.leads(0, -1, 0), -1);
        due.is("leads(0, 0, 24)", x.leads(0, 0, 24), -1);
        due.is("leads(0, 0, -1)", x.leads(0, 0, -1), -1);
    }
}
