/** Promises 20 to 22: hours. */
public final class HoursTest {
    private static final Due due = new Due();

    public static void main(String[] args) {
        noon();
        clashes();
        bounds();
        ahead();
        firstClash();
        due.close("HoursTest");
    }

    private static void noon() {
        NoonCity x = Towns.of("city 5;left 0 1;right 0 2;left 1 3;right 1 4;hour 11;"
            + "walker 0 left ll;keeper 0 left ll;walker 0 left rl;walker 3 left lr;");
        due.is("no CLASH", x.go(1), 0);
        int[] first = {1, 1, 2, 3};
        for (int w = 0; w < 4; w++) {
            due.is("at noon, walker " + w, x.walker(w, 0), first[w]);
        }
        due.is("a letter is gone", x.walker(3, 3), 1);
        x.go(1);
        int[] second = {4, 3, 2, 3};
        for (int w = 0; w < 4; w++) {
            due.is("behind noon, walker " + w, x.walker(w, 0), second[w]);
            due.is("no letter, walker " + w, x.walker(w, 3), 0);
        }
        x.go(1);
        due.is("who has no letter stays", x.walker(0, 0), 4);
        due.is("HOUR", x.rule(1), 14);
        NoonCity y = Towns.of("left 0 1;right 0 2;sign 0;hour 20;walker 0 left l;");
        y.go(1);
        due.is("by a SIGN", y.walker(0, 0), 1);
    }

    private static void clashes() {
        NoonCity x = Towns.of("left 0 1;left 1 0;left 2 2;"
            + "walker 0 left lll;walker 0 left lrl;walker 1 left lll;walker 1 left lll;");
        due.is("each with each", x.go(1), 4);
        due.is("one stays", x.go(1), 2);
        due.is("one goes against three", x.go(1), 3);
        due.is("CLASHES so far", x.rule(4), 9);
        due.is("no letters", x.go(60), 0);
        NoonCity y = Towns.of("left 0 0;left 1 1;walker 0 left ll;walker 0 left ll;");
        due.is("round to where they were", y.go(2), 0);
        NoonCity z = Towns.of("left 0 1;left 1 2;walker 0 left l;walker 1 left l;");
        due.is("one behind the other", z.go(1), 0);
        NoonCity v = Towns.of("left 0 1;right 1 0;walker 0 left ll;walker 1 left rr;");
        due.is("by two streets", v.go(1), 1);
        NoonCity u = Towns.of("left 0 1;left 1 0;walker 0 left llrl;walker 1 left llrl;");
        due.is("in the first two hours and in the fourth", u.go(4), 3);
        due.is("CLASHES so far", u.rule(4), 3);
        u.again(0);
        u.again(1);
        due.is("in these hours alone, the last ones without any", u.go(60), 3);
        due.is("CLASHES so far", u.rule(4), 6);
    }

    private static void bounds() {
        NoonCity x = new NoonCity();
        due.is("go(-1)", x.go(-1), -1);
        due.is("go(61)", x.go(61), -1);
        due.is("go(0)", x.go(0), 0);
        for (int i = 0; i < 16; i++) {
            due.is("go(60)", x.go(60), 0);
        }
        due.is("go(40)", x.go(40), -3);
        due.is("go(60)", x.go(60), -3);
        due.is("go(61)", x.go(61), -1);
        due.is("go(39)", x.go(39), 0);
        due.is("HOUR", x.rule(1), 999);
        due.is("go(1)", x.go(1), -3);
        due.is("go(0)", x.go(0), 0);
        due.is("HOUR", x.rule(1), 999);
        due.is("back to a day", x.clock(0), 15);
        due.is("go(1)", x.go(1), 0);
    }

    private static void ahead() {
        NoonCity x = Towns.of("city 5;left 0 1;right 0 2;left 1 3;right 1 4;hour 11;walker 0 left lll;keeper 0 left ll;");
        int[] places = {0, 1, 4, 4, 4};
        int[] letters = {3, 2, 1, 0, 0};
        for (int n = 0; n < places.length; n++) {
            due.is("ahead(0, " + n + ", 0)", x.ahead(0, n, 0), places[n]);
            due.is("ahead(0, " + n + ", 1)", x.ahead(0, n, 1), letters[n]);
        }
        due.is("who KEEPS his side", x.ahead(1, 2, 0), 3);
        due.is("ahead(0, 60, 0)", x.ahead(0, 60, 0), 4);
        due.is("nothing is changed", x.walker(0, 0), 0);
        due.is("nothing is changed", x.rule(1), 11);
        due.is("ahead(0, 61, 0)", x.ahead(0, 61, 0), -1);
        due.is("ahead(0, -1, 0)", x.ahead(0, -1, 0), -1);
        due.is("ahead(2, 0, 0)", x.ahead(2, 0, 0), -1);
        due.is("ahead(-1, 0, 0)", x.ahead(-1, 0, 0), -1);
        due.is("ahead(0, 0, 2)", x.ahead(0, 0, 2), -1);
        due.is("ahead(0, 0, -1)", x.ahead(0, 0, -1), -1);
        for (int i = 0; i < 16; i++) {
            x.go(60);
        }
        x.again(0);
        x.put(0, 0);
        due.is("HOUR", x.rule(1), 971);
        due.is("beyond HOUR 999, over noon", x.ahead(0, 60, 0), 4);
    }

    private static void firstClash() {
        NoonCity x = Towns.of("city 3;left 0 1;left 1 0;right 0 0;right 1 1;"
            + "walker 0 left rrl;walker 1 left rrl;walker 1 left l;walker 2 left l;");
        due.is("clash(0, 1)", x.clash(0, 1), 3);
        due.is("clash(1, 0)", x.clash(1, 0), 3);
        due.is("clash(0, 2)", x.clash(0, 2), -4);
        due.is("clash(0, 3)", x.clash(0, 3), -4);
        due.is("alike", x.clash(0, 0), -1);
        due.is("clash(0, 4)", x.clash(0, 4), -1);
        due.is("clash(4, 0)", x.clash(4, 0), -1);
        due.is("clash(-1, 0)", x.clash(-1, 0), -1);
        due.is("clash(0, -1)", x.clash(0, -1), -1);
        due.is("nothing is changed", x.rule(4), 0);
        x.go(1);
        due.is("from now on", x.clash(0, 1), 2);
        x.clock(9);
        due.is("still before noon", x.clash(0, 1), 2);
        x.clock(11);
        due.is("over noon", x.clash(0, 1), -4);
        NoonCity z = Towns.of("left 0 1;left 1 2;right 2 1;left 3 2;walker 0 left ll;walker 3 left lr;walker 1 left l;"
            + "walker 2 left r;");
        due.is("on the way", z.clash(0, 1), 2);
        due.is("at once", z.clash(2, 3), 1);
        NoonCity y = Towns.of("left 0 1;left 1 0;walker 0 left rrrrrrrrrl;walker 1 left rrrrrrrrrl;");
        due.is("the 10th hour", y.clash(0, 1), 10);
        NoonCity v = Towns.of("left 0 1;right 1 0;hour 12;walker 0 left r;keeper 1 left r;");
        due.is("each by his own side", v.clash(0, 1), 1);
        due.is("each by his own side", v.clash(1, 0), 1);
        v.clock(11);
        due.is("before noon there is no street to the right", v.clash(0, 1), -4);
        v.clock(23);
        v.keeps(1, false);
        due.is("nor is there one behind it for who does not KEEP his side", v.clash(0, 1), -4);
        v.keeps(0, true);
        v.keeps(1, true);
        due.is("nor for the other one who KEEPS it", v.clash(1, 0), -4);
    }
}
