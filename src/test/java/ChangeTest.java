/** Promises 12 to 19: what is changed. */
public final class ChangeTest {
    private static final Due due = new Due();

    public static void main(String[] args) {
        streets();
        signs();
        clock();
        put();
        keeps();
        routes();
        gloves();
        due.close("ChangeTest");
    }

    private static void streets() {
        NoonCity x = Towns.of("city 3;hour 12;");
        due.is("there was none", x.street(0, 0, 1), -4);
        due.is("it went to 1", x.street(0, 0, 2), 1);
        due.is("the street to the LEFT, as it is before noon", x.corner(0, 0), 2);
        due.is("the other one", x.corner(0, 1), -4);
        due.is("to itself", x.street(2, 1, 2), -4);
        due.is("away", x.street(0, 0, -4), 2);
        due.is("away", x.street(0, 0, -4), -4);
        due.is("count(0)", x.count(0), 1);
        due.is("no such CORNER", x.street(3, 0, 1), -1);
        due.is("no such CORNER", x.street(-1, 0, 1), -1);
        due.is("no such side", x.street(0, 2, 1), -1);
        due.is("no such side", x.street(0, -1, 1), -1);
        int[] wrong = {3, 8, -1, -2, -3, -5};
        for (int to : wrong) {
            due.is("to " + to, x.street(2, 1, to), -1);
        }
        due.is("what is refused changes nothing", x.corner(2, 1), 2);
    }

    private static void signs() {
        NoonCity x = Towns.of("city 5;left 4 0;");
        due.is("it had none", x.sign(4, true), 0);
        due.is("it had one", x.sign(4, true), 1);
        due.is("rule(3)", x.rule(3), 16);
        due.is("it counts", x.leads(4, 0, 12), 0);
        due.is("it had one", x.sign(4, false), 1);
        due.is("it had none", x.sign(4, false), 0);
        due.is("it counts no more", x.leads(4, 0, 12), -4);
        due.is("sign(0)", x.sign(0, true), 0);
        due.is("rule(3)", x.rule(3), 1);
        due.is("no such CORNER", x.sign(5, true), -1);
        due.is("no such CORNER", x.sign(-1, true), -1);
    }

    private static void clock() {
        NoonCity x = new NoonCity();
        due.is("clock(23)", x.clock(23), 0);
        x.go(60);
        due.is("rule(1)", x.rule(1), 83);
        due.is("what it was, modulo 24", x.clock(5), 11);
        due.is("rule(1)", x.rule(1), 5);
        due.is("clock(24)", x.clock(24), -1);
        due.is("clock(-1)", x.clock(-1), -1);
        due.is("clock(0)", x.clock(0), 5);
    }

    private static void put() {
        NoonCity x = Towns.of("city 3;walker 0 left l;walker 2 left l;");
        due.is("put(1, 1)", x.put(1, 1), 2);
        due.is("put(1, 1)", x.put(1, 1), 1);
        due.is("the other one", x.walker(0, 0), 0);
        due.is("his letters", x.walker(1, 3), 1);
        due.is("put(2, 0)", x.put(2, 0), -1);
        due.is("put(-1, 0)", x.put(-1, 0), -1);
        due.is("put(0, 3)", x.put(0, 3), -1);
        due.is("put(0, -1)", x.put(0, -1), -1);
        due.is("walker(0, 0)", x.walker(0, 0), 0);
    }

    private static void keeps() {
        NoonCity x = Towns.of("left 0 1;hour 12;walker 0 left l;keeper 0 left l;");
        due.is("keeps(0, true)", x.keeps(0, true), 0);
        due.is("keeps(0, true)", x.keeps(0, true), 1);
        due.is("his HAND", x.walker(0, 1), 0);
        due.is("keeps(1, false)", x.keeps(1, false), 1);
        due.is("his HAND", x.walker(1, 1), 1);
        due.is("keeps(2, true)", x.keeps(2, true), -1);
        due.is("keeps(-1, true)", x.keeps(-1, true), -1);
        x.go(1);
        due.is("he keeps his side", x.walker(0, 0), 1);
        due.is("he does not: there is no street", x.walker(1, 0), 0);
    }

    private static void routes() {
        NoonCity x = Towns.of("walker 0 left lr;walker 0 left lrlrlrlrlr;walker 0 left lrlrlrlrl;");
        due.is("adds(0, 1)", x.adds(0, 1), 3);
        due.is("letter(0, 2)", x.letter(0, 2), 1);
        due.is("adds(0, 0)", x.adds(0, 0), 4);
        due.is("letter(0, 3)", x.letter(0, 3), 0);
        due.is("adds(1, 0)", x.adds(1, 0), -3);
        due.is("adds(1, 2)", x.adds(1, 2), -1);
        due.is("adds(0, -1)", x.adds(0, -1), -1);
        due.is("adds(3, 0)", x.adds(3, 0), -1);
        due.is("adds(-1, 0)", x.adds(-1, 0), -1);
        due.is("adds(2, 1)", x.adds(2, 1), 10);
        due.is("adds(2, 1)", x.adds(2, 1), -3);
        x.go(3);
        due.is("left to him", x.walker(0, 3), 1);
        due.is("how many it has, gone or not", x.adds(0, 0), 5);
        due.is("left to him", x.walker(0, 3), 2);
        due.is("again(0)", x.again(0), 3);
        due.is("left to him", x.walker(0, 3), 5);
        due.is("again(0)", x.again(0), 0);
        x.go(20);
        due.is("again(1)", x.again(1), 10);
        due.is("again(3)", x.again(3), -1);
        due.is("again(-1)", x.again(-1), -1);
    }

    private static void gloves() {
        NoonCity x = Towns.of("gloves 1 2 3 4;hour 15;");
        for (int kind = 0; kind < 4; kind++) {
            due.is("buy(" + kind + ", 9)", x.buy(kind, 9), kind + 1);
            due.is("buy(" + kind + ", 0)", x.buy(kind, 0), 9);
            due.is("buy(" + kind + ", 10)", x.buy(kind, 10), -1);
            due.is("buy(" + kind + ", -1)", x.buy(kind, -1), -1);
        }
        due.is("buy(4, 0)", x.buy(4, 0), -1);
        due.is("buy(-1, 0)", x.buy(-1, 0), -1);
        x.buy(0, 5);
        due.is("left ones are right now", x.gloves(1), 5);
        x.buy(2, 2);
        due.is("but for those that are KEPT", x.gloves(0), 2);
    }
}
