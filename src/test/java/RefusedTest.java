import java.util.List;

/** What is refused changes nothing (but THE TAPE, by text()), and what only asks changes nothing either. */
public final class RefusedTest {
    private static final Due due = new Due();

    /** What makes an object other than Scene.of() does, ahead of what is refused. */
    private interface Ahead {
        void with(NoonCity x);
    }

    public static void main(String[] args) {
        lookSees();
        badNumbers();
        asks();
        full();
        state();
        sheets();
        reads();
        texts();
        due.close("RefusedTest");
    }

    private static NoonCity made(Ahead ahead) {
        NoonCity x = Scene.of(2);
        ahead.with(x);
        return x;
    }

    /** A call answers, and the object is then as one of which it was not asked. */
    private static void leaves(String what, Ahead ahead, Ahead call) {
        NoonCity x = made(ahead);
        call.with(x);
        List<String> got = Scene.look(x);
        List<String> want = Scene.look(made(ahead));
        for (int i = 0; i < want.size(); i++) {
            due.holds(what + " leaves " + want.get(i) + ", it is " + got.get(i), got.get(i).equals(want.get(i)));
        }
    }

    private static void refused(String what, Ahead ahead, Call.Body call, long answer) {
        leaves(what, ahead, x -> due.is(what, call.of(x, new int[0]), answer));
    }

    /** The look must see a change, or the rest would show nothing. */
    private static void lookSees() {
        List<String> plain = Scene.look(Scene.of(2));
        for (Call call : Call.all(2)) {
            NoonCity x = Scene.of(2);
            call.of(x, call.good);
            boolean same = Scene.look(x).equals(plain);
            due.holds(call.told(call.good) + " changes what is seen: " + !same, same == call.asks);
        }
    }

    private static void badNumbers() {
        for (Call call : Call.all(2)) {
            for (int at = 0; at < call.bounds.length; at++) {
                for (int n : call.bounds[at].beyond()) {
                    int[] numbers = call.with(at, n);
                    refused(call.told(numbers), x -> { }, (x, none) -> call.of(x, numbers), -1);
                }
            }
        }
    }

    private static void asks() {
        for (Call call : Call.all(2)) {
            if (call.asks) {
                leaves(call.told(call.good), x -> { }, x -> call.of(x, call.good));
            }
        }
        leaves("fault()", x -> { }, x -> x.fault());
        leaves("torn()", x -> { }, x -> x.torn());
        leaves("drift(1, 60, 0)", x -> { }, x -> x.drift(1, 60, 0));
        leaves("ahead(0, 60, 1)", x -> { }, x -> x.ahead(0, 60, 1));
    }

    private static void full() {
        Ahead hours = x -> {
            for (int i = 0; i < 16; i++) {
                x.go(60);
            }
        };
        refused("go(60) from 972", hours, (x, n) -> x.go(60), -3);
        refused("go(28) from 972", hours, (x, n) -> x.go(28), -3);
        Ahead letters = x -> {
            for (int i = 0; i < 7; i++) {
                x.adds(0, 1);
            }
        };
        refused("adds(0, 0) to 10 letters", letters, (x, n) -> x.adds(0, 0), -3);
        Ahead sights = x -> {
            for (int i = 0; i < 4; i++) {
                x.see(0, i, 1, true);
            }
        };
        refused("see() of the 9th", sights, (x, n) -> x.see(0, 1, 0, false), -3);
        Ahead bytes = x -> {
            for (int i = Scene.TAPE.length(); i < 160; i++) {
                x.feed(' ');
            }
        };
        NoonCity x = new NoonCity();
        bytes.with(x);
        Towns.feed(x, Scene.TAPE);
        due.is("feed() of the 161st", x.feed('?'), -3);
        due.is("THE TAPE is as it was", x.count(3), 160);
        due.is("its last byte, too", x.text(), 1);
    }

    private static void state() {
        NoonCity x = new NoonCity();
        x.clock(5);
        x.keep(0);
        x.clock(6);
        due.is("back(1) of no IMAGE", x.back(1), -2);
        due.is("HOUR is as it was", x.rule(1), 6);
        due.is("IMAGES, too", x.count(2), 1);
        due.is("the other IMAGE, too", x.back(0), 5);
        refused("back(0) behind a text", y -> y.text(), (y, n) -> y.back(0), -2);
    }

    private static void sheets() {
        refused("sheet(0, 0, -1)", x -> { }, (x, n) -> x.sheet(0, 0, -1), -14);
        refused("sheet(3, 2, MIN_VALUE)", x -> { }, (x, n) -> x.sheet(3, 2, Integer.MIN_VALUE), -14);
        refused("lay(0, 5, 1)", x -> { }, (x, n) -> x.lay(0, 5, 1), -12);
        refused("lay(0, -1, 1)", x -> { }, (x, n) -> x.lay(0, -1, 1), -12);
        refused("lay(1, MIN_VALUE, 1)", x -> { }, (x, n) -> x.lay(1, Integer.MIN_VALUE, 1), -12);
        refused("lay(1, MAX_VALUE, 1)", x -> { }, (x, n) -> x.lay(1, Integer.MAX_VALUE, 1), -12);
        NoonCity x = new NoonCity();
        due.is("lay(0, 0, 1) of nothing", x.lay(0, 0, 1), -11);
        due.is("it is nothing still", x.count(4), -4);
        x.sheet(0, 0, -1);
        due.is("a SHEET that was refused is nothing", x.count(4), -4);
        x.sheet(0, 0, 41);
        due.is("a SHEET that was refused is nothing", x.count(4), -4);
    }

    private static void lay(NoonCity x, int k, int... cells) {
        x.sheet(k, 2, cells.length);
        for (int i = 0; i < cells.length; i++) {
            x.lay(k, i, cells[i]);
        }
    }

    /** By put() refused: none come, and the FAULT is left. */
    private static void reads() {
        int[][] wrong = {{3, 0}, {-1, 0}, {0, 2}, {0, -1}, {Integer.MIN_VALUE, 0}, {0, Integer.MAX_VALUE}};
        for (int[] pair : wrong) {
            for (int i = 0; i < 3; i++) {
                int[] cells = {0, 1, 1, 1, 2, 0};
                cells[2 * i] = pair[0];
                cells[2 * i + 1] = pair[1];
                int many = i + 1;
                refused("read() of " + pair[0] + ", " + pair[1] + " as the " + i + "-th", x -> lay(x, 0, cells),
                    (x, n) -> x.read(0, 2, 0, many), -20 - i);
                refused("read() of it, and beyond", x -> lay(x, 0, cells), (x, n) -> x.read(0, 2, 0, 20), -20 - i);
            }
        }
    }

    /** A text with a FAULT leaves all but THE TAPE, and tells its FAULT. */
    private static void texts() {
        String[] faults = {"city 5;?", "hour 1;city", "city 9;", "sign 0;sign 0;",
            "walker0left l;walker0left l;walker0left l;walker0left l;walker0left l;", "left 0 7;gloves 9 9 9 9;hour 3;"};
        for (int fault = 1; fault <= 6; fault++) {
            String text = faults[fault - 1];
            NoonCity x = Scene.of(2);
            x.end(0);
            Towns.feed(x, text);
            due.holds("a FAULT in " + text, x.text() <= -10);
            due.is("fault() of " + text, x.fault(), fault);
            due.is("THE TAPE is empty", x.count(3), 0);
            due.is("an empty text", x.end(0), 0);
            Towns.feed(x, Scene.TAPE);
            List<String> got = Scene.look(x);
            List<String> want = Scene.look(Scene.of(2));
            for (int i = 0; i < want.size(); i++) {
                boolean ofText = want.get(i).startsWith("fault");
                due.holds("a text with FAULT " + fault + " leaves " + want.get(i) + ", it is " + got.get(i),
                    ofText || got.get(i).equals(want.get(i)));
            }
        }
    }
}
