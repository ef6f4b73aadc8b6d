/** Every number of every call: all that are taken, the first that are not, and ints that wrap around. */
public final class BoundsTest {
    private static final Due due = new Due();

    public static void main(String[] args) {
        int[] corners = {2, 5, 8};
        for (int n : corners) {
            for (Call call : Call.all(n)) {
                for (int at = 0; at < call.bounds.length; at++) {
                    oneNumber(n, call, at);
                }
                twoNumbers(n, call);
            }
        }
        nobody();
        due.close("BoundsTest");
    }

    private static void oneNumber(int corners, Call call, int at) {
        NoonCity x = Scene.of(corners);
        int asked = 0;
        for (int n : call.bounds[at].tried()) {
            // What is done changes what is taken by the next call, and an object is good for 512 calls.
            if (!call.asks || asked == 200) {
                x = Scene.of(corners);
                asked = 0;
            }
            asked++;
            int[] numbers = call.with(at, n);
            String told = call.told(numbers) + " of " + corners + " CORNERS";
            long answer = call.of(x, numbers);
            if (call.bounds[at].takes(n)) {
                due.holds(told + " is taken, and answered " + answer, answer != -1);
            } else {
                due.is(told, answer, -1);
            }
        }
    }

    /** Two that are not as told do not make one that is. */
    private static void twoNumbers(int corners, Call call) {
        NoonCity x = Scene.of(corners);
        int asked = 0;
        for (int i = 0; i < call.bounds.length; i++) {
            for (int j = 0; j < i; j++) {
                for (int a : call.bounds[i].beyond()) {
                    for (int b : call.bounds[j].beyond()) {
                        if (asked == 200) {
                            x = Scene.of(corners);
                            asked = 0;
                        }
                        asked++;
                        int[] numbers = call.with(i, a);
                        numbers[j] = b;
                        due.is(call.told(numbers) + " of " + corners + " CORNERS", call.of(x, numbers), -1);
                    }
                }
            }
        }
    }

    /** In a new object there is no WALKER, no byte on THE TAPE, nothing SEEN. */
    private static void nobody() {
        String[] ofWalkers = {"walker", "letter", "put", "keeps", "adds", "again", "ahead", "clash", "meet", "shake",
            "luck", "see", "fits"};
        NoonCity x = new NoonCity();
        for (Call call : Call.all(4)) {
            if (java.util.Arrays.asList(ofWalkers).contains(call.name)) {
                due.is(call.told(call.good) + " of a new object", call.of(x, call.good), -1);
            }
        }
        due.is("end(1) of a new object", x.end(1), -1);
        due.is("end(0) of a new object", x.end(0), 0);
        due.is("forget(1) of a new object", x.forget(1), -1);
        due.is("forget(0) of a new object", x.forget(0), 0);
        due.is("corner(3, 0) of a new object", x.corner(3, 0), -4);
        due.is("corner(4, 0) of a new object", x.corner(4, 0), -1);
    }
}
