/** Promises 1 to 11: a new object, the tape, its text and faults, what is told of a city. */
public final class TextTest {
    private static final Due due = new Due();

    public static void main(String[] args) {
        newObject();
        due.close("TextTest");
    }

    private static void newObject() {
        NoonCity x = new NoonCity();
        due.is("rule(0)", x.rule(0), 4);
    }
}
