/** Counts and prints what is not as it is due; each test ends with end(). */
final class Checks {
    /** A call that may throw. */
    interface Call {
        long answer();
    }

    static final Class<?> INDEX = IndexOutOfBoundsException.class;
    static final Class<?> ARGUMENT = IllegalArgumentException.class;
    static final Class<?> STATE = IllegalStateException.class;

    private final String name;
    private int asked;
    private int wrong;

    Checks(String name) {
        this.name = name;
    }

    void due(String what, long want, long got) {
        asked++;
        if (want != got) {
            say(what + ": due is " + want + ", got " + got);
        }
    }

    void due(String what, String want, String got) {
        asked++;
        if (!want.equals(got)) {
            say(what + ": due is " + want + ", got " + got);
        }
    }

    void holds(String what, boolean got) {
        due(what, 1, got ? 1 : 0);
    }

    void fails(String what, boolean got) {
        due(what, 0, got ? 1 : 0);
    }

    /** The call throws exactly this exception and leaves the object as it was. */
    void refuses(String what, Class<?> want, Siegelines x, Call call) {
        asked++;
        long before = x.digest();
        try {
            long got = call.answer();
            say(what + ": due is " + want.getSimpleName() + ", got " + got);
        } catch (RuntimeException thrown) {
            if (thrown.getClass() != want) {
                say(what + ": due is " + want.getSimpleName() + ", got " + thrown);
            }
        }
        due(what + " changes nothing", before, x.digest());
    }

    private void say(String text) {
        wrong++;
        System.out.println(name + ": " + text);
    }

    void end() {
        if (wrong > 0 || asked == 0) {
            System.out.println(name + ": " + wrong + " of " + asked + " wrong");
            System.exit(1);
        }
    }
}
