/** An object that refuses calls; another one takes its place ahead of its 512th call. */
final class Subject {
    /** Makes the same object each time. */
    interface Maker {
        Siegelines make();
    }

    private static final int MOST_CALLS = 240;

    private final Checks checks;
    private final String name;
    private final Maker maker;
    private Siegelines x;
    private int calls;

    Subject(Checks checks, String name, Maker maker) {
        this.checks = checks;
        this.name = name;
        this.maker = maker;
        x = maker.make();
    }

    /** The call throws this, and the digest behind it is the one ahead of it. */
    void refuses(String want, String call, int... arguments) {
        if (calls + 3 > MOST_CALLS) {
            end();
        }
        calls += 3;
        String told = name + ": " + call + java.util.Arrays.toString(arguments);
        long before = x.digest();
        checks.due(told, want, Calls.answer(x, call, arguments));
        checks.due(told + " changes nothing", before, x.digest());
    }

    /** A new object answers the call, with this if it is told. */
    void takes(String want, String call, int... arguments) {
        String got = Calls.answer(maker.make(), call, arguments);
        String told = name + ": " + call + java.util.Arrays.toString(arguments);
        if (want != null) {
            checks.due(told, want, got);
        } else {
            checks.fails(told + " throws " + got, got.endsWith("Exception"));
        }
    }

    /** What was refused left no trace: the object is, and goes on, as one of which nothing was asked. */
    void end() {
        checks.due(name + ": all as it was", Picture.of(maker.make()), Picture.of(x));
        x = maker.make();
        calls = 0;
    }
}
