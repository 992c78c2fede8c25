/** Promises 1 to 6: the ground and the stores, as they are told. */
final class LayTest {
    private static final Checks checks = new Checks("LayTest");

    public static void main(String[] args) {
        Siegelines x = new Siegelines();
        checks.due("a new object has MORALE 60", 60, x.ofSide(0, 3));
        checks.end();
    }
}
