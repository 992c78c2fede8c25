/** Maps that several tests begin with. */
final class Fields {
    private Fields() {
    }

    /** All of height 0 and earth, without work; camp is 0, gate the last square. */
    static Siegelines plain(int wide, int high) {
        Siegelines x = new Siegelines();
        x.lay(wide, high, 100);
        return x;
    }

    /** A plain that is besieged, with a company of 100 on camp and one of 100 on gate, and much of everything. */
    static Siegelines begun(int wide, int high) {
        Siegelines x = plain(wide, high);
        x.stores(0, 500, 5000, 50, 60);
        x.stores(1, 500, 5000, 50, 60);
        x.company(0, 0, 100);
        x.company(1, wide * high - 1, 100);
        x.begin();
        return x;
    }

    /** The numbers of a seed, as the document tells them. */
    static int[] drawn(int seed, int count) {
        int[] numbers = new int[count];
        int number = seed;
        for (int i = 0; i < count; i++) {
            number = (31 * number + 17) % 97;
            numbers[i] = number;
        }
        return numbers;
    }
}
