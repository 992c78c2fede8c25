/** All that can be asked of an object on a small map, and how it would go on: some 200 calls. */
final class Picture {
    private Picture() {
    }

    static String of(Siegelines x) {
        StringBuilder all = new StringBuilder(Calls.answer(x, "digest"));
        int squares = 0;
        for (int row = 0; row < 13; row++) {
            String signs = Calls.answer(x, "row", row);
            if (signs.endsWith("Exception")) {
                break;
            }
            all.append('\n').append(signs);
            squares += signs.length();
        }
        add(all, x, "ofSquare", squares, 0, 1, 7);
        add(all, x, "ofGun", 16, 0, 2);
        add(all, x, "ofCompany", 12, 0);
        add(all, x, "ofMine", 6, 0, 1, 3);
        goOn(all, x);
        return all.toString();
    }

    private static void add(StringBuilder all, Siegelines x, String name, int count, int... facts) {
        all.append('\n').append(name);
        for (int number = 0; number < count; number++) {
            for (int what : facts) {
                String fact = Calls.answer(x, name, number, what);
                if (fact.endsWith("Exception")) {
                    return;
                }
                all.append(' ').append(fact);
            }
        }
    }

    /** What no question tells (supply, letters that are out, where camp is) shows as time goes by. */
    private static void goOn(StringBuilder all, Siegelines x) {
        String[] names = {"begin", "letter", "pass", "digest", "letter", "pass", "digest"};
        for (String name : names) {
            all.append('\n').append(name).append(' ').append(Calls.answer(x, name, 24));
        }
    }
}
