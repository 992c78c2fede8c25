/** Calls of the face by name, so that tables and files can tell them. */
final class Calls {
    private Calls() {
    }

    /** The answer as a text (a boolean is 1 or 0), or the name of what was thrown. */
    static String answer(Siegelines x, String name, int... arguments) {
        int[] v = new int[5];
        System.arraycopy(arguments, 0, v, 0, arguments.length);
        try {
            String told = told(x, name, v);
            return told == null ? asked(x, name, v) : told;
        } catch (RuntimeException thrown) {
            return thrown.getClass().getSimpleName();
        }
    }

    private static String told(Siegelines x, String name, int[] v) {
        switch (name) {
            case "lay": return "" + x.lay(v[0], v[1], v[2]);
            case "ground": return "" + x.ground(v[0], v[1], v[2], v[3], v[4]);
            case "camp": return "" + x.camp(v[0], v[1]);
            case "stores": return "" + x.stores(v[0], v[1], v[2], v[3], v[4]);
            case "town": return "" + x.town(v[0], v[1], v[2]);
            case "gun": return "" + x.gun(v[0], v[1], v[2]);
            case "company": return "" + x.company(v[0], v[1], v[2]);
            case "muster": return "" + x.muster(v[0]);
            case "begin": return "" + x.begin();
            case "order": return "" + x.order(v[0], v[1], v[2]);
            case "aim": return "" + x.aim(v[0], v[1]);
            case "haul": return "" + x.haul(v[0], v[1]);
            case "right": return "" + x.right(v[0]);
            case "mine": return "" + x.mine(v[0], v[1]);
            case "charge": return "" + x.charge(v[0], v[1]);
            case "blow": return "" + x.blow(v[0]);
            case "letter": return "" + x.letter();
            case "expel": return "" + x.expel(v[0]);
            case "parley": return x.parley() ? "1" : "0";
            case "pass": return "" + x.pass(v[0]);
            default: return null;
        }
    }

    private static String asked(Siegelines x, String name, int[] v) {
        switch (name) {
            case "ofSquare": return "" + x.ofSquare(v[0], v[1]);
            case "ofGun": return "" + x.ofGun(v[0], v[1]);
            case "ofCompany": return "" + x.ofCompany(v[0], v[1]);
            case "ofMine": return "" + x.ofMine(v[0], v[1]);
            case "ofSide": return "" + x.ofSide(v[0], v[1]);
            case "ofSiege": return "" + x.ofSiege(v[0]);
            case "sees": return x.sees(v[0], v[1]) ? "1" : "0";
            case "underFire": return "" + x.underFire(v[0], v[1], v[2]);
            case "row": return x.row(v[0]);
            case "march": return "" + x.march(v[0], v[1]);
            case "storm": return "" + x.storm(v[0], v[1]);
            case "sap": return "" + x.sap(v[0]);
            case "target": return "" + x.target(v[0]);
            case "forecast": return "" + x.forecast(v[0], v[1]);
            case "isSound": return x.isSound() ? "1" : "0";
            case "digest": return "" + x.digest();
            default: return "no such call";
        }
    }
}
