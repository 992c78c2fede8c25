import java.io.IOException;
import java.nio.file.Files;
import java.nio.file.Path;
import java.nio.file.Paths;
import java.util.ArrayList;
import java.util.List;
import java.util.stream.Stream;

/** Plays runs of calls from files, a call in each line: its name, its arguments, "->", the answer that is due. */
final class RunsTest {
    private static int wrong = 0;
    private static int played = 0;

    /** Plays the files that are named, or all under src/test/runs. */
    public static void main(String[] args) throws IOException {
        List<Path> files = new ArrayList<>();
        for (String arg : args) {
            files.add(Paths.get(arg));
        }
        if (files.isEmpty()) {
            try (Stream<Path> found = Files.list(Paths.get("src/test/runs"))) {
                found.sorted().forEach(files::add);
            }
        }
        for (Path file : files) {
            play(file);
        }
        System.out.println("RunsTest: " + played + " calls, " + wrong + " wrong");
        if (wrong > 0 || played == 0) {
            System.exit(1);
        }
    }

    private static void play(Path file) throws IOException {
        Siegelines x = new Siegelines();
        int line = 0;
        for (String text : Files.readAllLines(file)) {
            line++;
            if (text.isEmpty()) {
                continue;
            }
            if (text.equals("new")) {
                x = new Siegelines();
                continue;
            }
            String[] parts = text.split(" -> ");
            String got = answer(x, parts[0].split(" "));
            played++;
            if (!got.equals(parts[1])) {
                wrong++;
                if (wrong <= 20) {
                    System.out.println(file + " line " + line + ": " + parts[0] + " answered " + got
                        + ", due is " + parts[1]);
                }
            }
        }
    }

    private static String answer(Siegelines x, String[] call) {
        int[] v = new int[6];
        for (int i = 1; i < call.length; i++) {
            v[i] = Integer.parseInt(call[i]);
        }
        try {
            return call[0].startsWith("of") || call.length > 1 && isAsked(call[0])
                ? asked(x, call[0], v) : told(x, call[0], v);
        } catch (RuntimeException thrown) {
            return thrown.getClass().getSimpleName();
        }
    }

    private static boolean isAsked(String name) {
        switch (name) {
            case "sees": case "underFire": case "row": case "march": case "storm": case "sap": case "target":
            case "forecast":
                return true;
            default:
                return false;
        }
    }

    private static String told(Siegelines x, String name, int[] v) {
        switch (name) {
            case "lay": return "" + x.lay(v[1], v[2], v[3]);
            case "ground": return "" + x.ground(v[1], v[2], v[3], v[4], v[5]);
            case "camp": return "" + x.camp(v[1], v[2]);
            case "stores": return "" + x.stores(v[1], v[2], v[3], v[4], v[5]);
            case "town": return "" + x.town(v[1], v[2], v[3]);
            case "gun": return "" + x.gun(v[1], v[2], v[3]);
            case "company": return "" + x.company(v[1], v[2], v[3]);
            case "muster": return "" + x.muster(v[1]);
            case "begin": return "" + x.begin();
            case "order": return "" + x.order(v[1], v[2], v[3]);
            case "aim": return "" + x.aim(v[1], v[2]);
            case "haul": return "" + x.haul(v[1], v[2]);
            case "right": return "" + x.right(v[1]);
            case "mine": return "" + x.mine(v[1], v[2]);
            case "charge": return "" + x.charge(v[1], v[2]);
            case "blow": return "" + x.blow(v[1]);
            case "letter": return "" + x.letter();
            case "expel": return "" + x.expel(v[1]);
            case "parley": return x.parley() ? "1" : "0";
            case "pass": return "" + x.pass(v[1]);
            case "isSound": return x.isSound() ? "1" : "0";
            case "digest": return "" + x.digest();
            default: return "no such call";
        }
    }

    private static String asked(Siegelines x, String name, int[] v) {
        switch (name) {
            case "ofSquare": return "" + x.ofSquare(v[1], v[2]);
            case "ofGun": return "" + x.ofGun(v[1], v[2]);
            case "ofCompany": return "" + x.ofCompany(v[1], v[2]);
            case "ofMine": return "" + x.ofMine(v[1], v[2]);
            case "ofSide": return "" + x.ofSide(v[1], v[2]);
            case "ofSiege": return "" + x.ofSiege(v[1]);
            case "sees": return x.sees(v[1], v[2]) ? "1" : "0";
            case "underFire": return "" + x.underFire(v[1], v[2], v[3]);
            case "row": return x.row(v[1]);
            case "march": return "" + x.march(v[1], v[2]);
            case "storm": return "" + x.storm(v[1], v[2]);
            case "sap": return "" + x.sap(v[1]);
            case "target": return "" + x.target(v[1]);
            case "forecast": return "" + x.forecast(v[1], v[2]);
            default: return "no such call";
        }
    }
}
