import java.io.IOException;
import java.nio.file.Files;
import java.nio.file.Path;
import java.nio.file.Paths;
import java.util.ArrayList;
import java.util.List;
import java.util.stream.Stream;

/** Plays runs of calls from files, a call in each line: its name, its arguments, "->", the answer that is due. */
final class RunsTest {
    private static int wrong = 0;
    private static int played = 0;

    /** Plays the files that are named, or all under src/test/runs. */
    public static void main(String[] args) throws IOException {
        List<Path> files = new ArrayList<>();
        for (String arg : args) {
            files.add(Paths.get(arg));
        }
        if (files.isEmpty()) {
            try (Stream<Path> found = Files.list(Paths.get("src/test/runs"))) {
                found.sorted().forEach(files::add);
            }
        }
        for (Path file : files) {
            play(file);
        }
        System.out.println("RunsTest: " + played + " calls, " + wrong + " wrong");
        if (wrong > 0 || played == 0) {
            System.exit(1);
        }
    }

    private static void play(Path file) throws IOException {
        Siegelines x = new Siegelines();
        int line = 0;
        for (String text : Files.readAllLines(file)) {
            line++;
            if (text.isEmpty()) {
                continue;
            }
            if (text.equals("new")) {
                x = new Siegelines();
                continue;
            }
            String[] parts = text.split(" -> ");
            String got = answer(x, parts[0].split(" "));
            played++;
            if (!got.equals(parts[1])) {
                wrong++;
                if (wrong <= 20) {
                    System.out.println(file + " line " + line + ": " + parts[0] + " answered " + got
                        + ", due is " + parts[1]);
                }
            }
        }
    }

    private static String answer(Siegelines x, String[] call) {
        int[] arguments = new int[call.length - 1];
        for (int i = 0; i < arguments.length; i++) {
            arguments[i] = Integer.parseInt(call[i + 1]);
        }
        return Calls.answer(x, call[0], arguments);
    }
}
