import java.io.IOException;
import java.nio.file.Files;
import java.nio.file.Path;

/** What README.md shows: its examples answer what it says, and its tables name what is there. */
public final class ReadmeTest {
    public static void main(String[] args) throws IOException {
        retryInsideTimer();
        breakerAroundSupplier();
        settingsTable(Files.readString(Path.of("README.md")));
        everyTestIsNamed(Files.readString(Path.of("README.md")));
        Check.finish();
    }

    private static void retryInsideTimer() {
        GuardedCalls x = new GuardedCalls();
        x.lay(3);
        x.lay(4);
        x.retry(3, 16 + 32);
        x.timer(20);
        x.outcome(1, 2, 0);
        x.outcome(0, 1, 42);
        Check.due("first example: call()", x.call(), 42);
        Check.due("first example: tell(7)", x.tell(7), 4);
        Check.due("first example: event(0)", x.event(0), 51);
    }

    private static void breakerAroundSupplier() {
        GuardedCalls x = new GuardedCalls();
        x.lay(0);
        x.outcome(1, 0, 0);
        x.outcome(1, 0, 0);
        Check.dueCall("second example, first", x, Check.IAE);
        Check.dueCall("second example, second", x, Check.IAE);
        Check.dueCall("second example, third", x, Check.ISE);
        Check.due("second example: open", x.tell(0), 1);
        x.pass(10);
        Check.dueCall("second example, first trial", x, 0);
        Check.due("second example: half open", x.tell(0), 2);
        Check.dueCall("second example, second trial", x, 0);
        Check.due("second example: closed", x.tell(0), 0);
    }

    /** Rows like "| `breaker` | size | 1 .. 8 | 4 |": the bounds are tried on the method itself. */
    private static void settingsTable(String readme) {
        int rows = 0;
        for (String line : readme.split("\n")) {
            String[] cells = line.split("\\s*\\|\\s*");
            if (cells.length >= 4 && cells[3].contains(" .. ") && cells[1].startsWith("`")) {
                rows++;
                settingRow(cells[1].replace("`", ""), cells[2], cells[3].split(" \\.\\. "));
            }
        }
        Check.due("rows of settings in README.md", rows, 20);
    }

    private static void settingRow(String method, String name, String[] bounds) {
        boolean isReal = bounds[0].contains(".");
        double step = isReal ? 0.001 : 1;
        // FAILURES and SLUGGISH lie above their lower bound, which the table marks so.
        boolean isAbove = bounds[0].startsWith("above ");
        double least = Double.parseDouble(bounds[0].replace("above ", ""));
        double most = Double.parseDouble(bounds[1]);
        String what = "README.md, " + method + ", " + name + ": ";
        Check.due(what + "below", taken(method, name, least - step), false);
        Check.due(what + "least", taken(method, name, least), !isAbove);
        Check.due(what + "a little more", taken(method, name, least + step), true);
        Check.due(what + "most", taken(method, name, most), true);
        Check.due(what + "above", taken(method, name, most + step), false);
    }

    /** Whether a new object takes the value, the other arguments being fine with each of its values. */
    private static boolean taken(String method, String name, double value) {
        GuardedCalls x = new GuardedCalls();
        int n = (int) value;
        switch (method + " " + name) {
            case "breaker size": return x.breaker(n, 1, 0, 1);
            case "breaker least": return x.breaker(8, n, 0, 1);
            case "breaker wait": return x.breaker(4, 2, n, 2);
            case "breaker trials": return x.breaker(4, 2, 10, n);
            case "trips failures": return x.trips(value, 100.0, 5);
            case "trips sluggish": return x.trips(50.0, value, 5);
            case "trips slow": return x.trips(50.0, 100.0, n);
            case "bulkhead capacity": return x.bulkhead(n);
            case "limiter period": return x.limiter(n, 2, 5);
            case "limiter limit": return x.limiter(10, n, 5);
            case "limiter patience": return x.limiter(10, 2, n);
            case "retry attempts": return x.retry(n, 16);
            case "retry again": return x.retry(3, n);
            case "backoff first": return x.backoff(value, 2.0, 8.0);
            case "backoff times": return x.backoff(1.0, value, 8.0);
            case "backoff most": return x.backoff(1.0, 2.0, value);
            case "timer span": return x.timer(n);
            case "outcome way": return x.outcome(n, 0, 0);
            case "outcome latency": return x.outcome(0, n, 0);
            case "pass n": return x.pass(n);
            default:
                Check.due("README.md names a setting that is there", method + " " + name, "one of the document's");
                return false;
        }
    }

    private static void everyTestIsNamed(String readme) throws IOException {
        try (var files = Files.list(Path.of("src/test/java"))) {
            files.map(file -> file.getFileName().toString())
                    .filter(name -> name.endsWith("Test.java"))
                    .map(name -> name.replace(".java", ""))
                    .forEach(name -> Check.due("README.md names " + name, readme.contains(name), true));
        }
    }
}
