import java.lang.reflect.InvocationTargetException;
import java.lang.reflect.Method;
import java.util.Arrays;

/** Long runs of drawn calls, answered by the program and by the model. */
public final class ModelTest {
    private static final int RUNS = 300;
    private static final int CALLS = 512;

    private static final String[] CHANGES = {"road", "exit", "turn", "offer", "bound", "set", "send", "settle", "keep", "goBack", "undo"};
    private static final int[] CHANGE_SHARES = {6, 4, 3, 8, 4, 3, 30, 2, 2, 2, 4};
    private static final String[] LOOKS = {"roadOf", "distance", "exitOf", "neighbourOf", "choice", "why", "count", "ifRoad", "dearest", "idle", "hotShare", "digest", "firstError"};

    private long seed;
    private int calls;
    private LoafExits program;
    private Model model;

    public static void main(String[] args) {
        for (int run = 1; run <= RUNS; run++) {
            new ModelTest().oneRun(run);
        }
        Check.end("ModelTest");
    }

    /** Own numbers, so that a run is the same on every machine. */
    private int draw(int below) {
        seed = seed * 6364136223846793005L + 1442695040888963407L;
        return (int) ((seed >>> 33) % below);
    }

    private void oneRun(int run) {
        seed = run;
        calls = 0;
        program = new LoafExits();
        model = new Model();
        if (run % 3 != 0) {
            furnish(run);
        }
        while (calls < CALLS) {
            int kind = draw(20);
            if (kind < 10) {
                change();
            } else if (kind < 18) {
                look();
            } else {
                text(run);
            }
        }
    }

    private void furnish(int run) {
        for (int k = 0; k < 5; k++) {
            both(run, "exit", draw(8), draw(4));
        }
        for (int k = 0; k < 10; k++) {
            both(run, "offer", draw(4), draw(4), 1 + draw(2));
        }
    }

    private void change() {
        int at = 0;
        int left = draw(Arrays.stream(CHANGE_SHARES).sum());
        while (left >= CHANGE_SHARES[at]) {
            left -= CHANGE_SHARES[at];
            at++;
        }
        String name = CHANGES[at];
        switch (name) {
            case "road": both(0, name, town(), town(), cost()); break;
            case "exit": both(0, name, town(), near(4)); break;
            case "turn": both(0, name, near(8)); break;
            case "offer": both(0, name, near(4), near(4), draw(3) == 0 ? near(10) : draw(3)); break;
            case "bound": both(0, name, near(4), draw(9) == 0 ? near(100) : draw(4)); break;
            case "set": both(0, name, near(2), near(2)); break;
            case "send": both(0, name, town(), near(4)); break;
            case "keep": case "goBack": both(0, name, near(2)); break;
            default: both(0, name);
        }
    }

    private void look() {
        String name = LOOKS[draw(LOOKS.length)];
        switch (name) {
            case "roadOf": both(0, name, town(), town()); break;
            case "distance": both(0, name, town(), town(), near(2)); break;
            case "exitOf": both(0, name, near(8), near(5)); break;
            case "neighbourOf": both(0, name, near(4), near(8)); break;
            case "choice": both(0, name, town(), near(4), near(6)); break;
            case "why": both(0, name, town(), near(4), near(8)); break;
            case "count": both(0, name, near(10)); break;
            case "ifRoad": both(0, name, town(), town(), cost()); break;
            case "idle": both(0, name, town(), town()); break;
            default: both(0, name);
        }
    }

    private void text(int run) {
        StringBuilder day = new StringBuilder(order());
        while (draw(3) > 0) {
            day.append(';').append(order());
        }
        if (draw(3) == 0) {
            day.setCharAt(draw(day.length()), "srx>*=;0123456789".charAt(draw(17)));
        }
        for (int k = 0; k < day.length(); k++) {
            both(run, "append", day.charAt(k));
        }
        both(run, "firstError");
        both(run, "digest");
        both(run, "run");
        both(run, "clearBuffer");
        both(run, "digest");
    }

    private String order() {
        switch (draw(4)) {
            case 0: return "r" + draw(8) + draw(8) + "=" + cost();
            case 1: return "x" + draw(8);
            case 2: return "s" + draw(8) + ">" + draw(4);
            default: return "s" + draw(8) + ">" + draw(4) + "*" + (2 + draw(8));
        }
    }

    /** A number below the limit, now and then one just outside. */
    private int near(int limit) {
        return draw(15) == 0 ? (draw(2) == 0 ? -1 : limit) : draw(limit);
    }

    private int town() {
        return near(8);
    }

    /** Few costs, so that ways are often equal. */
    private int cost() {
        int[] costs = {0, 0, 5, 10, 10, 15, 20, 99, 100, 1};
        return draw(5) == 0 ? draw(100) : costs[draw(costs.length)];
    }

    private void both(int run, String name, int... args) {
        if (calls >= CALLS) {
            return;
        }
        calls++;
        String told = "seed " + seed + ", call " + calls + ": " + name + Arrays.toString(args);
        Check.isText(told, answer(program, name, args), answer(model, name, args));
    }

    private static String answer(Object object, String name, int[] args) {
        Class<?>[] types = new Class<?>[args.length];
        Object[] values = new Object[args.length];
        for (int k = 0; k < args.length; k++) {
            types[k] = int.class;
            values[k] = args[k];
        }
        try {
            Method method = object.getClass().getMethod(name, types);
            method.setAccessible(true);
            return String.valueOf(method.invoke(object, values));
        } catch (InvocationTargetException e) {
            return e.getCause().getClass().getName();
        } catch (ReflectiveOperationException e) {
            throw new IllegalStateException(e);
        }
    }
}
