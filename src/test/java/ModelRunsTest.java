import java.lang.reflect.Method;
import java.lang.reflect.Modifier;
import java.util.ArrayList;
import java.util.Arrays;
import java.util.Comparator;
import java.util.List;

/** Promises 1 to 47: long runs of calls, ordinary and wild, on the class and on the model; their answers must be alike. */
public final class ModelRunsTest {
    private static final int RUNS = 700;
    private static final int CALLS = 512;
    private static final int[] WILD = {Integer.MIN_VALUE, -1000001, -257, -2, -1, 0, 1, 7, 8, 9, 10, 24, 25, 40, 41, 60,
        61, 100, 101, 120, 300, 301, 999, 1000, 9999, 65537, Integer.MAX_VALUE};
    private static final String[] WORDS = {"even", "kindly", "just", "miser", "saintly", "slow", "spiteful", "warm",
        "coal", "wall", "heats", "away", "out", "damper", ";", ";", " ", "#", "evens", "0", "1", "3", "7", "007", "20", "100",
        "150", "300", "999", "10000"};

    private final WarmWalls x = new WarmWalls();
    private final Model model = new Model();
    private final List<String> history = new ArrayList<>();
    private final List<Method> acts;
    private long draws;

    private ModelRunsTest(int run) {
        draws = run * 0x9E3779B97F4A7C15L + 1;
        acts = acts();
    }

    public static void main(String[] args) throws Exception {
        int answers = 0;
        for (int run = 0; run < RUNS; run++) {
            answers += new ModelRunsTest(run).run(run);
        }
        System.out.println(answers + " answers as the model's");
    }

    private static List<Method> acts() {
        List<Method> all = new ArrayList<>();
        for (Method m : WarmWalls.class.getDeclaredMethods()) {
            if (Modifier.isPublic(m.getModifiers())) {
                all.add(m);
            }
        }
        all.sort(Comparator.comparing(Method::getName));
        return all;
    }

    private int draw(int below) {
        draws = draws * 6364136223846793005L + 1442695040888963407L;
        return (int) ((draws >>> 33) % below);
    }

    private int run(int run) throws Exception {
        int calls = 0;
        if (run % 10 == 9) {
            for (; calls < 99; calls++) {
                both(act("hours"), 100);
            }
        }
        int rooms = draw(9);
        for (int i = 0; i < rooms; i++) {
            both(act("room"), draw(7));
            calls++;
        }
        if (run % 3 == 0) {
            // In a ring all are heated.
            for (int i = 0; i < rooms && rooms > 1; i++) {
                both(act("change"), i, 4, (i + 1) % rooms);
                calls++;
            }
        }
        while (calls < CALLS) {
            calls += call(run);
        }
        return calls;
    }

    private Method act(String name) {
        return acts.stream().filter(m -> m.getName().equals(name)).findFirst().orElseThrow();
    }

    private int call(int run) throws Exception {
        int which = draw(100);
        if (which < 22) {
            both(act("change"), anyRoom(), draw(9), draw(2) == 0 ? draw(4) : draw(310));
            return 1;
        }
        if (which < 25 && run % 2 == 0) {
            return text();
        }
        if (which < 27) {
            both(act("hours"), 1 + draw(4));
            return 1;
        }
        if (which < 30) {
            both(act("judge"), judged(), draw(8));
            return 1;
        }
        Method act = acts.get(draw(acts.size()));
        if (act.getName().equals("room") && draw(3) > 0) {
            return 0;
        }
        int[] args = new int[act.getParameterCount()];
        for (int i = 0; i < args.length; i++) {
            args[i] = draw(25) == 0 ? WILD[draw(WILD.length)] : argument(act.getName(), i);
        }
        both(act, args);
        return 1;
    }

    private int anyRoom() {
        return draw(Math.max(1, x.count(1)));
    }

    private int argument(String name, int i) {
        switch (name) {
            case "ahead":
                return i == 0 ? draw(101) : draw(12);
            case "of":
                return i == 0 ? anyRoom() : draw(10);
            case "spread":
            case "kindFor":
            case "coal":
            case "wall":
            case "turn":
            case "damper":
                return i == 0 ? anyRoom() : 1 + draw(draw(2) == 0 ? 5 : 60);
            case "tempted":
            case "missed":
            case "own":
            case "warmest":
            case "exchange":
            case "deal":
                return 1 + draw(draw(2) == 0 ? 5 : 24);
            case "orders":
                return i == 0 ? 2 + draw(4) : 1 + draw(draw(4) == 0 ? 24 : 4);
            case "sheet":
                return i == 0 ? draw(4) : i == 1 ? 8 * draw(5) : draw(12);
            case "write":
                return i == 0 ? draw(4) : i == 1 ? draw(8) : draw(400);
            case "copy":
                return draw(4);
            case "hold":
                return i == 0 ? draw(10) : draw(9) - 1;
            case "as":
                return draw(8);
            case "feed":
                return i == 0 ? draw(Integer.MAX_VALUE) : 1 + draw(4);
            default:
                return anyRoom();
        }
    }

    private int text() throws Exception {
        StringBuilder text = new StringBuilder();
        int parts = 1 + draw(16);
        if (draw(2) == 0) {
            int items = 1 + draw(4);
            for (int i = 0; i < items; i++) {
                text.append(i > 0 ? ";" : "").append(item());
            }
            parts = draw(12) == 0 ? 1 : 0;
        }
        for (int i = 0; i < parts; i++) {
            text.append(draw(4) == 0 ? " " : "").append(WORDS[draw(WORDS.length)]);
        }
        if (draw(4) > 0) {
            both(act("wipe"));
        }
        for (int i = 0; i < text.length(); i += 4) {
            int bytes = 0;
            int n = Math.min(4, text.length() - i);
            for (int j = 0; j < n; j++) {
                bytes = bytes << 8 | text.charAt(i + j);
            }
            both(act("feed"), bytes, n);
        }
        both(act("text"));
        return 3 + text.length() / 4;
    }

    private String item() {
        if (draw(5) == 0) {
            return "out " + draw(110);
        }
        if (draw(5) == 0) {
            return "damper " + draw(8) + " " + draw(4);
        }
        StringBuilder item = new StringBuilder(WORDS[draw(7)]);
        String[] parts = {"warm", "coal", "wall", "heats"};
        int[] below = {302, 1010, 21, 9};
        for (int i = 0; i < 4; i++) {
            if (draw(4) == 0) {
                item.append(' ').append(parts[i]).append(' ').append(draw(below[i]));
            }
        }
        return item.append(draw(4) == 0 ? "away" : draw(4) == 0 ? " away" : "").toString();
    }

    /** Writes what a room will be like on a sheet, so that judging it sometimes ends well. */
    private int judged() throws Exception {
        int s = draw(4);
        int n = draw(4);
        both(act("sheet"), s, 16, n);
        for (int i = 0; i < n; i++) {
            both(act("write"), s, i, x.ahead(i + 1, 4));
            model.call("ahead", i + 1, 4);
        }
        return s;
    }

    private void both(Method act, int... args) throws Exception {
        Object[] boxed = Arrays.stream(args).boxed().toArray();
        String call = act.getName() + Arrays.toString(args);
        history.add(call);
        int got = (Integer) act.invoke(x, boxed);
        int due = model.call(act.getName(), args);
        if (got != due) {
            System.out.println(String.join(" ", history));
            System.out.println(call + " answered " + got + ", the model says " + due);
            System.exit(1);
        }
    }
}
