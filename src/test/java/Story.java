import java.lang.reflect.InvocationTargetException;
import java.lang.reflect.Method;
import java.util.ArrayList;
import java.util.HashMap;
import java.util.List;
import java.util.Map;
import java.util.Set;

/**
 * A run of calls on one object, told in words ("change 0 1 300"). It can be lived again on another object: so each test
 * of a question or of a refused call sees that it changed nothing.
 */
final class Story {
    private static final int FINDINGS = 7;
    private static final Set<String> QUESTIONS = Set.of("of", "heaters", "reach", "now", "ahead", "cold", "spent", "rest",
        "circle", "spread", "kindFor", "tempted", "missed", "warmest", "exchange", "deal", "orders", "coal", "wall", "turn",
        "damper", "own", "culprits", "surely", "as", "judge", "count", "status");
    private static final Map<String, Method> ACTS = acts();
    /** THE TAPE, what is kept and each of four sheets are looked at on objects of their own. */
    private static final int LOOKS = 7;
    /** Looking makes some 130 calls more, and behind the 512th call all answers are free. */
    private static final int LONGEST = 380;

    private final Check check;
    private final WarmWalls x = new WarmWalls();
    private final List<String> calls = new ArrayList<>();

    Story(Check check) {
        this.check = check;
    }

    private static Map<String, Method> acts() {
        Map<String, Method> all = new HashMap<>();
        for (Method m : WarmWalls.class.getMethods()) {
            if (m.getDeclaringClass() == WarmWalls.class) {
                all.put(m.getName(), m);
            }
        }
        return all;
    }

    private static int act(WarmWalls x, String call) {
        String[] words = call.split(" ");
        Object[] arguments = new Object[words.length - 1];
        for (int i = 1; i < words.length; i++) {
            arguments[i - 1] = Integer.valueOf(words[i]);
        }
        try {
            return (Integer) ACTS.get(words[0]).invoke(x, arguments);
        } catch (IllegalAccessException | InvocationTargetException e) {
            throw new IllegalStateException(call + " threw", e);
        }
    }

    private static WarmWalls lived(List<String> calls) {
        WarmWalls x = new WarmWalls();
        for (String call : calls) {
            act(x, call);
        }
        return x;
    }

    // ---- calls

    /** Calls whose answers are another test's. */
    Story does(String... more) {
        for (String call : more) {
            act(x, call);
            calls.add(call);
        }
        return this;
    }

    /** change() of one number of ROOMS 0, 1, .. */
    Story all(int what, int... numbers) {
        for (int room = 0; room < numbers.length; room++) {
            does("change " + room + " " + what + " " + numbers[room]);
        }
        return this;
    }

    Story passTo(int hour) {
        while (x.count(0) < hour) {
            does("hours " + Math.min(100, hour - x.count(0)));
        }
        return this;
    }

    Story due(String call, int want) {
        int got = act(x, call);
        check.due(call, got, want);
        if (QUESTIONS.contains(call.split(" ")[0])) {
            dueNoChange(call, call.equals("count 6") ? 0 : got);
        }
        calls.add(call);
        return this;
    }

    /** A question whose answer is another test's: it changes nothing. */
    Story asks(String call) {
        int got = act(x, call);
        dueNoChange(call, got);
        calls.add(call);
        return this;
    }

    /** The finding is answered and counted, and nothing else has changed. */
    Story refused(String call, int finding) {
        int got = act(x, call);
        check.due(call, got, finding);
        dueNoChange(call, finding);
        calls.add(call);
        return this;
    }

    /** BEYOND just below the least number, just above the greatest one, and far away: "hours #", 1, 100. */
    Story beyond(String call, int least, int greatest) {
        int[] wrong = {least - 1, greatest + 1, Integer.MIN_VALUE, Integer.MAX_VALUE};
        for (int v : wrong) {
            refused(call.replace("#", String.valueOf(v)), Check.BEYOND);
        }
        return this;
    }

    // ---- texts

    Story feeds(String text) {
        for (int i = 0; i < text.length(); i++) {
            does("feed " + (int) text.charAt(i) + " 1");
        }
        return this;
    }

    Story items(String text, int items) {
        does("wipe");
        feeds(text);
        check.due("text of " + text, act(x, "text"), items);
        calls.add("text");
        check.due("bytes behind " + text, act(x, "count 5"), 0);
        return this;
    }

    /** A FAULT does the same as wipe(): nothing changes but THE TAPE, and no finding is counted. */
    Story fault(String text, int place) {
        does("wipe");
        feeds(text);
        check.due("text of \"" + text + "\"", act(x, "text"), -1 - place);
        dueAlike("text of \"" + text + "\"", "wipe", "text", 0);
        calls.add("text");
        return this;
    }

    // ---- what has changed

    private void dueNoChange(String call, int answer) {
        dueAlike(call + " changes nothing:", null, call, answer);
    }

    private void dueAlike(String what, String oneCall, String otherCall, int answer) {
        List<String> one = with(oneCall);
        List<String> other = with(otherCall);
        for (int look = 0; look < LOOKS; look++) {
            List<Integer> oneSeen = look(one, look);
            List<Integer> otherSeen = look(other, look);
            check.due(what + " seen alike (" + look + ")", oneSeen.equals(otherSeen) ? 1 : 0, 1);
        }
        WarmWalls oneLived = lived(one);
        WarmWalls otherLived = lived(other);
        for (int which = 0; which < FINDINGS; which++) {
            int more = Check.BEYOND - answer == which ? 1 : 0;
            check.due(what + " status " + which, otherLived.status(which) - oneLived.status(which), more);
        }
    }

    private List<String> with(String call) {
        if (calls.size() > LONGEST) {
            throw new IllegalStateException("a story of " + calls.size() + " calls can't be looked at");
        }
        List<String> more = new ArrayList<>(calls);
        if (call != null) {
            more.add(call);
        }
        return more;
    }

    private static List<Integer> look(List<String> calls, int look) {
        WarmWalls x = lived(calls);
        List<Integer> seen = new ArrayList<>();
        if (look >= 3) {
            lookAtSheet(x, look - 3, seen);
            return seen;
        }
        if (look == 1) {
            seen.add(x.text());
        }
        if (look == 2) {
            seen.add(x.undo());
        }
        lookAtHouse(x, seen);
        return seen;
    }

    private static void lookAtHouse(WarmWalls x, List<Integer> seen) {
        for (int what = 0; what < 8; what++) {
            seen.add(x.count(what));
        }
        seen.add(x.now(4));
        for (int room = 0; room < x.count(1); room++) {
            for (int what = 0; what < 10; what++) {
                seen.add(x.of(room, what));
            }
        }
        for (int spot = 0; spot < 10; spot++) {
            // All kinds are under EVEN.
            seen.add(x.as(spot, Check.EVEN));
        }
    }

    /** Each number is brought to the begin of the sheet and becomes COAL there, if it can. */
    private static void lookAtSheet(WarmWalls x, int s, List<Integer> seen) {
        if (x.count(1) == 0) {
            x.room(0);
        }
        for (int i = 0; i < 40; i++) {
            seen.add(x.copy(s, i, s, 0, 1));
            seen.add(x.load(s) == 0 ? -1 : x.of(0, 2));
        }
        // 5 of 8 bits, 261 of 16, and of 32 no COAL.
        seen.add(x.write(s, 0, 65536 + 261));
        seen.add(x.load(s) == 0 ? -1 : x.of(0, 2));
    }
}
