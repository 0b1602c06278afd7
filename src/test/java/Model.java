import java.util.ArrayList;
import java.util.Arrays;
import java.util.List;
import java.util.function.Consumer;
import java.util.function.ToIntFunction;
import java.util.regex.Matcher;
import java.util.regex.Pattern;

/** The document once more, written in another way and without care for speed: tests compare the two. */
final class Model {
    private static final int FOUND = -1000000;

    static final class One {
        int kind;
        boolean away;
        int gave = 1;
    }

    static final class Room {
        One one = new One();
        int warmth = 100;
        int coal = 50;
        int wall = 10;
        int heats;
        int damper;
        int got = 1;
    }

    static final class State {
        List<Room> rooms = new ArrayList<>();
        int out = 20;
        int hour;
        int z = 1;
        Integer[] spots = new Integer[10];

        State copy() {
            State c = new State();
            c.out = out;
            c.hour = hour;
            c.z = z;
            for (Room room : rooms) {
                Room r = new Room();
                r.one.kind = room.one.kind;
                r.one.away = room.one.away;
                r.one.gave = room.one.gave;
                r.warmth = room.warmth;
                r.coal = room.coal;
                r.wall = room.wall;
                r.heats = room.heats;
                r.damper = room.damper;
                r.got = room.got;
                c.rooms.add(r);
            }
            c.spots = spots.clone();
            return c;
        }

        int wants(Room r) {
            return wantsAs(r.one.kind, r);
        }

        private int wantsAs(int kind, Room r) {
            if (kind == 0) {
                return 1;
            }
            if (kind == 1) {
                return r.warmth >= 120 ? 2 : wantsAs(0, r);
            }
            if (kind == 2) {
                return r.got > 3 ? 3 : r.got;
            }
            if (kind == 3) {
                return wantsAs(2, r) / 2;
            }
            if (kind == 4) {
                return wantsAs(1, r) + 1;
            }
            if (kind == 5) {
                return hour % 2 == 0 ? wantsAs(0, r) : r.one.gave;
            }
            return r.got < 2 ? 0 : wantsAs(2, r);
        }

        int hour() {
            int n = rooms.size();
            int[] stoked = new int[n];
            for (int i = 0; i < n; i++) {
                Room r = rooms.get(i);
                int s = wants(r);
                s = s > r.coal ? r.coal : s;
                stoked[i] = r.one.away ? 0 : s;
            }
            int[] gets = new int[n];
            for (int i = 0; i < n; i++) {
                for (int from = 0; from < n; from++) {
                    if (rooms.get(from).heats == i && stoked[from] > rooms.get(from).damper) {
                        gets[i] += stoked[from] - rooms.get(from).damper;
                    }
                }
            }
            int sum = 0;
            for (int i = 0; i < n; i++) {
                Room r = rooms.get(i);
                r.coal -= stoked[i];
                r.one.gave = stoked[i];
                r.got = gets[i];
                r.warmth += 15 * gets[i];
                if (r.warmth > 300) {
                    r.warmth = 300;
                }
                if (out < r.warmth) {
                    r.warmth -= (r.warmth - out) / r.wall;
                }
                sum += stoked[i];
            }
            hour++;
            return sum;
        }

        State after(int n) {
            State c = copy();
            for (int i = 0; i < n; i++) {
                c.hour();
            }
            return c;
        }

        State afterWith(int n, Consumer<State> changed) {
            State c = copy();
            changed.accept(c);
            return c.after(n);
        }

        int warmth(int room) {
            return rooms.get(room).warmth;
        }

        int sum(ToIntFunction<Room> what) {
            return rooms.stream().mapToInt(what).sum();
        }

        int least() {
            return rooms.stream().mapToInt(r -> r.warmth).min().orElse(300);
        }

        int cold() {
            int set = 0;
            for (int i = 0; i < rooms.size(); i++) {
                set += warmth(i) < 60 ? 1 << i : 0;
            }
            return set;
        }

        void swap(int a, int b) {
            One one = rooms.get(a).one;
            rooms.get(a).one = rooms.get(b).one;
            rooms.get(b).one = one;
        }

        List<Integer> stoking() {
            List<Integer> all = new ArrayList<>();
            for (Room r : rooms) {
                all.add(r.got);
                all.add(r.one.gave);
            }
            all.add(hour % 2);
            return all;
        }

        int newRoom(int kind) {
            Room r = new Room();
            r.one.kind = kind;
            r.heats = rooms.size() == 7 ? 0 : rooms.size() + 1;
            rooms.add(r);
            return rooms.size() - 1;
        }
    }

    private State now = new State();
    private State kept;
    private final List<Integer> tape = new ArrayList<>();
    private final int[][] sheets = new int[4][];
    private final int[] bits = new int[4];
    private final List<Integer> findings = new ArrayList<>();

    /** An act that ends with a finding. */
    static final class Finding extends RuntimeException {
        final int finding;

        Finding(int finding) {
            super(null, null, false, false);
            this.finding = finding;
        }
    }

    int call(String name, int... a) {
        try {
            return act(name, a);
        } catch (Finding f) {
            findings.add(f.finding);
            return f.finding;
        }
    }

    private static void unless(boolean fine, int finding) {
        if (!fine) {
            throw new Finding(finding);
        }
    }

    private static void between(int v, int least, int most) {
        unless(v >= least && v <= most, Check.BEYOND);
    }

    private void isRoom(int room) {
        between(room, 0, now.rooms.size() - 1);
    }

    private void hoursLeft(int n) {
        unless(now.hour + n <= 9999, Check.STATE);
    }

    private int act(String name, int[] a) {
        switch (name) {
            case "room":
            case "of":
            case "change":
            case "out":
            case "heaters":
            case "reach":
            case "move":
                return rooms(name, a);
            case "hours":
            case "now":
            case "ahead":
            case "cold":
            case "spent":
            case "rest":
            case "circle":
                return hours(name, a);
            case "spread":
            case "kindFor":
            case "coal":
            case "wall":
            case "turn":
            case "damper":
                return forOne(name, a[0], a[1]);
            case "tempted":
            case "missed":
            case "own":
                return forAll(name, a[0]);
            case "warmest":
            case "exchange":
            case "deal":
                return pairs(name, a[0]);
            case "orders":
                return orders(a[0], a[1]);
            case "culprits":
            case "surely":
            case "travel":
            case "seed":
                return whoItWas(name, a);
            case "feed":
            case "wipe":
            case "text":
                return texts(name, a);
            case "hold":
            case "as":
                return spots(name, a[0], a[1]);
            case "sheet":
            case "write":
            case "copy":
            case "load":
            case "judge":
                return sheets(name, a);
            default:
                return images(name, a);
        }
    }

    private int rooms(String name, int[] a) {
        switch (name) {
            case "room":
                between(a[0], 0, 6);
                unless(now.rooms.size() < 8, Check.FULL);
                return now.newRoom(a[0]);
            case "of":
                isRoom(a[0]);
                between(a[1], 0, 9);
                return get(now.rooms.get(a[0]), a[1]);
            case "change":
                isRoom(a[0]);
                between(a[1], 0, 8);
                int[][] limits = {{0, 6}, {0, 300}, {0, 999}, {1, 20}, {0, 7}, {0, 1}, {0, 3}, {0, 24}, {0, 3}};
                between(a[2], limits[a[1]][0], limits[a[1]][1]);
                unless(a[1] != 4 || a[2] != a[0], Check.BEYOND);
                int was = get(now.rooms.get(a[0]), a[1]);
                put(now.rooms.get(a[0]), a[1], a[2]);
                return was;
            case "out":
                between(a[0], 0, 100);
                int out = now.out;
                now.out = a[0];
                return out;
            case "heaters":
                isRoom(a[0]);
                int heaters = 0;
                for (int i = 0; i < now.rooms.size(); i++) {
                    heaters += now.rooms.get(i).heats == a[0] ? 1 << i : 0;
                }
                return heaters;
            case "reach":
                isRoom(a[0]);
                return reach(a[0], 0);
            default:
                isRoom(a[0]);
                isRoom(a[1]);
                now.swap(a[0], a[1]);
                return 1;
        }
    }

    private int reach(int from, int set) {
        int next = now.rooms.get(from).heats;
        if (next >= now.rooms.size() || (set >> next & 1) == 1) {
            return set;
        }
        return reach(next, set | 1 << next);
    }

    private int get(Room r, int what) {
        int[] all = {r.one.kind, r.warmth, r.coal, r.wall, r.heats, r.one.away ? 1 : 0, r.damper, r.got, r.one.gave,
            now.wants(r)};
        return all[what];
    }

    private static void put(Room r, int what, int v) {
        switch (what) {
            case 0 -> r.one.kind = v;
            case 1 -> r.warmth = v;
            case 2 -> r.coal = v;
            case 3 -> r.wall = v;
            case 4 -> r.heats = v;
            case 5 -> r.one.away = v == 1;
            case 6 -> r.damper = v;
            case 7 -> r.got = v;
            default -> r.one.gave = v;
        }
    }

    private int hours(String name, int[] a) {
        switch (name) {
            case "hours":
                between(a[0], 1, 100);
                hoursLeft(a[0]);
                int shovels = 0;
                for (int i = 0; i < a[0]; i++) {
                    shovels += now.hour();
                }
                return shovels;
            case "now":
                between(a[0], 0, 5);
                int coldest = -1;
                for (int i = now.rooms.size() - 1; i >= 0; i--) {
                    coldest = now.warmth(i) == now.least() ? i : coldest;
                }
                return new int[] {now.hour, now.cold(), now.sum(r -> r.coal), now.sum(r -> r.warmth), now.out,
                    coldest}[a[0]];
            case "ahead":
                between(a[0], 0, 100);
                between(a[1], 0, 3 + now.rooms.size());
                hoursLeft(a[0]);
                State then = now.copy();
                int sum = 0;
                for (int i = 0; i < a[0]; i++) {
                    sum += then.hour();
                }
                return a[1] > 3 ? then.warmth(a[1] - 4)
                    : new int[] {sum, then.cold(), then.sum(r -> r.warmth), then.least()}[a[1]];
            case "cold":
            case "spent":
                isRoom(a[0]);
                hoursLeft(100);
                for (int n = 0; n <= 100; n++) {
                    Room r = now.after(n).rooms.get(a[0]);
                    if (name.equals("cold") ? r.warmth < 60 : r.coal == 0) {
                        return n;
                    }
                }
                throw new Finding(Check.NONE);
            case "rest":
                hoursLeft(100);
                for (int n = 1; n <= 60; n++) {
                    if (gave(now.after(n)).equals(gave(now.after(n - 1)))) {
                        return n;
                    }
                }
                throw new Finding(Check.NONE);
            default:
                hoursLeft(100);
                for (int p = 1; p <= 12; p++) {
                    if (now.after(24).stoking().equals(now.after(24 + p).stoking())) {
                        return p;
                    }
                }
                throw new Finding(Check.NONE);
        }
    }

    private static List<Integer> gave(State s) {
        List<Integer> all = new ArrayList<>();
        s.rooms.forEach(r -> all.add(r.one.gave));
        return all;
    }

    /** The first of what is from 0 up to a bound that has most; those that are not asked have -1. */
    private static int best(int bound, java.util.function.IntUnaryOperator has) {
        int best = -1;
        int most = -1;
        for (int i = 0; i < bound; i++) {
            int v = has.applyAsInt(i);
            if (v > most) {
                most = v;
                best = i;
            }
        }
        return best;
    }

    private int forOne(String name, int room, int n) {
        isRoom(room);
        between(n, 1, 60);
        hoursLeft(n);
        State asItIs = now.after(n);
        int rooms = now.rooms.size();
        switch (name) {
            case "spread":
                State other = now.afterWith(n, s -> s.rooms.get(room).one.kind = 3);
                int set = 0;
                for (int i = 0; i < rooms; i++) {
                    set += other.warmth(i) < asItIs.warmth(i) ? 1 << i : 0;
                }
                return set;
            case "kindFor":
                return best(7, kind -> now.afterWith(n, s -> s.rooms.get(room).one.kind = kind).warmth(room));
            case "damper":
                return best(4, d -> now.afterWith(n, s -> s.rooms.get(room).damper = d).warmth(room));
            case "turn":
                unless(rooms > 1, Check.STATE);
                return best(rooms, to -> to == room ? -1 : now.afterWith(n, s -> s.rooms.get(room).heats = to).least());
            case "wall":
                for (int wall = 1; wall <= 20; wall++) {
                    int w = wall;
                    if (now.afterWith(n, s -> s.rooms.get(room).wall = w).warmth(room) >= 60) {
                        return wall;
                    }
                }
                throw new Finding(Check.NONE);
            default:
                int heated = now.rooms.get(room).heats;
                unless(heated < rooms, Check.STATE);
                for (int coal = 0; coal <= 999; coal++) {
                    int c = coal;
                    if (now.afterWith(n, s -> s.rooms.get(room).coal = c).warmth(heated) >= 60) {
                        return coal;
                    }
                }
                throw new Finding(Check.NONE);
        }
    }

    private int forAll(String name, int n) {
        between(n, 1, 60);
        hoursLeft(n);
        State asItIs = now.after(n);
        int set = 0;
        switch (name) {
            case "tempted":
                for (int i = 0; i < now.rooms.size(); i++) {
                    int room = i;
                    State other = now.afterWith(n, s -> s.rooms.get(room).one.kind = 0);
                    set += other.warmth(i) > asItIs.warmth(i) ? 1 << i : 0;
                }
                return set;
            case "own":
                State own = now.afterWith(n, s -> s.rooms.forEach(r -> r.heats = s.rooms.indexOf(r)));
                for (int i = 0; i < now.rooms.size(); i++) {
                    set += own.warmth(i) > asItIs.warmth(i) ? 1 << i : 0;
                }
                return set;
            default:
                unless(!now.rooms.isEmpty(), Check.NONE);
                return best(now.rooms.size(), room -> 10000 + taken(asItIs, room, n));
        }
    }

    private int taken(State asItIs, int room, int n) {
        State other = now.afterWith(n, s -> s.rooms.get(room).one.away = true);
        int taken = 0;
        for (int i = 0; i < now.rooms.size(); i++) {
            taken += i == room ? 0 : asItIs.warmth(i) - other.warmth(i);
        }
        return taken;
    }

    private int pairs(String name, int n) {
        between(n, 1, 24);
        hoursLeft(n);
        unless(!now.rooms.isEmpty(), Check.STATE);
        State asItIs = now.after(n);
        int most = asItIs.least();
        int exchange = FOUND;
        int deal = FOUND;
        for (int a = 0; a < now.rooms.size(); a++) {
            for (int b = a + 1; b < now.rooms.size(); b++) {
                int one = a;
                int other = b;
                State then = now.afterWith(n, s -> s.swap(one, other));
                if (then.least() > most) {
                    most = then.least();
                    exchange = 10 * a + b;
                }
                if (deal == FOUND && then.warmth(b) > asItIs.warmth(a) && then.warmth(a) > asItIs.warmth(b)) {
                    deal = 10 * a + b;
                }
            }
        }
        if (name.equals("warmest")) {
            return most;
        }
        int pair = name.equals("exchange") ? exchange : deal;
        unless(pair != FOUND, Check.NONE);
        return pair;
    }

    private int orders(int k, int n) {
        between(k, 2, 5);
        between(k, 2, now.rooms.size());
        between(n, 1, 24);
        hoursLeft(n);
        return dealt(new ArrayList<>(), k, n);
    }

    private int dealt(List<Integer> from, int k, int n) {
        if (from.size() == k) {
            State then = now.afterWith(n, s -> {
                for (int i = 0; i < k; i++) {
                    s.rooms.get(i).one.kind = now.rooms.get(from.get(i)).one.kind;
                }
            });
            return then.cold() == 0 ? 1 : 0;
        }
        int sum = 0;
        for (int i = 0; i < k; i++) {
            if (!from.contains(i)) {
                List<Integer> more = new ArrayList<>(from);
                more.add(i);
                sum += dealt(more, k, n);
            }
        }
        return sum;
    }

    private int whoItWas(String name, int[] a) {
        if (name.equals("seed")) {
            int was = now.z;
            now.z = a[0];
            return was;
        }
        if (name.equals("travel")) {
            between(a[0], 1, 12);
            unless(!now.rooms.isEmpty(), Check.STATE);
            for (int i = 0; i < a[0]; i++) {
                now.z = (int) (now.z * 1103515245L + 12345L);
                One one = now.rooms.get((now.z >>> 8) % now.rooms.size()).one;
                one.away = !one.away;
            }
            int away = 0;
            for (int i = 0; i < now.rooms.size(); i++) {
                away += now.rooms.get(i).one.away ? 1 << i : 0;
            }
            return away;
        }
        List<Integer> sets = culprits();
        if (name.equals("culprits")) {
            return sets.size();
        }
        between(a[0], 0, 2);
        unless(!sets.isEmpty(), Check.NONE);
        return a[0] == 0 ? sets.stream().reduce(255, (s, t) -> s & t)
            : a[0] == 1 ? sets.stream().reduce(0, (s, t) -> s | t) : sets.get(0);
    }

    private List<Integer> culprits() {
        List<Integer> sets = new ArrayList<>();
        int rooms = now.rooms.size();
        for (int set = 0; set < 1 << rooms; set++) {
            int[] got = new int[8];
            for (int i = 0; i < rooms; i++) {
                got[now.rooms.get(i).heats] += (set >> i & 1) == 0 && now.rooms.get(i).damper == 0 ? 1 : 0;
            }
            boolean same = true;
            for (int i = 0; i < rooms; i++) {
                same &= got[i] == now.rooms.get(i).got;
            }
            if (same) {
                sets.add(set);
            }
        }
        return sets;
    }

    private int texts(String name, int[] a) {
        switch (name) {
            case "feed":
                between(a[1], 1, 4);
                unless(tape.size() + a[1] <= 120, Check.FULL);
                for (int i = a[1] - 1; i >= 0; i--) {
                    tape.add(a[0] >> 8 * i & 0xff);
                }
                return tape.size();
            case "wipe":
                int had = tape.size();
                tape.clear();
                return had;
            default:
                StringBuilder text = new StringBuilder();
                tape.forEach(b -> text.append((char) (int) b));
                tape.clear();
                return new Text(text.toString()).read();
        }
    }

    /** A text by a regular expression for each token. */
    private final class Text {
        private final String text;
        private final Matcher tokens;
        private final State draft = now.copy();
        private int place;
        private String token;

        Text(String text) {
            this.text = text;
            tokens = Pattern.compile("\\G *([a-z]+|[0-9]+|;|$|.)", Pattern.DOTALL).matcher(text);
        }

        int read() {
            try {
                next();
                int items = 1;
                item();
                while (!token.isEmpty()) {
                    want(token.equals(";"));
                    next();
                    item();
                    items++;
                }
                now = draft;
                return items;
            } catch (Finding fault) {
                return -1 - fault.finding;
            }
        }

        private void next() {
            if (tokens.find()) {
                token = tokens.group(1);
                place = tokens.start(1);
            } else {
                token = "";
                place = text.length();
            }
        }

        private void want(boolean fine) {
            unless(fine, place);
        }

        private int number(int least, int most) {
            want(token.matches("[0-9]+") && !token.replaceFirst("^0+(?=.)", "").matches(".{6,}"));
            int v = Integer.parseInt(token.replaceFirst("^0+(?=.)", ""));
            want(v >= least && v <= most);
            return v;
        }

        private boolean takes(String word) {
            if (!token.equals(word)) {
                return false;
            }
            next();
            return true;
        }

        private void item() {
            if (takes("out")) {
                draft.out = number(0, 100);
                next();
            } else if (takes("damper")) {
                Room room = draft.rooms.get(number(0, draft.rooms.size() - 1));
                next();
                room.damper = number(0, 3);
                next();
            } else {
                int kind = Arrays.asList("even", "kindly", "just", "miser", "saintly", "slow", "spiteful").indexOf(token);
                want(kind >= 0 && draft.rooms.size() < 8);
                Room room = draft.rooms.get(draft.newRoom(kind));
                next();
                parts(room);
            }
        }

        private void parts(Room room) {
            if (takes("warm")) {
                room.warmth = number(0, 300);
                next();
            }
            if (takes("coal")) {
                room.coal = number(0, 999);
                next();
            }
            if (takes("wall")) {
                room.wall = number(1, 20);
                next();
            }
            if (takes("heats")) {
                room.heats = number(0, 7);
                want(room.heats != draft.rooms.size() - 1);
                next();
            }
            room.one.away = takes("away");
        }
    }

    private int spots(String name, int spot, int v) {
        if (name.equals("hold")) {
            between(spot, 0, 9);
            between(v, -1, now.rooms.size() - 1);
            now.spots[spot] = v < 0 ? null : Integer.valueOf(v);
            return 1;
        }
        between(spot, 0, 9);
        between(v, 0, 6);
        Integer room = now.spots[spot];
        unless(room != null, Check.MISSING);
        List<List<Integer>> kinds = List.of(List.of(0), List.of(1, 0), List.of(2, 0), List.of(3, 2, 0),
            List.of(4, 1, 0), List.of(5, 0), List.of(6, 2, 0));
        unless(kinds.get(now.rooms.get(room).one.kind).contains(v), Check.KIND);
        return room;
    }

    private int sheets(String name, int[] a) {
        between(a[0], 0, 3);
        switch (name) {
            case "sheet":
                unless(List.of(0, 8, 16, 32).contains(a[1]), Check.BEYOND);
                unless(a[2] >= 0, Check.SIZE);
                between(a[2], 0, 40);
                bits[a[0]] = a[1];
                sheets[a[0]] = a[1] == 0 ? null : new int[a[2]];
                return a[1] == 0 ? 0 : a[2];
            case "write":
                unless(sheets[a[0]] != null, Check.MISSING);
                between(a[1], 0, sheets[a[0]].length - 1);
                sheets[a[0]][a[1]] = a[2] << 32 - bits[a[0]] >> 32 - bits[a[0]];
                return 1;
            case "copy":
                return copy(a[0], a[1], a[2], a[3], a[4]);
            case "load":
                unless(sheets[a[0]] != null, Check.MISSING);
                int came = 0;
                for (int v : sheets[a[0]]) {
                    if (v < 0 || v > 999 || came == now.rooms.size()) {
                        break;
                    }
                    now.rooms.get(came++).coal = v;
                }
                return came;
            default:
                unless(sheets[a[0]] != null, Check.MISSING);
                isRoom(a[1]);
                hoursLeft(sheets[a[0]].length);
                for (int i = 0; i < sheets[a[0]].length; i++) {
                    if (now.after(i + 1).warmth(a[1]) != sheets[a[0]][i]) {
                        return 1 + i;
                    }
                }
                return 0;
        }
    }

    private int copy(int s, int from, int t, int to, int n) {
        between(t, 0, 3);
        unless(sheets[s] != null && sheets[t] != null, Check.MISSING);
        unless(bits[s] == bits[t], Check.KIND);
        unless(from >= 0 && to >= 0 && n >= 0, Check.BEYOND);
        unless((long) from + n <= sheets[s].length && (long) to + n <= sheets[t].length, Check.BEYOND);
        int[] were = sheets[s].clone();
        for (int i = 0; i < n; i++) {
            sheets[t][to + i] = were[from + i];
        }
        return n;
    }

    private int images(String name, int[] a) {
        switch (name) {
            case "image":
                kept = now.copy();
                return 1;
            case "undo":
                unless(kept != null, Check.NONE);
                now = kept.copy();
                return now.hour;
            case "tear":
                int was = kept == null ? 0 : 1;
                kept = null;
                return was;
            case "count":
                between(a[0], 0, 7);
                return new int[] {now.hour, now.rooms.size(), now.sum(r -> r.coal), now.sum(r -> r.warmth),
                    now.sum(r -> r.one.away ? 1 : 0), tape.size(), now.z,
                    (int) Arrays.stream(now.spots).filter(s -> s != null).count()}[a[0]];
            case "status":
                between(a[0], -1, 6);
                return (int) findings.stream().filter(f -> a[0] == -1 || f == Check.BEYOND - a[0]).count();
            default:
                throw new IllegalArgumentException(name);
        }
    }
}
