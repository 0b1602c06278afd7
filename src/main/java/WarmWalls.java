import java.util.Arrays;

/** A tenement in which each stove heats another's room; ../shared/DOC.md says what every call answers. */
public final class WarmWalls {
    private static final int BEYOND = -1000001;
    private static final int FULL = BEYOND - 1;
    private static final int KIND = BEYOND - 2;
    private static final int NONE = BEYOND - 3;
    private static final int STATE = BEYOND - 4;
    private static final int MISSING = BEYOND - 5;
    private static final int SIZE = BEYOND - 6;
    /** What a check answers that has found nothing; no finding is 0. */
    private static final int FINE = 0;
    private static final int FINDINGS = 7;

    private static final int EVEN = 0;
    private static final int KINDLY = 1;
    private static final int JUST = 2;
    private static final int MISER = 3;
    private static final int SAINTLY = 4;
    private static final int SLOW = 5;
    private static final int SPITEFUL = 6;
    /** The kind above each kind; none above EVEN. */
    private static final int[] ABOVE = {-1, EVEN, EVEN, JUST, KINDLY, EVEN, JUST};

    private static final int WHAT_KIND = 0;
    private static final int WARMTH = 1;
    private static final int COAL = 2;
    private static final int WALL = 3;
    private static final int HEATS = 4;
    private static final int AWAY = 5;
    private static final int DAMPER = 6;
    private static final int GOT = 7;
    private static final int GAVE = 8;
    private static final int WANTS = 9;
    /** What of() tells and change() sets, 0 to 8, lies between these. */
    private static final int[] LEAST = {0, 0, 0, 1, 0, 0, 0, 0, 0};
    private static final int[] MOST = {6, 300, 999, 20, 7, 1, 3, 24, 3};

    private static final int MOST_ROOMS = 8;
    private static final int MOST_SPOTS = 10;
    private static final int MOST_SHEETS = 4;
    private static final int MOST_NUMBERS = 40;
    private static final int MOST_BYTES = 120;
    private static final int MOST_OUT = 100;
    private static final int MOST_WARMTH = 300;
    private static final int COLD_BELOW = 60;
    private static final int LAST_HOUR = 9999;
    /** How many HOURS an act looks or goes at most: one of these three. */
    private static final int FARTHEST = 100;
    private static final int FAR = 60;
    private static final int NEAR = 24;

    private final House house = new House();
    /** What would be: filled anew by each act that asks; acts make no objects. */
    private final House trial = new House();
    private final House asItGoes = new House();
    private final House kept = new House();
    private boolean isKept;
    private final TextReader reader = new TextReader();
    private final Tape tape = reader.tape;
    private final Sheet[] sheets = new Sheet[MOST_SHEETS];
    private final int[] told = new int[FINDINGS];

    public WarmWalls() {
        for (int s = 0; s < MOST_SHEETS; s++) {
            sheets[s] = new Sheet();
        }
    }

    // ---- rooms

    public int room(int kind) {
        if (!isKind(kind)) {
            return tell(BEYOND);
        }
        if (house.rooms >= MOST_ROOMS) {
            return tell(FULL);
        }
        return house.addRoom(kind);
    }

    public int of(int room, int what) {
        if (!house.has(room)) {
            return tell(BEYOND);
        }
        if (what == WANTS) {
            return house.wants(room);
        }
        int[] row = house.rowOf(what);
        return row == null ? tell(BEYOND) : row[room];
    }

    public int change(int room, int what, int v) {
        int[] row = house.rowOf(what);
        if (row == null || !house.fits(room, what, v)) {
            return tell(BEYOND);
        }
        int before = row[room];
        row[room] = v;
        return before;
    }

    public int out(int v) {
        if (v < 0 || v > MOST_OUT) {
            return tell(BEYOND);
        }
        int before = house.out;
        house.out = v;
        return before;
    }

    public int heaters(int room) {
        return house.has(room) ? house.heatersOf(room) : tell(BEYOND);
    }

    public int reach(int room) {
        return house.has(room) ? house.reachedFrom(room) : tell(BEYOND);
    }

    public int move(int one, int other) {
        if (!house.has(one) || !house.has(other)) {
            return tell(BEYOND);
        }
        house.changePlaces(one, other);
        return 1;
    }

    // ---- hours

    public int hours(int n) {
        int finding = findingOfHours(n, FARTHEST);
        return finding == FINE ? house.passHours(n) : tell(finding);
    }

    public int now(int what) {
        switch (what) {
            case 0:
                return house.hour;
            case 1:
                return house.coldRooms();
            case 2:
                return house.sumOf(house.coal);
            case 3:
                return house.sumOf(house.warmth);
            case 4:
                return house.out;
            case 5:
                return house.coldestRoom();
            default:
                return tell(BEYOND);
        }
    }

    public int ahead(int n, int what) {
        if (n < 0 || n > FARTHEST || what < 0 || (what > 3 && !house.has(what - 4))) {
            return tell(BEYOND);
        }
        if (house.hour + n > LAST_HOUR) {
            return tell(STATE);
        }
        startTrial();
        int shovels = trial.passHours(n);
        switch (what) {
            case 0:
                return shovels;
            case 1:
                return trial.coldRooms();
            case 2:
                return trial.sumOf(trial.warmth);
            case 3:
                return trial.leastWarmth();
            default:
                return trial.warmth[what - 4];
        }
    }

    public int cold(int room) {
        return firstBelow(room, WARMTH, COLD_BELOW);
    }

    public int spent(int room) {
        return firstBelow(room, COAL, 1);
    }

    /** Behind how many HOURS AHEAD a number of a ROOM is below a bound first. */
    private int firstBelow(int room, int what, int bound) {
        if (!house.has(room)) {
            return tell(BEYOND);
        }
        if (isLate()) {
            return tell(STATE);
        }
        startTrial();
        int[] row = what == WARMTH ? trial.warmth : trial.coal;
        for (int n = 0; n <= FARTHEST; n++) {
            if (row[room] < bound) {
                return n;
            }
            trial.passHour();
        }
        return tell(NONE);
    }

    public int rest() {
        if (isLate()) {
            return tell(STATE);
        }
        startTrial();
        for (int n = 1; n <= 60; n++) {
            if (trial.nextIsRest()) {
                return n;
            }
            trial.passHour();
        }
        return tell(NONE);
    }

    public int circle() {
        if (isLate()) {
            return tell(STATE);
        }
        goAsItGoes(24);
        trial.becomes(asItGoes);
        for (int p = 1; p <= 12; p++) {
            trial.passHour();
            if (trial.stokesLike(asItGoes)) {
                return p;
            }
        }
        return tell(NONE);
    }

    // ---- one and all

    public int spread(int room, int n) {
        int finding = findingOfRoomAhead(room, n);
        if (finding != FINE) {
            return tell(finding);
        }
        goAsItGoes(n);
        goWith(room, WHAT_KIND, MISER, n);
        return asItGoes.warmerThan(trial);
    }

    public int kindFor(int room, int n) {
        int finding = findingOfRoomAhead(room, n);
        if (finding != FINE) {
            return tell(finding);
        }
        return bestForItself(room, WHAT_KIND, n);
    }

    /** The least number of a ROOM's, of all it may have, with which it is warmest itself. */
    private int bestForItself(int room, int what, int n) {
        int best = 0;
        int most = -1;
        for (int v = LEAST[what]; v <= MOST[what]; v++) {
            goWith(room, what, v, n);
            if (trial.warmth[room] > most) {
                most = trial.warmth[room];
                best = v;
            }
        }
        return best;
    }

    public int tempted(int n) {
        int finding = findingOfHours(n, FAR);
        if (finding != FINE) {
            return tell(finding);
        }
        goAsItGoes(n);
        int set = 0;
        for (int room = 0; room < house.rooms; room++) {
            goWith(room, WHAT_KIND, EVEN, n);
            if (trial.warmth[room] > asItGoes.warmth[room]) {
                set |= 1 << room;
            }
        }
        return set;
    }

    public int missed(int n) {
        int finding = findingOfHours(n, FAR);
        if (finding == FINE && house.rooms == 0) {
            finding = NONE;
        }
        if (finding != FINE) {
            return tell(finding);
        }
        goAsItGoes(n);
        int best = 0;
        int most = takenByAbsence(0, n);
        for (int room = 1; room < house.rooms; room++) {
            int taken = takenByAbsence(room, n);
            if (taken > most) {
                most = taken;
                best = room;
            }
        }
        return best;
    }

    /** Below 0 if the others are warmer without it: coal that isn't stoked yet is stoked later. */
    private int takenByAbsence(int room, int n) {
        goWith(room, AWAY, 1, n);
        int all = asItGoes.sumOf(asItGoes.warmth) - trial.sumOf(trial.warmth);
        return all - (asItGoes.warmth[room] - trial.warmth[room]);
    }

    public int warmest(int n) {
        int finding = findingOfPairs(n);
        if (finding != FINE) {
            return tell(finding);
        }
        int pair = bestPair(n);
        if (pair == NONE) {
            return asItGoes.leastWarmth();
        }
        goWithMove(pair / 10, pair % 10, n);
        return trial.leastWarmth();
    }

    public int exchange(int n) {
        int finding = findingOfPairs(n);
        if (finding != FINE) {
            return tell(finding);
        }
        int pair = bestPair(n);
        return pair == NONE ? tell(NONE) : pair;
    }

    /** The first pair that leaves the coldest warmest; NONE if it is no better off than as it goes. */
    private int bestPair(int n) {
        int pair = NONE;
        goAsItGoes(n);
        int most = asItGoes.leastWarmth();
        for (int one = 0; one < house.rooms; one++) {
            for (int other = one + 1; other < house.rooms; other++) {
                goWithMove(one, other, n);
                if (trial.leastWarmth() > most) {
                    most = trial.leastWarmth();
                    pair = 10 * one + other;
                }
            }
        }
        return pair;
    }

    public int deal(int n) {
        int finding = findingOfPairs(n);
        if (finding != FINE) {
            return tell(finding);
        }
        goAsItGoes(n);
        for (int one = 0; one < house.rooms; one++) {
            for (int other = one + 1; other < house.rooms; other++) {
                goWithMove(one, other, n);
                if (trial.warmth[other] > asItGoes.warmth[one] && trial.warmth[one] > asItGoes.warmth[other]) {
                    return 10 * one + other;
                }
            }
        }
        return tell(NONE);
    }

    public int orders(int k, int n) {
        if (k < 2 || k > 5 || k > house.rooms) {
            return tell(BEYOND);
        }
        int finding = findingOfHours(n, NEAR);
        if (finding != FINE) {
            return tell(finding);
        }
        int all = 1;
        for (int i = 2; i <= k; i++) {
            all *= i;
        }
        int warm = 0;
        for (int order = 0; order < all; order++) {
            startTrial();
            dealKinds(k, order);
            trial.passHours(n);
            if (trial.coldRooms() == 0) {
                warm++;
            }
        }
        return warm;
    }

    /** An order's number tells for each ROOM which of the KINDS that are left it gets. */
    private void dealKinds(int k, int order) {
        int left = (1 << k) - 1;
        int rest = order;
        for (int room = 0; room < k; room++) {
            int choices = k - room;
            int from = memberOf(left, rest % choices);
            rest /= choices;
            left &= ~(1 << from);
            trial.kind[room] = house.kind[from];
        }
    }

    private static int memberOf(int set, int place) {
        int before = 0;
        for (int i = 0; i < MOST_ROOMS; i++) {
            if ((set >> i & 1) == 1) {
                if (before == place) {
                    return i;
                }
                before++;
            }
        }
        return 0;
    }

    // ---- coal, walls, stoves

    public int coal(int room, int n) {
        int finding = findingOfRoomAhead(room, n);
        if (finding == FINE && !house.has(house.heats[room])) {
            finding = STATE;
        }
        if (finding != FINE) {
            return tell(finding);
        }
        // No one stokes more than 3 shovels an HOUR: more COAL than that changes nothing.
        for (int coal = 0; coal <= 3 * n; coal++) {
            goWith(room, COAL, coal, n);
            if (trial.warmth[house.heats[room]] >= COLD_BELOW) {
                return coal;
            }
        }
        return tell(NONE);
    }

    public int wall(int room, int n) {
        int finding = findingOfRoomAhead(room, n);
        if (finding != FINE) {
            return tell(finding);
        }
        for (int wall = LEAST[WALL]; wall <= MOST[WALL]; wall++) {
            goWith(room, WALL, wall, n);
            if (trial.warmth[room] >= COLD_BELOW) {
                return wall;
            }
        }
        return tell(NONE);
    }

    public int turn(int room, int n) {
        int finding = findingOfRoomAhead(room, n);
        if (finding == FINE && house.rooms == 1) {
            finding = STATE;
        }
        if (finding != FINE) {
            return tell(finding);
        }
        int best = 0;
        int most = -1;
        for (int heated = 0; heated < house.rooms; heated++) {
            if (heated == room) {
                continue;
            }
            goWith(room, HEATS, heated, n);
            int least = trial.leastWarmth();
            if (least > most) {
                most = least;
                best = heated;
            }
        }
        return best;
    }

    public int damper(int room, int n) {
        int finding = findingOfRoomAhead(room, n);
        if (finding != FINE) {
            return tell(finding);
        }
        return bestForItself(room, DAMPER, n);
    }

    public int own(int n) {
        int finding = findingOfHours(n, FAR);
        if (finding != FINE) {
            return tell(finding);
        }
        goAsItGoes(n);
        startTrial();
        for (int room = 0; room < trial.rooms; room++) {
            trial.heats[room] = room;
        }
        trial.passHours(n);
        return trial.warmerThan(asItGoes);
    }

    // ---- who it was

    public int culprits() {
        int sets = 0;
        for (int set = 0; set < 1 << house.rooms; set++) {
            if (house.gotAsIfColdBy(set)) {
                sets++;
            }
        }
        return sets;
    }

    public int surely(int what) {
        if (what < 0 || what > 2) {
            return tell(BEYOND);
        }
        int inAll = -1;
        int inAny = 0;
        int least = -1;
        for (int set = 0; set < 1 << house.rooms; set++) {
            if (house.gotAsIfColdBy(set)) {
                inAll &= set;
                inAny |= set;
                least = least < 0 ? set : least;
            }
        }
        if (least < 0) {
            return tell(NONE);
        }
        return what == 0 ? inAll : what == 1 ? inAny : least;
    }

    public int travel(int n) {
        if (n < 1 || n > 12) {
            return tell(BEYOND);
        }
        if (house.rooms == 0) {
            return tell(STATE);
        }
        for (int i = 0; i < n; i++) {
            int room = house.draw() % house.rooms;
            house.away[room] = 1 - house.away[room];
        }
        return house.awayRooms();
    }

    public int seed(int v) {
        int before = house.z;
        house.z = v;
        return before;
    }

    // ---- texts

    public int feed(int bytes, int n) {
        if (n < 1 || n > 4) {
            return tell(BEYOND);
        }
        if (tape.length + n > MOST_BYTES) {
            return tell(FULL);
        }
        tape.append(bytes, n);
        return tape.length;
    }

    public int wipe() {
        int had = tape.length;
        tape.length = 0;
        return had;
    }

    public int text() {
        int items = reader.read(house);
        tape.length = 0;
        return items;
    }

    // ---- spots, sheets

    public int hold(int spot, int room) {
        if (!isSpot(spot) || (room != -1 && !house.has(room))) {
            return tell(BEYOND);
        }
        house.spots[spot] = room;
        return 1;
    }

    public int as(int spot, int kind) {
        if (!isSpot(spot) || !isKind(kind)) {
            return tell(BEYOND);
        }
        int room = house.spots[spot];
        if (!house.has(room)) {
            return tell(MISSING);
        }
        return house.isOneOf(room, kind) ? room : tell(KIND);
    }

    public int sheet(int s, int bits, int n) {
        if (!isSheet(s) || (bits != 0 && bits != 8 && bits != 16 && bits != 32)) {
            return tell(BEYOND);
        }
        if (n < 0) {
            return tell(SIZE);
        }
        if (n > MOST_NUMBERS) {
            return tell(BEYOND);
        }
        sheets[s].renew(bits, n);
        return bits == 0 ? 0 : n;
    }

    public int write(int s, int i, int v) {
        int finding = findingOfSheet(s);
        if (finding != FINE) {
            return tell(finding);
        }
        if (!sheets[s].has(i, 1)) {
            return tell(BEYOND);
        }
        sheets[s].put(i, v);
        return 1;
    }

    public int copy(int s, int from, int t, int to, int n) {
        if (!isSheet(s) || !isSheet(t)) {
            return tell(BEYOND);
        }
        Sheet source = sheets[s];
        Sheet target = sheets[t];
        if (source.bits == 0 || target.bits == 0) {
            return tell(MISSING);
        }
        if (source.bits != target.bits) {
            return tell(KIND);
        }
        if (!source.has(from, n) || !target.has(to, n)) {
            return tell(BEYOND);
        }
        System.arraycopy(source.numbers, from, target.numbers, to, n);
        return n;
    }

    public int load(int s) {
        int finding = findingOfSheet(s);
        if (finding != FINE) {
            return tell(finding);
        }
        Sheet sheet = sheets[s];
        int came = 0;
        while (came < sheet.length && house.fits(came, COAL, sheet.numbers[came])) {
            house.coal[came] = sheet.numbers[came];
            came++;
        }
        return came;
    }

    public int judge(int s, int room) {
        int finding = findingOfSheet(s);
        if (finding != FINE) {
            return tell(finding);
        }
        if (!house.has(room)) {
            return tell(BEYOND);
        }
        Sheet sheet = sheets[s];
        if (house.hour + sheet.length > LAST_HOUR) {
            return tell(STATE);
        }
        startTrial();
        for (int i = 0; i < sheet.length; i++) {
            trial.passHour();
            if (trial.warmth[room] != sheet.numbers[i]) {
                return 1 + i;
            }
        }
        return 0;
    }

    // ---- images

    public int image() {
        kept.becomes(house);
        isKept = true;
        return 1;
    }

    public int undo() {
        if (!isKept) {
            return tell(NONE);
        }
        house.becomes(kept);
        return house.hour;
    }

    public int tear() {
        int was = isKept ? 1 : 0;
        isKept = false;
        return was;
    }

    public int count(int what) {
        switch (what) {
            case 0:
                return house.hour;
            case 1:
                return house.rooms;
            case 2:
                return house.sumOf(house.coal);
            case 3:
                return house.sumOf(house.warmth);
            case 4:
                return house.sumOf(house.away);
            case 5:
                return tape.length;
            case 6:
                return house.z;
            case 7:
                return house.spotsInUse();
            default:
                return tell(BEYOND);
        }
    }

    public int status(int which) {
        if (which < -1 || which >= FINDINGS) {
            return tell(BEYOND);
        }
        if (which >= 0) {
            return told[which];
        }
        int all = 0;
        for (int i = 0; i < FINDINGS; i++) {
            all += told[i];
        }
        return all;
    }

    // ---- findings

    private int tell(int finding) {
        int which = BEYOND - finding;
        if (which >= 0 && which < FINDINGS) {
            told[which]++;
        }
        return finding;
    }

    private int findingOfHours(int n, int most) {
        if (n < 1 || n > most) {
            return BEYOND;
        }
        return house.hour + n > LAST_HOUR ? STATE : FINE;
    }

    /** Whether an act that always looks as far as can be has not enough HOURS left. */
    private boolean isLate() {
        return house.hour + FARTHEST > LAST_HOUR;
    }

    private int findingOfRoomAhead(int room, int n) {
        return house.has(room) ? findingOfHours(n, FAR) : BEYOND;
    }

    private int findingOfPairs(int n) {
        int finding = findingOfHours(n, NEAR);
        return finding == FINE && house.rooms == 0 ? STATE : finding;
    }

    private int findingOfSheet(int s) {
        if (!isSheet(s)) {
            return BEYOND;
        }
        return sheets[s].bits == 0 ? MISSING : FINE;
    }

    private static boolean isKind(int kind) {
        return kind >= EVEN && kind <= SPITEFUL;
    }

    private static boolean isSpot(int spot) {
        return spot >= 0 && spot < MOST_SPOTS;
    }

    private static boolean isSheet(int s) {
        return s >= 0 && s < MOST_SHEETS;
    }

    // ---- what would be

    private void startTrial() {
        trial.becomes(house);
    }

    private void goAsItGoes(int n) {
        asItGoes.becomes(house);
        asItGoes.passHours(n);
    }

    private void goWith(int room, int what, int v, int n) {
        startTrial();
        int[] row = trial.rowOf(what);
        if (row != null && trial.has(room)) {
            row[room] = v;
        }
        trial.passHours(n);
    }

    private void goWithMove(int one, int other, int n) {
        startTrial();
        trial.changePlaces(one, other);
        trial.passHours(n);
    }

    /** All that an image keeps: the ROOMS, those who live there, OUT, HOUR, z and the SPOTS. */
    private static final class House {
        int rooms;
        int out = 20;
        int hour;
        int z = 1;
        final int[] kind = new int[MOST_ROOMS];
        final int[] warmth = new int[MOST_ROOMS];
        final int[] coal = new int[MOST_ROOMS];
        final int[] wall = new int[MOST_ROOMS];
        final int[] heats = new int[MOST_ROOMS];
        final int[] away = new int[MOST_ROOMS];
        final int[] damper = new int[MOST_ROOMS];
        final int[] got = new int[MOST_ROOMS];
        final int[] gave = new int[MOST_ROOMS];
        /** The ROOM whose one a SPOT holds, whoever lives there by then; -1 for nothing. */
        final int[] spots = new int[MOST_SPOTS];

        House() {
            Arrays.fill(spots, -1);
        }

        boolean has(int room) {
            return room >= 0 && room < rooms;
        }

        /** Only where there is a place left. */
        int addRoom(int newKind) {
            int room = rooms;
            if (room < 0 || room >= MOST_ROOMS) {
                return -1;
            }
            kind[room] = newKind;
            warmth[room] = 100;
            coal[room] = 50;
            wall[room] = 10;
            heats[room] = (room + 1) % MOST_ROOMS;
            away[room] = 0;
            damper[room] = 0;
            got[room] = 1;
            gave[room] = 1;
            rooms++;
            return room;
        }

        int[] rowOf(int what) {
            switch (what) {
                case WHAT_KIND:
                    return kind;
                case WARMTH:
                    return warmth;
                case COAL:
                    return coal;
                case WALL:
                    return wall;
                case HEATS:
                    return heats;
                case AWAY:
                    return away;
                case DAMPER:
                    return damper;
                case GOT:
                    return got;
                case GAVE:
                    return gave;
                default:
                    return null;
            }
        }

        boolean fits(int room, int what, int v) {
            if (!has(room) || what < 0 || what >= MOST.length || what >= LEAST.length) {
                return false;
            }
            return v >= LEAST[what] && v <= MOST[what] && !(what == HEATS && v == room);
        }

        void becomes(House other) {
            rooms = other.rooms;
            out = other.out;
            hour = other.hour;
            z = other.z;
            System.arraycopy(other.kind, 0, kind, 0, MOST_ROOMS);
            System.arraycopy(other.warmth, 0, warmth, 0, MOST_ROOMS);
            System.arraycopy(other.coal, 0, coal, 0, MOST_ROOMS);
            System.arraycopy(other.wall, 0, wall, 0, MOST_ROOMS);
            System.arraycopy(other.heats, 0, heats, 0, MOST_ROOMS);
            System.arraycopy(other.away, 0, away, 0, MOST_ROOMS);
            System.arraycopy(other.damper, 0, damper, 0, MOST_ROOMS);
            System.arraycopy(other.got, 0, got, 0, MOST_ROOMS);
            System.arraycopy(other.gave, 0, gave, 0, MOST_ROOMS);
            System.arraycopy(other.spots, 0, spots, 0, MOST_SPOTS);
        }

        int wants(int room) {
            int kindly = warmth[room] >= 120 ? 2 : 1;
            int just = Math.min(got[room], 3);
            switch (kind[room]) {
                case KINDLY:
                    return kindly;
                case SAINTLY:
                    return kindly + 1;
                case JUST:
                    return just;
                case MISER:
                    return just / 2;
                case SPITEFUL:
                    return got[room] < 2 ? 0 : just;
                case SLOW:
                    return hour % 2 == 1 ? gave[room] : 1;
                default:
                    return 1;
            }
        }

        int stokes(int room) {
            return away[room] == 1 ? 0 : Math.min(wants(room), coal[room]);
        }

        int passHours(int n) {
            int shovels = 0;
            for (int i = 0; i < n; i++) {
                shovels += passHour();
            }
            return shovels;
        }

        int passHour() {
            int shovels = 0;
            // One stokes by its own row alone, so GAVE can be written while the next ones still stoke.
            for (int room = 0; room < rooms; room++) {
                gave[room] = stokes(room);
                coal[room] -= gave[room];
                shovels += gave[room];
            }
            heat();
            for (int room = 0; room < rooms; room++) {
                warmth[room] = Math.min(warmth[room] + 15 * got[room], MOST_WARMTH);
                warmth[room] -= lostBy(room);
            }
            hour++;
            return shovels;
        }

        private void heat() {
            Arrays.fill(got, 0);
            for (int room = 0; room < rooms; room++) {
                if (has(heats[room])) {
                    got[heats[room]] += Math.max(gave[room] - damper[room], 0);
                }
            }
        }

        private int lostBy(int room) {
            if (out >= warmth[room] || wall[room] <= 0) {
                return 0;
            }
            return (warmth[room] - out) / wall[room];
        }

        boolean nextIsRest() {
            for (int room = 0; room < rooms; room++) {
                if (stokes(room) != gave[room]) {
                    return false;
                }
            }
            return true;
        }

        /** Whether the STATE OF STOKING is the same. */
        boolean stokesLike(House other) {
            if ((hour - other.hour) % 2 != 0) {
                return false;
            }
            for (int room = 0; room < rooms; room++) {
                if (got[room] != other.got[room] || gave[room] != other.gave[room]) {
                    return false;
                }
            }
            return true;
        }

        /** Only what the document names goes along: SPOTS stay with their ROOM's number. */
        void changePlaces(int one, int other) {
            swap(kind, one, other);
            swap(away, one, other);
            swap(gave, one, other);
        }

        private static void swap(int[] row, int one, int other) {
            int before = row[one];
            row[one] = row[other];
            row[other] = before;
        }

        boolean isOneOf(int room, int wanted) {
            int above = kind[room];
            for (int i = 0; i < ABOVE.length && isKind(above); i++) {
                if (above == wanted) {
                    return true;
                }
                above = ABOVE[above];
            }
            return false;
        }

        int heatersOf(int room) {
            int set = 0;
            for (int i = 0; i < rooms; i++) {
                if (heats[i] == room) {
                    set |= 1 << i;
                }
            }
            return set;
        }

        int reachedFrom(int room) {
            int set = 0;
            int next = heats[room];
            // Behind as many steps as there are ROOMS it only goes round.
            for (int i = 0; i < rooms && has(next); i++) {
                set |= 1 << next;
                next = heats[next];
            }
            return set;
        }

        int coldRooms() {
            int set = 0;
            for (int room = 0; room < rooms; room++) {
                if (warmth[room] < COLD_BELOW) {
                    set |= 1 << room;
                }
            }
            return set;
        }

        int awayRooms() {
            int set = 0;
            for (int room = 0; room < rooms; room++) {
                if (away[room] == 1) {
                    set |= 1 << room;
                }
            }
            return set;
        }

        int warmerThan(House other) {
            int set = 0;
            for (int room = 0; room < rooms; room++) {
                if (warmth[room] > other.warmth[room]) {
                    set |= 1 << room;
                }
            }
            return set;
        }

        int sumOf(int[] row) {
            int sum = 0;
            for (int room = 0; room < rooms; room++) {
                sum += row[room];
            }
            return sum;
        }

        int leastWarmth() {
            int room = coldestRoom();
            return room < 0 ? MOST_WARMTH : warmth[room];
        }

        int coldestRoom() {
            int coldest = -1;
            for (int room = 0; room < rooms; room++) {
                if (coldest < 0 || warmth[room] < warmth[coldest]) {
                    coldest = room;
                }
            }
            return coldest;
        }

        int spotsInUse() {
            int used = 0;
            for (int spot = 0; spot < MOST_SPOTS; spot++) {
                if (spots[spot] >= 0) {
                    used++;
                }
            }
            return used;
        }

        int draw() {
            z = z * 1103515245 + 12345;
            return z >>> 8;
        }

        /** Whether GOT of all is what it is if these stoked nothing and all others 1 shovel each. */
        boolean gotAsIfColdBy(int set) {
            for (int room = 0; room < rooms; room++) {
                if (got[room] != gotIfColdBy(set, room)) {
                    return false;
                }
            }
            return true;
        }

        private int gotIfColdBy(int set, int room) {
            int shovels = 0;
            for (int i = 0; i < rooms; i++) {
                if (heats[i] == room && (set >> i & 1) == 0) {
                    shovels += Math.max(1 - damper[i], 0);
                }
            }
            return shovels;
        }
    }

    private static final class Tape {
        final int[] bytes = new int[MOST_BYTES];
        int length;

        /** Only what there is place for. */
        void append(int number, int n) {
            for (int i = n - 1; i >= 0 && length >= 0 && length < MOST_BYTES; i--) {
                bytes[length] = number >>> 8 * i & 255;
                length++;
            }
        }

        /** -1 where there is none. */
        int byteAt(int place) {
            return place >= 0 && place < length && place < MOST_BYTES ? bytes[place] : -1;
        }
    }

    /** Reads THE TAPE into a draft of the house: with a FAULT that is lost, and nothing has changed. */
    private static final class TextReader {
        private static final int END = 0;
        private static final int WORD = 1;
        private static final int NUMBER = 2;
        private static final int SIGN = 3;
        private static final int OTHER = 4;
        /** More than any NUMBER may be; greater ones needn't be told apart. */
        private static final int TOO_MUCH = 10000;

        final Tape tape = new Tape();
        private final House draft = new House();
        private int token;
        private int begin;
        private int end;
        private int value;

        /** How many ITEMS, or -1 less the FAULT. */
        int read(House house) {
            draft.becomes(house);
            end = 0;
            step();
            for (int items = 1; items <= MOST_BYTES && readItem(); items++) {
                if (token == END) {
                    house.becomes(draft);
                    return items;
                }
                if (token != SIGN) {
                    break;
                }
                step();
            }
            return -1 - begin;
        }

        /** False leaves the TOKEN that can't stand there as the one it is at. */
        private boolean readItem() {
            int kind = kindTold();
            if (kind >= 0) {
                return readRoom(kind);
            }
            if (isWord("out")) {
                return readOut();
            }
            return isWord("damper") && readDamper();
        }

        private boolean readRoom(int kind) {
            if (draft.rooms >= MOST_ROOMS) {
                return false;
            }
            int room = draft.addRoom(kind);
            step();
            for (int what = WARMTH; what <= HEATS; what++) {
                if (isWord(wordOfPart(what))) {
                    step();
                    if (!readValue(room, what)) {
                        return false;
                    }
                }
            }
            if (isWord("away") && draft.has(room)) {
                draft.away[room] = 1;
                step();
            }
            return true;
        }

        private boolean readValue(int room, int what) {
            int[] row = draft.rowOf(what);
            if (token != NUMBER || row == null || !draft.fits(room, what, value)) {
                return false;
            }
            row[room] = value;
            step();
            return true;
        }

        private boolean readOut() {
            step();
            if (token != NUMBER || value > MOST_OUT) {
                return false;
            }
            draft.out = value;
            step();
            return true;
        }

        private boolean readDamper() {
            step();
            if (token != NUMBER || !draft.has(value)) {
                return false;
            }
            int room = value;
            step();
            return readValue(room, DAMPER);
        }

        private int kindTold() {
            for (int kind = EVEN; kind <= SPITEFUL; kind++) {
                if (isWord(wordOfKind(kind))) {
                    return kind;
                }
            }
            return -1;
        }

        private static String wordOfKind(int kind) {
            switch (kind) {
                case EVEN:
                    return "even";
                case KINDLY:
                    return "kindly";
                case JUST:
                    return "just";
                case MISER:
                    return "miser";
                case SAINTLY:
                    return "saintly";
                case SLOW:
                    return "slow";
                default:
                    return "spiteful";
            }
        }

        private static String wordOfPart(int what) {
            switch (what) {
                case WARMTH:
                    return "warm";
                case COAL:
                    return "coal";
                case WALL:
                    return "wall";
                default:
                    return "heats";
            }
        }

        private boolean isWord(String word) {
            if (token != WORD || end - begin != word.length()) {
                return false;
            }
            for (int i = 0; i < word.length(); i++) {
                if (tape.byteAt(begin + i) != word.charAt(i)) {
                    return false;
                }
            }
            return true;
        }

        /** On to the next TOKEN; the END begins behind the last byte. */
        private void step() {
            begin = end;
            while (begin < tape.length && tape.byteAt(begin) == ' ') {
                begin++;
            }
            token = tokenBegunBy(tape.byteAt(begin));
            end = begin;
            value = 0;
            // A SIGN is one byte long; all others go on while they can.
            while (end < tape.length && tokenBegunBy(tape.byteAt(end)) == token && (token != SIGN || end == begin)) {
                if (token == NUMBER) {
                    value = Math.min(value * 10 + tape.byteAt(end) - '0', TOO_MUCH);
                }
                end++;
            }
        }

        private static int tokenBegunBy(int first) {
            if (first < 0) {
                return END;
            }
            if (first >= 'a' && first <= 'z') {
                return WORD;
            }
            if (first >= '0' && first <= '9') {
                return NUMBER;
            }
            return first == ';' ? SIGN : OTHER;
        }
    }

    private static final class Sheet {
        /** 8, 16 or 32; 0 while it is MISSING. */
        int bits;
        int length;
        final int[] numbers = new int[MOST_NUMBERS];

        void renew(int newBits, int n) {
            bits = newBits;
            length = newBits == 0 ? 0 : n;
            Arrays.fill(numbers, 0);
        }

        boolean has(int from, int n) {
            return from >= 0 && n >= 0 && from <= length - n;
        }

        void put(int i, int v) {
            numbers[i] = bits == 8 ? (byte) v : bits == 16 ? (short) v : v;
        }
    }
}
