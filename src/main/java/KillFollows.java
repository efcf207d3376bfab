import java.util.NoSuchElementException;

/**
 * A forest told as a text: places with lamps and room, paths, men who walk, kills that follow
 * them so many steps behind and stay out of the light, and strays of whom nobody knows whom they
 * follow. README.md says how to use it; the numbered promises stand in DOC.md.
 */
public final class KillFollows {
    public static final int NONE = -1;

    // The answer of a call that isn't refused, where there is nobody, no place or no way.
    private static final int NOT_ANY = -2;
    private static final int EDGE_REFUSED = -100;

    private static final int FINE = 0;
    private static final int NO_SUCH = 1;
    private static final int BAD_NUMBER = 2;
    private static final int NO_ROOM = 3;
    private static final int FAULTY = 4;
    private static final int NOT_SO = 5;
    private static final int NOTHING = 6;

    private static final int FORM = 1;
    private static final int UNTOLD = 2;
    private static final int AGAIN = 3;
    private static final int BOUNDS = 4;
    private static final int MANY = 5;
    private static final int LACKS = 6;
    private static final int APART = 7;

    // The sorts of lines, numbered as size() asks for how many of them were told.
    private static final int FOREST = 0;
    private static final int PLACE = 1;
    private static final int PATH = 2;
    private static final int MAN = 3;
    private static final int KILL = 4;
    private static final int STRAY = 5;
    private static final int WALK = 6;
    private static final int TAKEN = 7;
    private static final int LINE_SORTS = 8;
    private static final int[] MOST_LINES = {1, 7, 10, 4, 6, 3, 12, 6};

    private static final int MOST_PLACES = 7;
    private static final int MOST_MEN = 4;
    private static final int MOST_KILLS = 6;
    private static final int MOST_STRAYS = 3;
    private static final int MOST_NAMES = 28;
    private static final int MOST_BYTES = 900;
    private static final int FED_BYTES = 20;
    private static final int MOST_DIES = 100;
    private static final int MOST_HOLDS = 9;
    private static final int MOST_FAR = 3;
    private static final int MOST_WORTH = 20;

    // A trail is where a man is now and where he was one to seven steps ago.
    private static final int TRAIL = 8;
    // By how much a kill's distance is multiplied, and what is added, by kinds of men.
    private static final int[] KIND_TIMES = {1, 1, 2, 0};
    private static final int[] KIND_MORE = {0, 1, 0, 0};
    private static final int KINDS = 4;

    private static final int[] TENS = {1, 10, 100, 1000, 10000, 100000, 1000000};
    private static final int MOST_ROW = 6;
    private static final int MOST_LURE = 5;
    private static final int MOST_COMPANY = 7;
    private static final int MOST_YEARS = 2;
    private static final int MOST_RAMBLES = 60;
    private static final int SEEDS = 65537;
    private static final int MOST_IMAGES = 3;

    private final Reader reader = new Reader();
    private final Trial trial = new Trial();
    private final Company company = new Company();
    private final Past past = new Past();
    private final Scene[] images = new Scene[MOST_IMAGES];
    private final Scene now;
    // The forest behind all that was told, which no act changes: strays are judged by it.
    private Scene start;
    private int imageCount;
    private int latestTrouble;
    private int latestFault;
    private int faultPlace;

    public KillFollows() {
        Told empty = new Told();
        start = new Scene(empty);
        now = new Scene(empty);
        for (int i = 0; i < MOST_IMAGES; i++) {
            images[i] = new Scene(empty);
        }
    }

    // ---- the forest

    public int feed(int a, int b, int c, int d, int e) {
        Tape tape = reader.tape;
        if (tape.length > MOST_BYTES - FED_BYTES) {
            return NONE;
        }
        tape.append(a);
        tape.append(b);
        tape.append(c);
        tape.append(d);
        tape.append(e);
        return tape.length;
    }

    public int forest(int n) {
        if (n < 0 || n > reader.tape.length) {
            return refuse(BAD_NUMBER);
        }
        boolean isForest = reader.read(n);
        latestFault = reader.faultFound;
        faultPlace = reader.faultAt;
        reader.tape.length = 0;
        if (!isForest) {
            return refuse(FAULTY);
        }
        start = reader.exchange(start);
        now.become(start);
        past.forget();
        imageCount = 0;
        return answer(places());
    }

    public int fault() {
        return latestFault;
    }

    public int where() {
        return latestTrouble == FAULTY ? faultPlace : NONE;
    }

    // ---- now

    public int place(int p, int what) {
        if (!isPlace(p) || what < 0 || what > 5) {
            return refuse(NO_SUCH);
        }
        switch (what) {
            case 0:
                return answer(now.isLit(p) ? 1 : 0);
            case 1:
                return answer(now.told.holds[p]);
            case 2:
                return answer(now.told.neighbours[p]);
            case 3:
                return answer(now.menAt(p));
            case 4:
                return answer(now.killsAt(p));
            default:
                return answer(now.isCrowded(p) ? 1 : 0);
        }
    }

    public int man(int m, int what) {
        if (!isMan(m) || what < 0 || what > 4) {
            return refuse(NO_SUCH);
        }
        switch (what) {
            case 0:
                return answer(now.told.kind[m]);
            case 1:
                return answer(now.at(m));
            case 2:
                return answer(now.killsBehind(m));
            case 3:
                return answer(now.told.worthOf(now.killsBehind(m)));
            default:
                return answer(now.told.killsShotBy(m));
        }
    }

    public int kill(int k, int what) {
        if (!isKill(k) || what < 0 || what > 5) {
            return refuse(NO_SUCH);
        }
        switch (what) {
            case 0:
                return answer(now.told.shot[k]);
            case 1:
                return answer(now.leads[k]);
            case 2:
                return answer(now.told.far[k]);
            case 3:
                return answer(now.told.worth[k]);
            case 4:
                return answer(now.standOf(k));
            default:
                return answer(now.told.stepsBehind(now.leads[k], now.told.far[k]));
        }
    }

    public int trail(int m, int ago) {
        if (!isMan(m)) {
            return refuse(NO_SUCH);
        }
        if (ago < 0 || ago >= TRAIL) {
            return refuse(BAD_NUMBER);
        }
        return answer(now.wasAt(m, ago));
    }

    public int crowded() {
        if (!isForest()) {
            return refuse(NO_SUCH);
        }
        return answer(now.crowdedPlaces());
    }

    public int leader() {
        if (!isForest()) {
            return refuse(NO_SUCH);
        }
        return answer(now.mostFollowed());
    }

    public int near(int m) {
        if (!isMan(m)) {
            return refuse(NO_SUCH);
        }
        return answer(now.killsAround(m));
    }

    public int room() {
        if (!isForest()) {
            return refuse(NO_SUCH);
        }
        return answer(now.roomLeft());
    }

    // ---- ways

    public int apart(int p, int q) {
        if (!isPlace(p) || !isPlace(q)) {
            return refuse(NO_SUCH);
        }
        return answer(Ways.distance(now.told, p, q, Ways.all(now.told)));
    }

    public int next(int m, int p) {
        if (!isMan(m) || !isPlace(p)) {
            return refuse(NO_SUCH);
        }
        return answer(Ways.firstStep(now.told, now.at(m), p));
    }

    public int unseen(int m, int p) {
        if (!isMan(m) || !isPlace(p)) {
            return refuse(NO_SUCH);
        }
        return answer(Ways.distance(now.told, now.at(m), p, now.unseenPlaces(m)));
    }

    public int safe(int m) {
        if (!isMan(m)) {
            return refuse(NO_SUCH);
        }
        return answer(Ways.reach(now.told, now.at(m), now.unseenPlaces(m)));
    }

    public int cut(int m, int p) {
        if (!isMan(m) || !isPlace(p)) {
            return refuse(NO_SUCH);
        }
        return answer(Ways.fewestBetween(now.told, now.at(m), p));
    }

    public int middle() {
        if (!isForest()) {
            return refuse(NO_SUCH);
        }
        return answer(Ways.mostCentral(now.told));
    }

    public int parts() {
        if (!isForest()) {
            return refuse(NO_SUCH);
        }
        return answer(Ways.partCount(now.told));
    }

    // ---- luring

    public int follows(int k, int row, int n) {
        if (!isKill(k)) {
            return refuse(NO_SUCH);
        }
        if (n < 0 || n > MOST_ROW || !isRow(row, n)) {
            return refuse(BAD_NUMBER);
        }
        trial.begin(now);
        if (!trial.walkRow(now.leads[k], row, n)) {
            return refuse(NOT_SO);
        }
        return answer(trial.scene.standOf(k));
    }

    public int lure(int k, int p) {
        if (!isKill(k) || !isPlace(p)) {
            return refuse(NO_SUCH);
        }
        trial.begin(now);
        return answer(trial.stepsToLure(k, p));
    }

    public int lureRow(int k, int p) {
        if (!isKill(k) || !isPlace(p)) {
            return refuse(NO_SUCH);
        }
        trial.begin(now);
        return answer(trial.stepsToLure(k, p) == NOT_ANY ? NOT_ANY : trial.foundRow);
    }

    public int lures(int k, int n) {
        if (!isKill(k)) {
            return refuse(NO_SUCH);
        }
        if (n < 0 || n > MOST_LURE) {
            return refuse(BAD_NUMBER);
        }
        trial.begin(now);
        return answer(trial.placesLured(k, n));
    }

    // ---- company, owing

    public int company(int steps) {
        if (!isForest()) {
            return refuse(NO_SUCH);
        }
        if (steps < 0 || steps > MOST_COMPANY) {
            return refuse(BAD_NUMBER);
        }
        return answer(company.fewestKills(now, steps));
    }

    public int lonely() {
        if (!isForest()) {
            return refuse(NO_SUCH);
        }
        return answer(Company.loneliest(now));
    }

    public int owes(int m) {
        if (!isMan(m)) {
            return refuse(NO_SUCH);
        }
        return answer(Company.creditors(now, m));
    }

    public int ring(int m) {
        if (!isMan(m)) {
            return refuse(NO_SUCH);
        }
        return answer(Company.ringLength(now, m));
    }

    public int ringAt(int m, int i) {
        if (!isMan(m)) {
            return refuse(NO_SUCH);
        }
        // Where there is no ring its length is below 0, so that no i is in it.
        int length = Company.ringLength(now, m);
        if (i < 0 || i >= length) {
            return refuse(NO_SUCH);
        }
        return answer(Company.ringMember(now, m, i, length));
    }

    public int amends() {
        if (!isForest()) {
            return refuse(NO_SUCH);
        }
        return answer(Company.killsToGiveBack(now));
    }

    public int robbed() {
        if (!isForest()) {
            return refuse(NO_SUCH);
        }
        return answer(Company.mostRobbed(now));
    }

    // ---- strays

    public int fits(int s) {
        if (!isStray(s)) {
            return refuse(NO_SUCH);
        }
        return answer(Strays.countAll(start, s));
    }

    public int fitAt(int s, int i) {
        if (!isStray(s) || i < 0 || i >= Strays.countAll(start, s)) {
            return refuse(NO_SUCH);
        }
        return answer(Strays.soManieth(start, s, i));
    }

    public int could(int s) {
        if (!isStray(s)) {
            return refuse(NO_SUCH);
        }
        return answer(Strays.menOfFits(start, s));
    }

    public int surely(int s) {
        if (!isStray(s)) {
            return refuse(NO_SUCH);
        }
        return answer(Strays.onlyMan(start, s));
    }

    public int ask(int s) {
        if (!isStray(s)) {
            return refuse(NO_SUCH);
        }
        return answer(Strays.manToAsk(start, s));
    }

    public int askLeaves(int s) {
        if (!isStray(s)) {
            return refuse(NO_SUCH);
        }
        int m = Strays.manToAsk(start, s);
        return answer(m < 0 ? NOT_ANY : Strays.leftBehind(start, s, m));
    }

    // ---- at the edge

    public int edge(int worth, boolean keeper, boolean poacher, boolean ofPoacher) {
        if (refusesWorth(worth)) {
            return EDGE_REFUSED;
        }
        return answer(Edge.gain(worth, keeper, poacher, ofPoacher));
    }

    public int rests(int worth) {
        if (refusesWorth(worth)) {
            return NONE;
        }
        return answer(Edge.countRests(worth));
    }

    public int rest(int worth) {
        if (refusesWorth(worth)) {
            return NONE;
        }
        return answer(Edge.firstRest(worth));
    }

    // ---- deaths, rambles

    public long breathes(int k, int n, boolean lower) {
        if (!isKill(k)) {
            return refuse(NO_SUCH);
        }
        if (n < 0 || n > MOST_YEARS) {
            return refuse(BAD_NUMBER);
        }
        latestTrouble = FINE;
        return Chances.part(Chances.dead(now.told.dies, n), Chances.hundreds(n), lower);
    }

    public long silent(int n, boolean lower) {
        if (!isForest()) {
            return refuse(NO_SUCH);
        }
        if (n < 0 || n > MOST_YEARS) {
            return refuse(BAD_NUMBER);
        }
        latestTrouble = FINE;
        long dead = Chances.power(Chances.dead(now.told.dies, n), men());
        return Chances.part(dead, Chances.power(Chances.hundreds(n), men()), lower);
    }

    public long mean(int n, boolean lower) {
        if (!isForest()) {
            return refuse(NO_SUCH);
        }
        if (n < 0 || n > MOST_YEARS) {
            return refuse(BAD_NUMBER);
        }
        latestTrouble = FINE;
        // Means add up, whether or not two kills follow the same man.
        long dead = kills() * Chances.dead(now.told.dies, n);
        return Chances.part(dead, Chances.hundreds(n), lower);
    }

    public int rambles(int m, int seed, int n) {
        if (!isMan(m)) {
            return refuse(NO_SUCH);
        }
        if (!isRamble(seed, n)) {
            return refuse(BAD_NUMBER);
        }
        trial.begin(now);
        trial.ramble(seed, n);
        return answer(trial.scene.at(m));
    }

    public int stands(int k, int seed, int n) {
        if (!isKill(k)) {
            return refuse(NO_SUCH);
        }
        if (!isRamble(seed, n)) {
            return refuse(BAD_NUMBER);
        }
        trial.begin(now);
        trial.ramble(seed, n);
        return answer(trial.scene.standOf(k));
    }

    public int meet(int seed, int n) {
        if (!isForest()) {
            return refuse(NO_SUCH);
        }
        if (!isRamble(seed, n)) {
            return refuse(BAD_NUMBER);
        }
        trial.begin(now);
        return answer(trial.rambleUntilTwoMeet(seed, n));
    }

    // ---- acts

    public int step(int m, int p) {
        if (!isMan(m) || !isPlace(p)) {
            return refuse(NO_SUCH);
        }
        if (!now.mayGo(m, p)) {
            return refuse(NOT_SO);
        }
        trial.begin(now);
        past.keep(Past.STEP, m, now.wasAt(m, TRAIL - 1));
        now.go(m, p);
        now.steps++;
        return answer(now.killsElsewhereThan(trial.scene));
    }

    public int take(int k, int m) {
        if (!isKill(k) || !isMan(m)) {
            return refuse(NO_SUCH);
        }
        if (now.leads[k] == m) {
            return refuse(NOT_SO);
        }
        past.keep(Past.TAKE, k, now.leads[k]);
        now.leads[k] = m;
        return answer(now.standOf(k));
    }

    public boolean light(int p, boolean is) {
        if (!isPlace(p)) {
            return settle(NO_SUCH);
        }
        if (now.isLit(p) == is) {
            return settle(NOT_SO);
        }
        past.keep(Past.LIGHT, p, 0);
        now.turnLamp(p);
        return settle(FINE);
    }

    public boolean undo() {
        return settle(past.takeBack(now) ? FINE : NOTHING);
    }

    public int image() {
        if (!isForest()) {
            return refuse(NO_SUCH);
        }
        if (imageCount >= MOST_IMAGES) {
            return refuse(NO_ROOM);
        }
        images[imageCount].become(now);
        imageCount++;
        return answer(imageCount - 1);
    }

    public boolean back(int image) {
        if (image < 0 || image >= imageCount) {
            return settle(NO_SUCH);
        }
        now.become(images[image]);
        past.forget();
        return settle(FINE);
    }

    // ---- what is told

    public int led(int i) throws NoSuchElementException {
        int k = now.soManiethNowhere(i);
        if (k < 0) {
            throw new NoSuchElementException("no such kill stands nowhere");
        }
        return k;
    }

    public int size(int what) {
        if (what > 0 && what < LINE_SORTS) {
            return now.told.count[what];
        }
        switch (what) {
            case 0:
                return now.told.dies;
            case 8:
                return now.steps;
            case 9:
                return past.kept;
            case 10:
                return imageCount;
            case 11:
                return reader.tape.length;
            default:
                return NONE;
        }
    }

    public int trouble() {
        return latestTrouble;
    }

    // ---- what the calls above share

    private int answer(int found) {
        latestTrouble = FINE;
        return found;
    }

    private int refuse(int why) {
        latestTrouble = why;
        return NONE;
    }

    private boolean settle(int why) {
        latestTrouble = why;
        return why == FINE;
    }

    private int places() {
        return now.told.count[PLACE];
    }

    private int men() {
        return now.told.count[MAN];
    }

    private int kills() {
        return now.told.count[KILL];
    }

    // No text without a place is a forest, so that a forest is known by its places.
    private boolean isForest() {
        return places() > 0;
    }

    private boolean isPlace(int p) {
        return p >= 0 && p < places();
    }

    private boolean isMan(int m) {
        return m >= 0 && m < men();
    }

    private boolean isKill(int k) {
        return k >= 0 && k < kills();
    }

    private boolean isStray(int s) {
        return s >= 0 && s < start.told.count[STRAY];
    }

    private boolean isRow(int row, int n) {
        if (row < 0 || row >= TENS[n]) {
            return false;
        }
        for (int i = 0; i < n; i++) {
            if (row / TENS[i] % 10 > places()) {
                return false;
            }
        }
        return true;
    }

    private static boolean isRamble(int seed, int n) {
        return seed >= 0 && seed < SEEDS && n >= 0 && n <= MOST_RAMBLES;
    }

    private boolean refusesWorth(int worth) {
        if (!isForest()) {
            latestTrouble = NO_SUCH;
            return true;
        }
        if (worth < 0 || worth > MOST_WORTH) {
            latestTrouble = BAD_NUMBER;
            return true;
        }
        return false;
    }

    private static boolean has(int bits, int i) {
        return (bits >> i & 1) == 1;
    }

    /** The bytes of the texts to come, read as tokens. */
    private static final class Tape {
        static final int END = 0;
        static final int WORD = 1;
        static final int WHOLE = 2;
        static final int SEMICOLON = 3;
        static final int NO_TOKEN = 4;
        private static final int MOST_LETTERS = 8;
        private static final int MOST_DIGITS = 3;

        int length;
        int sort;
        int start;
        int value;
        // A word's letters as one number, so that names are compared without making texts.
        long code;
        private final int[] bytes = new int[MOST_BYTES];
        private int end;
        private int next;

        void append(int number) {
            for (int shift = 24; shift >= 0 && length < MOST_BYTES; shift -= 8) {
                bytes[length] = number >> shift & 255;
                length++;
            }
        }

        void begin(int n) {
            next = 0;
            end = Math.min(n, length);
            advance();
        }

        // Letters that stand together are one word or none: the first eight of nine aren't one.
        void advance() {
            while (next < end && bytes[next] == ' ') {
                next++;
            }
            start = next;
            code = 0;
            value = 0;
            sort = next < end ? sortOf(bytes[next]) : END;
            int most = sort == WORD ? MOST_LETTERS : sort == WHOLE ? MOST_DIGITS : 1;
            boolean goesOn = sort != END && sort != NO_TOKEN;
            while (goesOn && next < end) {
                code = code * 32 + (bytes[next] & 31);
                value = value * 10 + (bytes[next] - '0');
                next++;
                goesOn = sort != SEMICOLON && next < end && sortOf(bytes[next]) == sort;
            }
            if (next - start > most) {
                sort = NO_TOKEN;
            }
        }

        private static int sortOf(int b) {
            if (b >= 'a' && b <= 'z') {
                return WORD;
            }
            if (b >= '0' && b <= '9') {
                return WHOLE;
            }
            return b == ';' ? SEMICOLON : NO_TOKEN;
        }

        static long codeOf(String word) {
            long code = 0;
            for (int i = 0; i < word.length(); i++) {
                code = code * 32 + (word.charAt(i) & 31);
            }
            return code;
        }

        boolean spells(String word) {
            if (sort != WORD || word.length() != next - start) {
                return false;
            }
            for (int i = 0; i < word.length(); i++) {
                if (bytes[start + i] != word.charAt(i)) {
                    return false;
                }
            }
            return true;
        }
    }

    /** What a text told; it stays as it is until another text is read in its stead. */
    private static final class Told {
        final int[] count = new int[LINE_SORTS];
        final int[] holds = new int[MOST_PLACES];
        final int[] neighbours = new int[MOST_PLACES];
        final int[] kind = new int[MOST_MEN];
        final int[] shot = new int[MOST_KILLS];
        final int[] far = new int[MOST_KILLS];
        final int[] worth = new int[MOST_KILLS];
        final int[] seen = new int[MOST_STRAYS];
        int dies;

        void clear() {
            dies = 0;
            for (int i = 0; i < LINE_SORTS; i++) {
                count[i] = 0;
            }
            for (int p = 0; p < MOST_PLACES; p++) {
                neighbours[p] = 0;
            }
        }

        int stepsBehind(int m, int far) {
            return far * KIND_TIMES[kind[m]] + KIND_MORE[kind[m]];
        }

        int killsShotBy(int m) {
            int bits = 0;
            for (int k = 0; k < count[KILL]; k++) {
                if (shot[k] == m) {
                    bits |= 1 << k;
                }
            }
            return bits;
        }

        int worthOf(int kills) {
            int sum = 0;
            for (int k = 0; k < count[KILL]; k++) {
                if (has(kills, k)) {
                    sum += worth[k];
                }
            }
            return sum;
        }
    }

    /** The forest at one moment: what acts change, and what stands where by it. */
    private static final class Scene {
        Told told;
        // Whom each kill follows.
        final int[] leads = new int[MOST_KILLS];
        int lamps;
        int steps;
        private final int[] trails = new int[MOST_MEN * TRAIL];

        Scene(Told told) {
            this.told = told;
        }

        void become(Scene other) {
            told = other.told;
            System.arraycopy(other.leads, 0, leads, 0, MOST_KILLS);
            System.arraycopy(other.trails, 0, trails, 0, MOST_MEN * TRAIL);
            lamps = other.lamps;
            steps = other.steps;
        }

        int at(int m) {
            return wasAt(m, 0);
        }

        int wasAt(int m, int ago) {
            return trails[m * TRAIL + ago];
        }

        void settleAt(int m, int p) {
            for (int ago = 0; ago < TRAIL; ago++) {
                trails[m * TRAIL + ago] = p;
            }
        }

        boolean mayGo(int m, int p) {
            return p == at(m) || has(told.neighbours[at(m)], p);
        }

        void go(int m, int p) {
            for (int ago = TRAIL - 1; ago > 0; ago--) {
                trails[m * TRAIL + ago] = trails[m * TRAIL + ago - 1];
            }
            trails[m * TRAIL] = p;
        }

        // A step drops the end of the trail, which must be given to take the step back.
        void goBack(int m, int oldest) {
            for (int ago = 0; ago < TRAIL - 1; ago++) {
                trails[m * TRAIL + ago] = trails[m * TRAIL + ago + 1];
            }
            trails[m * TRAIL + TRAIL - 1] = oldest;
        }

        boolean isLit(int p) {
            return has(lamps, p);
        }

        void turnLamp(int p) {
            lamps ^= 1 << p;
        }

        int standBehind(int m, int far) {
            for (int ago = told.stepsBehind(m, far); ago < TRAIL; ago++) {
                int p = trails[m * TRAIL + ago];
                if (!has(lamps, p)) {
                    return p;
                }
            }
            return NOT_ANY;
        }

        int standOf(int k) {
            return standBehind(leads[k], told.far[k]);
        }

        int killsAt(int p) {
            return killsWithin(1 << p);
        }

        int killsAround(int m) {
            return killsWithin(told.neighbours[at(m)] | 1 << at(m));
        }

        private int killsWithin(int places) {
            int bits = 0;
            for (int k = 0; k < told.count[KILL]; k++) {
                int p = standOf(k);
                if (p >= 0 && has(places, p)) {
                    bits |= 1 << k;
                }
            }
            return bits;
        }

        int killsElsewhereThan(Scene before) {
            int bits = 0;
            for (int k = 0; k < told.count[KILL]; k++) {
                if (standOf(k) != before.standOf(k)) {
                    bits |= 1 << k;
                }
            }
            return bits;
        }

        int soManiethNowhere(int i) {
            int left = i;
            for (int k = 0; k < told.count[KILL]; k++) {
                if (standOf(k) == NOT_ANY) {
                    if (left == 0) {
                        return k;
                    }
                    left--;
                }
            }
            return NOT_ANY;
        }

        int killsBehind(int m) {
            int bits = 0;
            for (int k = 0; k < told.count[KILL]; k++) {
                if (leads[k] == m) {
                    bits |= 1 << k;
                }
            }
            return bits;
        }

        int menAt(int p) {
            int bits = 0;
            for (int m = 0; m < told.count[MAN]; m++) {
                if (at(m) == p) {
                    bits |= 1 << m;
                }
            }
            return bits;
        }

        boolean twoMenTogether() {
            for (int p = 0; p < told.count[PLACE]; p++) {
                if (Integer.bitCount(menAt(p)) > 1) {
                    return true;
                }
            }
            return false;
        }

        int mostFollowed() {
            int best = NOT_ANY;
            int most = -1;
            for (int m = 0; m < told.count[MAN]; m++) {
                int followed = Integer.bitCount(killsBehind(m));
                if (followed > most) {
                    most = followed;
                    best = m;
                }
            }
            return best;
        }

        // Below 0 where the place is crowded.
        private int roomAt(int p) {
            return told.holds[p] - Integer.bitCount(killsWithin(1 << p));
        }

        boolean isCrowded(int p) {
            return roomAt(p) < 0;
        }

        int crowdedPlaces() {
            int bits = 0;
            for (int p = 0; p < told.count[PLACE]; p++) {
                if (roomAt(p) < 0) {
                    bits |= 1 << p;
                }
            }
            return bits;
        }

        int roomLeft() {
            int sum = 0;
            for (int p = 0; p < told.count[PLACE]; p++) {
                if (!isLit(p)) {
                    sum += Math.max(0, roomAt(p));
                }
            }
            return sum;
        }

        int unseenPlaces(int m) {
            int bits = Ways.all(told);
            for (int k = 0; k < told.count[KILL]; k++) {
                int p = standOf(k);
                if (leads[k] != m && p >= 0) {
                    bits &= ~(1 << p);
                }
            }
            return bits;
        }
    }

    /** Reads the tape as the text of a forest, and finds its first fault. */
    private static final class Reader {
        final Tape tape = new Tape();
        int faultFound;
        int faultAt;
        // The words that begin lines stand ahead of the names, so that no name is one of them.
        private final long[] names = new long[MOST_NAMES];
        private final int[] nameSorts = new int[MOST_NAMES];
        private final int[] nameNumbers = new int[MOST_NAMES];
        private int nameCount;
        // What is read stands here until it is known to have no fault.
        private Scene draft = new Scene(new Told());

        Reader() {
            for (int line = 0; line < LINE_SORTS; line++) {
                names[line] = Tape.codeOf(lineWord(line));
            }
        }

        Scene exchange(Scene old) {
            Scene read = draft;
            draft = old;
            return read;
        }

        boolean read(int n) {
            draft.told.clear();
            draft.lamps = 0;
            draft.steps = 0;
            nameCount = LINE_SORTS;
            faultFound = 0;
            faultAt = NONE;
            tape.begin(n);
            for (int line = 0; line <= MOST_BYTES; line++) {
                int sort = readLineWord();
                if (sort < 0 || !readRest(sort)) {
                    return false;
                }
                draft.told.count[sort]++;
                if (tape.sort == Tape.END) {
                    return draft.told.count[PLACE] > 0 || fail(LACKS);
                }
                if (tape.sort != Tape.SEMICOLON) {
                    return fail(FORM);
                }
                tape.advance();
            }
            return fail(FORM);
        }

        private boolean fail(int fault) {
            faultFound = fault;
            faultAt = tape.start;
            return false;
        }

        private int failed(int fault) {
            fail(fault);
            return NONE;
        }

        private int readLineWord() {
            int[] count = draft.told.count;
            int line = entryOfWord();
            if (line < 0 || line >= LINE_SORTS) {
                return failed(FORM);
            }
            if (line != FOREST && count[FOREST] == 0) {
                return failed(LACKS);
            }
            if (count[line] >= MOST_LINES[line]) {
                return failed(line == FOREST ? AGAIN : MANY);
            }
            tape.advance();
            return line;
        }

        private boolean readRest(int line) {
            int number = draft.told.count[line];
            switch (line) {
                case FOREST:
                    return readForest();
                case PLACE:
                    return readPlace(number);
                case PATH:
                    return readPath();
                case MAN:
                    return readMan(number);
                case KILL:
                    return readKill(number);
                case STRAY:
                    return readStray(number);
                case WALK:
                    return readWalk();
                case TAKEN:
                    return readTaken();
                default:
                    return fail(FORM);
            }
        }

        private boolean readForest() {
            if (!readWord("dies")) {
                return false;
            }
            int dies = readWhole(MOST_DIES);
            draft.told.dies = Math.max(0, dies);
            return dies >= 0;
        }

        private boolean readPlace(int p) {
            if (!readNewName(PLACE, p)) {
                return false;
            }
            boolean lit = tape.spells("lit");
            if (!lit && !tape.spells("dark")) {
                return fail(FORM);
            }
            tape.advance();
            if (!readWord("holds")) {
                return false;
            }
            int holds = readWhole(MOST_HOLDS);
            if (holds < 0) {
                return false;
            }
            draft.told.holds[p] = holds;
            if (lit) {
                draft.turnLamp(p);
            }
            return true;
        }

        private boolean readPath() {
            int[] neighbours = draft.told.neighbours;
            int p = findName(PLACE);
            if (p < 0) {
                return false;
            }
            tape.advance();
            int q = findName(PLACE);
            if (q < 0) {
                return false;
            }
            if (q == p || has(neighbours[p], q)) {
                return fail(AGAIN);
            }
            tape.advance();
            neighbours[p] |= 1 << q;
            neighbours[q] |= 1 << p;
            return true;
        }

        private boolean readMan(int m) {
            if (!readNewName(MAN, m)) {
                return false;
            }
            int kind = kindOfWord();
            if (kind < 0) {
                return fail(FORM);
            }
            tape.advance();
            int p = readWord("at") ? findName(PLACE) : NONE;
            if (p < 0) {
                return false;
            }
            tape.advance();
            draft.told.kind[m] = kind;
            draft.settleAt(m, p);
            return true;
        }

        private boolean readKill(int k) {
            if (!readNewName(KILL, k)) {
                return false;
            }
            int m = readWord("by") ? findName(MAN) : NONE;
            if (m < 0) {
                return false;
            }
            tape.advance();
            int far = readWord("far") ? readWhole(MOST_FAR) : NONE;
            if (far < 0) {
                return false;
            }
            int worth = readWord("worth") ? readWhole(MOST_WORTH) : NONE;
            if (worth < 0) {
                return false;
            }
            draft.told.shot[k] = m;
            draft.told.far[k] = far;
            draft.told.worth[k] = worth;
            draft.leads[k] = m;
            return true;
        }

        private boolean readStray(int s) {
            if (!readNewName(STRAY, s)) {
                return false;
            }
            int p = readWord("at") ? findName(PLACE) : NONE;
            if (p < 0) {
                return false;
            }
            tape.advance();
            draft.told.seen[s] = p;
            return true;
        }

        private boolean readWalk() {
            int m = findName(MAN);
            if (m < 0) {
                return false;
            }
            tape.advance();
            int p = findName(PLACE);
            if (p < 0) {
                return false;
            }
            if (!has(draft.told.neighbours[draft.at(m)], p)) {
                return fail(APART);
            }
            tape.advance();
            draft.go(m, p);
            return true;
        }

        private boolean readTaken() {
            int k = findName(KILL);
            if (k < 0) {
                return false;
            }
            tape.advance();
            int m = findName(MAN);
            if (m < 0) {
                return false;
            }
            if (draft.leads[k] == m) {
                return fail(AGAIN);
            }
            tape.advance();
            draft.leads[k] = m;
            return true;
        }

        private boolean readWord(String word) {
            if (!tape.spells(word)) {
                return fail(FORM);
            }
            tape.advance();
            return true;
        }

        private int readWhole(int most) {
            if (tape.sort != Tape.WHOLE) {
                return failed(FORM);
            }
            if (tape.value > most) {
                return failed(BOUNDS);
            }
            int whole = tape.value;
            tape.advance();
            return whole;
        }

        private boolean readNewName(int sort, int number) {
            int entry = entryOfWord();
            if (tape.sort != Tape.WORD || entry >= 0 && entry < LINE_SORTS) {
                return fail(FORM);
            }
            if (entry >= 0 || nameCount >= MOST_NAMES) {
                return fail(AGAIN);
            }
            names[nameCount] = tape.code;
            nameSorts[nameCount] = sort;
            nameNumbers[nameCount] = number;
            nameCount++;
            tape.advance();
            return true;
        }

        // Stays at the name, for the caller may find another fault there.
        private int findName(int sort) {
            int entry = entryOfWord();
            if (tape.sort != Tape.WORD || entry >= 0 && entry < LINE_SORTS) {
                return failed(FORM);
            }
            if (entry < 0 || nameSorts[entry] != sort) {
                return failed(UNTOLD);
            }
            return nameNumbers[entry];
        }

        private int entryOfWord() {
            for (int i = 0; i < nameCount && tape.sort == Tape.WORD; i++) {
                if (names[i] == tape.code) {
                    return i;
                }
            }
            return NONE;
        }

        private int kindOfWord() {
            for (int kind = 0; kind < KINDS; kind++) {
                if (tape.spells(kindWord(kind))) {
                    return kind;
                }
            }
            return NONE;
        }

        private static String lineWord(int line) {
            switch (line) {
                case FOREST:
                    return "forest";
                case PLACE:
                    return "place";
                case PATH:
                    return "path";
                case MAN:
                    return "man";
                case KILL:
                    return "kill";
                case STRAY:
                    return "stray";
                case WALK:
                    return "walk";
                default:
                    return "taken";
            }
        }

        private static String kindWord(int kind) {
            switch (kind) {
                case 0:
                    return "sport";
                case 1:
                    return "keeper";
                case 2:
                    return "poacher";
                default:
                    return "prince";
            }
        }
    }

    /** Ways by paths, through none but open places; where a way begins need not be open. */
    private static final class Ways {
        static int all(Told told) {
            return (1 << told.count[PLACE]) - 1;
        }

        private static int spread(Told told, int reached, int open) {
            int wider = reached;
            for (int p = 0; p < told.count[PLACE]; p++) {
                if (has(reached, p)) {
                    wider |= told.neighbours[p] & open;
                }
            }
            return wider;
        }

        static int reach(Told told, int from, int open) {
            int reached = 1 << from;
            for (int i = 1; i < MOST_PLACES; i++) {
                reached = spread(told, reached, open);
            }
            return reached;
        }

        static int distance(Told told, int from, int to, int open) {
            int reached = 1 << from;
            for (int steps = 0; steps < MOST_PLACES; steps++) {
                if (has(reached, to)) {
                    return steps;
                }
                reached = spread(told, reached, open);
            }
            return NOT_ANY;
        }

        static int firstStep(Told told, int from, int to) {
            int steps = distance(told, from, to, all(told));
            for (int p = 0; p < told.count[PLACE] && steps > 0; p++) {
                if (has(told.neighbours[from], p)
                        && distance(told, p, to, all(told)) == steps - 1) {
                    return p;
                }
            }
            return NOT_ANY;
        }

        static int fewestBetween(Told told, int from, int to) {
            if (from == to || has(told.neighbours[from], to)) {
                return NOT_ANY;
            }
            int ends = 1 << from | 1 << to;
            int best = NOT_ANY;
            int fewest = MOST_PLACES + 1;
            // By rising bits, so that of like ones the least stays.
            for (int cut = 0; cut <= all(told); cut++) {
                if ((cut & ends) == 0 && Integer.bitCount(cut) < fewest
                        && !has(reach(told, from, all(told) & ~cut), to)) {
                    best = cut;
                    fewest = Integer.bitCount(cut);
                }
            }
            return best;
        }

        private static int farthest(Told told, int from) {
            int most = 0;
            for (int p = 0; p < told.count[PLACE]; p++) {
                most = Math.max(most, distance(told, from, p, all(told)));
            }
            return most;
        }

        static int mostCentral(Told told) {
            int best = 0;
            for (int p = 1; p < told.count[PLACE]; p++) {
                if (farthest(told, p) < farthest(told, best)) {
                    best = p;
                }
            }
            return best;
        }

        static int partCount(Told told) {
            int parts = 0;
            int reached = 0;
            for (int p = 0; p < told.count[PLACE]; p++) {
                if (!has(reached, p)) {
                    parts++;
                    reached |= reach(told, p, all(told));
                }
            }
            return parts;
        }
    }

    /** Steps that are tried on a copy of the forest. */
    private static final class Trial {
        final Scene scene = new Scene(new Told());
        int foundRow;
        private int seed;

        void begin(Scene now) {
            scene.become(now);
        }

        // A row's digit: 0 he stays, else a place's number and 1.
        private int goal(int m, int digit) {
            return digit == 0 ? scene.at(m) : digit - 1;
        }

        boolean walkRow(int m, int row, int n) {
            for (int i = n - 1; i >= 0; i--) {
                int p = goal(m, row / TENS[i] % 10);
                if (!scene.mayGo(m, p)) {
                    return false;
                }
                scene.go(m, p);
            }
            return true;
        }

        int stepsToLure(int k, int p) {
            for (int steps = 0; steps <= MOST_LURE; steps++) {
                foundRow = 0;
                if (findsRow(k, p, steps)) {
                    return steps;
                }
            }
            return NOT_ANY;
        }

        // Tries digits by rising numbers, so that the first row found is the first of all.
        private boolean findsRow(int k, int p, int left) {
            if (left <= 0 || left > MOST_LURE) {
                return scene.standOf(k) == p;
            }
            int m = scene.leads[k];
            int oldest = scene.wasAt(m, TRAIL - 1);
            for (int digit = 0; digit <= scene.told.count[PLACE]; digit++) {
                if (isStep(m, digit)) {
                    scene.go(m, goal(m, digit));
                    boolean found = findsRow(k, p, left - 1);
                    scene.goBack(m, oldest);
                    if (found) {
                        foundRow += digit * TENS[left - 1];
                        return true;
                    }
                }
            }
            return false;
        }

        // The digit of the place where he is would be staying a second time.
        private boolean isStep(int m, int digit) {
            return digit == 0 || has(scene.told.neighbours[scene.at(m)], digit - 1);
        }

        private int placesLured(int k, int left) {
            int p = scene.standOf(k);
            int bits = p >= 0 ? 1 << p : 0;
            if (left <= 0 || left > MOST_LURE) {
                return bits;
            }
            int m = scene.leads[k];
            int oldest = scene.wasAt(m, TRAIL - 1);
            for (int digit = 0; digit <= scene.told.count[PLACE]; digit++) {
                if (isStep(m, digit)) {
                    scene.go(m, goal(m, digit));
                    bits |= placesLured(k, left - 1);
                    scene.goBack(m, oldest);
                }
            }
            return bits;
        }

        void ramble(int firstSeed, int n) {
            seed = firstSeed;
            for (int time = 0; time < n; time++) {
                rambleOnce();
            }
        }

        int rambleUntilTwoMeet(int firstSeed, int n) {
            seed = firstSeed;
            for (int time = 1; time <= n; time++) {
                rambleOnce();
                if (scene.twoMenTogether()) {
                    return time;
                }
            }
            return NOT_ANY;
        }

        private void rambleOnce() {
            for (int m = 0; m < scene.told.count[MAN]; m++) {
                int neighbours = scene.told.neighbours[scene.at(m)];
                seed = (75 * seed + 74) % SEEDS;
                int choice = seed % (1 + Integer.bitCount(neighbours));
                scene.go(m, choice == 0 ? scene.at(m) : soManieth(neighbours, choice));
            }
        }

        private static int soManieth(int bits, int choice) {
            int left = choice;
            for (int p = 0; p < MOST_PLACES; p++) {
                if (has(bits, p)) {
                    left--;
                    if (left == 0) {
                        return p;
                    }
                }
            }
            return 0;
        }
    }

    /** Who has a kill close by, and who owes kills to whom. */
    private static final class Company {
        // By men, the kills that stand close enough to each, as bits.
        private final int[] close = new int[MOST_MEN];

        private static int distanceTo(Scene now, int m, int k) {
            int p = now.standOf(k);
            if (p < 0) {
                return NOT_ANY;
            }
            return Ways.distance(now.told, now.at(m), p, Ways.all(now.told));
        }

        int fewestKills(Scene now, int steps) {
            for (int m = 0; m < now.told.count[MAN]; m++) {
                close[m] = killsWithin(now, m, steps);
            }
            int best = NOT_ANY;
            int fewest = MOST_KILLS + 1;
            for (int kills = 0; kills < 1 << now.told.count[KILL]; kills++) {
                if (Integer.bitCount(kills) < fewest && isCompany(now, kills)) {
                    best = kills;
                    fewest = Integer.bitCount(kills);
                }
            }
            return best;
        }

        private static int killsWithin(Scene now, int m, int steps) {
            int bits = 0;
            for (int k = 0; k < now.told.count[KILL]; k++) {
                int distance = distanceTo(now, m, k);
                if (distance >= 0 && distance <= steps) {
                    bits |= 1 << k;
                }
            }
            return bits;
        }

        private boolean isCompany(Scene now, int kills) {
            for (int m = 0; m < now.told.count[MAN]; m++) {
                if ((close[m] & kills) == 0) {
                    return false;
                }
            }
            return true;
        }

        static int loneliest(Scene now) {
            int best = NOT_ANY;
            int farthest = -1;
            for (int m = 0; m < now.told.count[MAN]; m++) {
                int nearest = nearestTo(now, m);
                if (nearest > farthest) {
                    farthest = nearest;
                    best = m;
                }
            }
            return best;
        }

        private static int nearestTo(Scene now, int m) {
            int nearest = MOST_PLACES;
            for (int k = 0; k < now.told.count[KILL]; k++) {
                int distance = distanceTo(now, m, k);
                if (distance >= 0) {
                    nearest = Math.min(nearest, distance);
                }
            }
            return nearest;
        }

        static int creditors(Scene now, int m) {
            int bits = 0;
            for (int k = 0; k < now.told.count[KILL]; k++) {
                if (now.leads[k] == m && now.told.shot[k] != m) {
                    bits |= 1 << now.told.shot[k];
                }
            }
            return bits;
        }

        // The men at whom one comes out from a man by just so many debts.
        private static int menBehindDebts(Scene now, int m, int debts) {
            int men = 1 << m;
            for (int i = 0; i < debts; i++) {
                int further = 0;
                for (int other = 0; other < now.told.count[MAN]; other++) {
                    if (has(men, other)) {
                        further |= creditors(now, other);
                    }
                }
                men = further;
            }
            return men;
        }

        // The shortest round meets nobody twice: else a shorter one would be in it.
        static int ringLength(Scene now, int m) {
            for (int length = 2; length <= now.told.count[MAN]; length++) {
                if (has(menBehindDebts(now, m, length), m)) {
                    return length;
                }
            }
            return NOT_ANY;
        }

        static int ringMember(Scene now, int m, int i, int length) {
            int at = m;
            for (int told = 1; told <= i; told++) {
                at = firstTowards(now, at, m, length - told);
            }
            return at;
        }

        private static int firstTowards(Scene now, int from, int home, int debtsLeft) {
            int creditors = creditors(now, from);
            for (int m = 0; m < now.told.count[MAN]; m++) {
                if (has(creditors, m) && has(menBehindDebts(now, m, debtsLeft), home)) {
                    return m;
                }
            }
            return home;
        }

        static int killsToGiveBack(Scene now) {
            int count = 0;
            for (int k = 0; k < now.told.count[KILL]; k++) {
                if (now.leads[k] != now.told.shot[k]) {
                    count++;
                }
            }
            return count;
        }

        static int mostRobbed(Scene now) {
            int best = NOT_ANY;
            int most = -1;
            for (int m = 0; m < now.told.count[MAN]; m++) {
                int lacking = now.told.killsShotBy(m) & ~now.killsBehind(m);
                int worth = now.told.worthOf(lacking);
                if (lacking != 0 && worth > most) {
                    most = worth;
                    best = m;
                }
            }
            return best;
        }
    }

    /** Who could have shot a stray, by the forest as it was told. */
    private static final class Strays {
        private static int countOf(Scene start, int s, int m) {
            int count = 0;
            for (int far = 0; far <= MOST_FAR; far++) {
                if (start.standBehind(m, far) == start.told.seen[s]) {
                    count++;
                }
            }
            return count;
        }

        static int countAll(Scene start, int s) {
            int count = 0;
            for (int m = 0; m < start.told.count[MAN]; m++) {
                count += countOf(start, s, m);
            }
            return count;
        }

        static int soManieth(Scene start, int s, int i) {
            int left = i;
            for (int m = 0; m < start.told.count[MAN]; m++) {
                for (int far = 0; far <= MOST_FAR; far++) {
                    if (start.standBehind(m, far) == start.told.seen[s]) {
                        if (left == 0) {
                            return 10 * m + far;
                        }
                        left--;
                    }
                }
            }
            return NONE;
        }

        static int menOfFits(Scene start, int s) {
            int bits = 0;
            for (int m = 0; m < start.told.count[MAN]; m++) {
                if (countOf(start, s, m) > 0) {
                    bits |= 1 << m;
                }
            }
            return bits;
        }

        static int onlyMan(Scene start, int s) {
            int men = menOfFits(start, s);
            for (int m = 0; m < start.told.count[MAN]; m++) {
                if (men == 1 << m) {
                    return m;
                }
            }
            return NOT_ANY;
        }

        static int leftBehind(Scene start, int s, int m) {
            int his = countOf(start, s, m);
            return Math.max(his, countAll(start, s) - his);
        }

        static int manToAsk(Scene start, int s) {
            if (countAll(start, s) == 0) {
                return NOT_ANY;
            }
            int best = 0;
            for (int m = 1; m < start.told.count[MAN]; m++) {
                if (leftBehind(start, s, m) < leftBehind(start, s, best)) {
                    best = m;
                }
            }
            return best;
        }
    }

    /** The keeper and the poacher, each on the road or in the wood. */
    private static final class Edge {
        private static final int PAIRS = 4;

        static int gain(int worth, boolean keeper, boolean poacher, boolean ofPoacher) {
            if (keeper && poacher) {
                return ofPoacher ? -worth : 3;
            }
            if (keeper) {
                return ofPoacher ? 0 : -1;
            }
            if (poacher) {
                return ofPoacher ? worth : -worth;
            }
            return 0;
        }

        // Pairs are numbered with the keeper's going ahead of the poacher's, the road ahead.
        private static boolean isRest(int worth, int pair) {
            boolean keeper = pair >= 2;
            boolean poacher = pair % 2 == 1;
            return gain(worth, keeper, poacher, false) >= gain(worth, !keeper, poacher, false)
                    && gain(worth, keeper, poacher, true) >= gain(worth, keeper, !poacher, true);
        }

        static int countRests(int worth) {
            int count = 0;
            for (int pair = 0; pair < PAIRS; pair++) {
                if (isRest(worth, pair)) {
                    count++;
                }
            }
            return count;
        }

        static int firstRest(int worth) {
            for (int pair = 0; pair < PAIRS; pair++) {
                if (isRest(worth, pair)) {
                    return 10 * (pair / 2) + pair % 2;
                }
            }
            return NOT_ANY;
        }
    }

    /** How likely men are dead, as fractions: at most 10,000 to the fourth fits a long. */
    private static final class Chances {
        private static final int MOST_DIVISIONS = 100;

        static long power(long base, int times) {
            long product = 1;
            for (int i = 0; i < times; i++) {
                product *= base;
            }
            return product;
        }

        static long hundreds(int years) {
            return power(MOST_DIES, years);
        }

        static long dead(int dies, int years) {
            return hundreds(years) - power(MOST_DIES - dies, years);
        }

        static long part(long upper, long lower, boolean wantsLower) {
            long shared = commonDivisor(upper, lower);
            if (shared <= 0) {
                return NONE;
            }
            return (wantsLower ? lower : upper) / shared;
        }

        private static long commonDivisor(long a, long b) {
            long larger = a;
            long smaller = b;
            for (int i = 0; i < MOST_DIVISIONS && smaller != 0; i++) {
                long left = larger % smaller;
                larger = smaller;
                smaller = left;
            }
            return larger;
        }
    }

    /** The latest acts, with what takes each of them back. */
    private static final class Past {
        static final int STEP = 0;
        static final int TAKE = 1;
        static final int LIGHT = 2;
        private static final int MOST_KEPT = 16;

        int kept;
        private final int[] acts = new int[MOST_KEPT];
        private final int[] whose = new int[MOST_KEPT];
        private final int[] before = new int[MOST_KEPT];
        private int latest;

        void forget() {
            kept = 0;
        }

        void keep(int act, int who, int was) {
            latest = (latest + 1) % MOST_KEPT;
            acts[latest] = act;
            whose[latest] = who;
            before[latest] = was;
            kept = Math.min(kept + 1, MOST_KEPT);
        }

        boolean takeBack(Scene now) {
            if (kept == 0) {
                return false;
            }
            int who = whose[latest];
            if (acts[latest] == STEP) {
                now.goBack(who, before[latest]);
                now.steps--;
            } else if (acts[latest] == TAKE) {
                now.leads[who] = before[latest];
            } else {
                now.turnLamp(who);
            }
            latest = (latest + MOST_KEPT - 1) % MOST_KEPT;
            kept--;
            return true;
        }
    }
}
