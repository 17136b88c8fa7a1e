import java.util.NoSuchElementException;

/**
 * A stone that shakes: what pulls it, how that is found by trials, and where lead has to go to mend it.
 * Words in capitals are those of the document's Terms.
 */
public final class StoneThatShakes {
    public static final int NONE = -1;

    private static final int NOT_SO = -2;
    private static final int MISSING = -3;

    private static final int MOST_HOLES = 16;
    private static final int MOST_SPEEDS = 6;
    private static final int MOST_COGS = 8;
    private static final int MOST_TRIALS = 12;
    private static final int MOST_SIGNS = 80;
    private static final int SIGNS_READ = 60;
    private static final int MOST_OUNCES = 9;
    private static final int MOST_POUND = 20;
    private static final int MOST_CROSS = 9;
    private static final int MOST_GIVE = 999;
    private static final int MOST_MUCH = 2000000000;
    private static final int MOST_UP_LOW = 99;
    private static final int MASS_EDGE = 9999;
    private static final int FELT_EDGE = 99999;
    private static final int PULL_EDGE = 60;
    private static final int PULLS_WIDE = 2 * PULL_EDGE + 1;
    private static final int MEN = 3;
    private static final int KEPT = 3;

    private static final int NEXT = 2;
    private static final int FLOOR = 3;

    private static final int MOST_HUNG = 4;
    private static final int MOST_MORE_TRIALS = 6;
    private static final int MOST_SETTLED = 200;
    private static final int FEW_PULLS = 40;
    private static final int MOST_EXCHANGES = 1000000;

    private static final long CODE_BASE = 200000L;
    private static final long CODE_ZERO = 100000L;

    private final Told told = new Told();
    private final Reader reader = new Reader();
    private final Ring ring = new Ring();
    private final Speeds speeds = new Speeds();
    private final Cogs wheel = new Cogs();
    private final Trials trials = new Trials();
    private final Ends span = new Ends();
    private final Search search = new Search();
    private final Kept[] kept = new Kept[KEPT];
    private final int[] crosses = {1, 0, 0, 1};
    private final int[] trueMasses = new int[8];
    private final int[] thought = new int[8];
    private final int[] up = {1, 1, 1};
    private final int[] low = {1, 1, 1};
    private final int[] fits = new int[MOST_HOLES];
    private Pulls pulls;

    public StoneThatShakes() {
        for (int i = 0; i < KEPT; i++) {
            kept[i] = new Kept();
        }
    }

    // ---- the mill

    public int sign(int v) {
        return reader.append(v);
    }

    public boolean end(int n) {
        return reader.cutTo(n);
    }

    public int mill() {
        int answer = reader.readLines(ring, speeds, wheel);
        reader.empty();
        return answer;
    }

    public int hole(int hole, int what) throws NoSuchElementException {
        if (!ring.isHole(hole)) {
            throw new NoSuchElementException("no such hole");
        }
        switch (what) {
            case 0: return ring.plane[hole];
            case 1: return ring.x[hole];
            case 2: return ring.y[hole];
            case 3: return ring.room[hole];
            case 4: return ring.has[hole];
            case 5: return ring.deep[hole];
            default: throw new NoSuchElementException("nothing such of a hole");
        }
    }

    public int lead(int hole, int v) {
        if (!ring.isHole(hole) || v < 0 || v > ring.room[hole]) {
            return NONE;
        }
        int was = ring.has[hole];
        ring.has[hole] = v;
        return was;
    }

    public int deep(int hole, int v) {
        if (!ring.isHole(hole) || v < 0 || v > MOST_OUNCES) {
            return NONE;
        }
        int was = ring.deep[hole];
        ring.deep[hole] = v;
        return was;
    }

    public int sheet(int kind, int n, int f, int step) {
        if (kind < 0 || kind > 3 || n > MOST_HOLES) {
            return NONE;
        }
        if (kind < 3 && n < 0) {
            return NOT_SO;
        }
        int entries = kind == 3 ? 0 : n;
        for (int h = 0; h < ring.count; h++) {
            int entry = h < entries ? entryOf(kind, f + h * step) : 0;
            ring.has[h] = Math.max(0, Math.min(entry, ring.room[h]));
        }
        return kind == 3 ? MISSING : ring.ouncesInAll();
    }

    private static int entryOf(int kind, int v) {
        if (kind == 0) {
            return (byte) v;
        }
        return kind == 1 ? (short) v : v;
    }

    public int cross(int bearing, int plane, int v) {
        if (!isOneOfTwo(bearing) || !isOneOfTwo(plane) || !isWithin(v, MOST_CROSS)) {
            return NONE;
        }
        int was = crosses[2 * bearing + plane];
        crosses[2 * bearing + plane] = v;
        return was;
    }

    public boolean truly(int what, int x, int y) {
        return setMass(trueMasses, what, x, y);
    }

    public boolean think(int what, int x, int y) {
        return setMass(thought, what, x, y);
    }

    private static boolean setMass(int[] masses, int what, int x, int y) {
        if (what < 0 || what > FLOOR || !isWithin(x, MASS_EDGE) || !isWithin(y, MASS_EDGE)) {
            return false;
        }
        masses[2 * what] = x;
        masses[2 * what + 1] = y;
        return true;
    }

    public boolean pound(int hole, int ounces) {
        if (hole == NONE) {
            ring.poundHole = NONE;
            ring.poundOunces = 0;
            return true;
        }
        if (!ring.isHole(hole) || ounces < 1 || ounces > MOST_POUND) {
            return false;
        }
        ring.poundHole = hole;
        ring.poundOunces = ounces;
        return true;
    }

    public int feel(int bearing, int speed) {
        if (!isOneOfTwo(bearing) || !speeds.isSpeed(speed)) {
            return NONE;
        }
        int x = feltTruly(bearing, speed, 0);
        int y = feltTruly(bearing, speed, 1);
        told.start();
        told.add(x);
        told.add(y);
        told.add(sizeOf(x, y));
        return 0;
    }

    public int hums(int bearing, int what) {
        if (!isOneOfTwo(bearing) || !isOneOfTwo(what)) {
            return NONE;
        }
        int found = NOT_SO;
        long most = 0;
        for (int s = 0; s < speeds.count; s++) {
            long size = sizeOf(feltTruly(bearing, s, 0), feltTruly(bearing, s, 1));
            if (found < 0 || (what == 0 ? size > most : size < most)) {
                found = s;
                most = size;
            }
        }
        if (found >= 0) {
            told.start();
            told.add(most);
        }
        return found;
    }

    private int feltTruly(int bearing, int speed, int axis) {
        int sum = 0;
        for (int plane = 0; plane < 2; plane++) {
            int pull = trueMasses[2 * plane + axis] + ring.leadWithPound(plane, axis);
            sum += crosses[2 * bearing + plane] * pull;
        }
        return speeds.factor[speed] * sum + besides(trueMasses, speed, axis);
    }

    /** What the next stone and the floor bring. */
    private int besides(int[] masses, int speed, int axis) {
        return speeds.other[speed] * masses[2 * NEXT + axis] + masses[2 * FLOOR + axis];
    }

    // ---- trials

    public int whole(int speed, int x, int y, int give) {
        if (!speeds.isSpeed(speed) || !isWithin(x, FELT_EDGE) || !isWithin(y, FELT_EDGE)
                || give < 0 || give > MOST_GIVE || trials.count >= MOST_TRIALS) {
            return NONE;
        }
        return trials.addWhole(speed, x, y, give, ring);
    }

    public int much(int speed, int low, int high) {
        if (!speeds.isSpeed(speed) || low < 0 || low > high || high > MOST_MUCH
                || trials.count >= MOST_TRIALS) {
            return NONE;
        }
        return trials.addMuch(speed, low, high, ring);
    }

    public int drop() {
        if (trials.count <= 0) {
            return NONE;
        }
        trials.count--;
        return trials.count;
    }

    public int which() {
        gatherSpan();
        told.start();
        if (span.count > 0) {
            told.add(span.firstX);
            told.add(span.firstY);
            told.add(span.lastX);
            told.add(span.lastY);
        }
        return span.count;
    }

    public int ends() {
        gatherSpan();
        if (span.count == 0) {
            return 0;
        }
        told.start();
        told.add(span.firstX);
        told.add(span.lastX);
        told.add(span.leastY);
        told.add(span.greatestY);
        told.add(span.widest());
        return span.count;
    }

    private void gatherSpan() {
        prepareTrials();
        span.start();
        for (int x = -PULL_EDGE; x <= PULL_EDGE; x++) {
            for (int y = -PULL_EDGE; y <= PULL_EDGE; y++) {
                if (trials.firstAgainst(x, y) == NOT_SO) {
                    span.take(x, y);
                }
            }
        }
    }

    public int judge(int x, int y) {
        if (!isWithin(x, PULL_EDGE) || !isWithin(y, PULL_EDGE)) {
            return NONE;
        }
        prepareTrials();
        return trials.firstAgainst(x, y);
    }

    public int bars() {
        prepareTrials();
        int fewest = 3;
        int least = 0;
        for (int x = -PULL_EDGE; x <= PULL_EDGE; x++) {
            for (int y = -PULL_EDGE; y <= PULL_EDGE; y++) {
                int bits = trials.allAgainst(x, y, fewest);
                int many = Integer.bitCount(bits);
                if (many < fewest || (many == fewest && many < 3 && bits < least)) {
                    fewest = many;
                    least = bits;
                }
            }
        }
        if (fewest > 2) {
            return NOT_SO;
        }
        told.start();
        told.add(least);
        return fewest;
    }

    public int next(int speed, int most) {
        if (!speeds.isSpeed(speed) || most < 1 || most > MOST_HUNG) {
            return NONE;
        }
        if (!ring.hasHoleOf(0)) {
            return NOT_SO;
        }
        Pulls left = gatherPulls();
        if (left.count == 0) {
            return NOT_SO;
        }
        int many = findNarrowest(left, speed, most);
        told.start();
        told.add(left.bestHole);
        told.add(left.bestOunces);
        return many;
    }

    public int enough(int speed, int x, int y) {
        if (!speeds.isSpeed(speed) || !isWithin(x, PULL_EDGE) || !isWithin(y, PULL_EDGE)
                || !ring.hasHoleOf(0)) {
            return NONE;
        }
        prepareTrials();
        if (trials.firstAgainst(x, y) != NOT_SO) {
            return NONE;
        }
        Pulls left = gatherPulls();
        int made = 0;
        while (made < MOST_MORE_TRIALS && left.count > 1) {
            findNarrowest(left, speed, MOST_HUNG);
            feelWithHung(left, speed, left.bestHole, left.bestOunces);
            left.keepAlike(x, y);
            left.behind[made] = left.count;
            made++;
        }
        if (left.count != 1) {
            return NOT_SO;
        }
        told.start();
        for (int i = 0; i < made; i++) {
            told.add(left.behind[i]);
        }
        return made;
    }

    /** The PULLS that AGREE; their rows are large and few objects need them, so they are made late. */
    private Pulls gatherPulls() {
        if (pulls == null) {
            pulls = new Pulls();
        }
        prepareTrials();
        pulls.gather(trials);
        return pulls;
    }

    private int findNarrowest(Pulls left, int speed, int most) {
        int least = left.count + 1;
        for (int h = 0; h < ring.count; h++) {
            if (ring.plane[h] != 0) {
                continue;
            }
            for (int w = 1; w <= most && least > 1; w++) {
                feelWithHung(left, speed, h, w);
                int many = left.mostAlike(least);
                if (many < least) {
                    least = many;
                    left.bestHole = h;
                    left.bestOunces = w;
                }
            }
        }
        return least;
    }

    private void feelWithHung(Pulls left, int speed, int hole, int w) {
        int baseX = feltBarePull(speed, ring.leadOfHoles(0, 0) + w * ring.x[hole], ring.leadOfHoles(1, 0), 0);
        int baseY = feltBarePull(speed, ring.leadOfHoles(0, 1) + w * ring.y[hole], ring.leadOfHoles(1, 1), 1);
        left.setSizes(speeds.factor[speed] * crosses[0], baseX, baseY);
    }

    private void prepareTrials() {
        for (int t = 0; t < trials.count; t++) {
            int speed = trials.speed[t];
            trials.scale[t] = speeds.factor[speed] * crosses[0];
            trials.baseX[t] = feltBarePull(speed, trials.lead[4 * t], trials.lead[4 * t + 2], 0);
            trials.baseY[t] = feltBarePull(speed, trials.lead[4 * t + 1], trials.lead[4 * t + 3], 1);
        }
    }

    /** FELT at bearing 0 as THOUGHT, if PLANE 0 had no PULL. */
    private int feltBarePull(int speed, int lead0, int lead1, int axis) {
        int sum = crosses[0] * lead0 + crosses[1] * (thought[2 + axis] + lead1);
        return speeds.factor[speed] * sum + besides(thought, speed, axis);
    }

    // ---- men

    public boolean man(int man, int up, int low) {
        if (!isMan(man) || up < 1 || up > MOST_UP_LOW || low < 1 || low > MOST_UP_LOW) {
            return false;
        }
        this.up[man] = up;
        this.low[man] = low;
        return true;
    }

    public int tells(int man, int speed) {
        if (!isMan(man) || !speeds.isSpeed(speed)) {
            return NONE;
        }
        long x = feltByMan(man, feltTruly(0, speed, 0));
        long y = feltByMan(man, feltTruly(0, speed, 1));
        told.start();
        told.add(x);
        told.add(y);
        return 0;
    }

    public int men(int speed, int x, int y, int give) {
        if (!speeds.isSpeed(speed) || give < 0 || give > MOST_GIVE) {
            return NONE;
        }
        int feltX = feltTruly(0, speed, 0);
        int feltY = feltTruly(0, speed, 1);
        int bits = 0;
        int nearest = 0;
        long least = 0;
        for (int m = 0; m < MEN; m++) {
            long farX = feltByMan(m, feltX) - x;
            long farY = feltByMan(m, feltY) - y;
            if (Math.abs(farX) <= give && Math.abs(farY) <= give) {
                bits |= 1 << m;
            }
            long size = sizeOf(farX, farY);
            // The document bounds no number of this POINT, and the greatest SIZE has a bit more than a long.
            if (m == 0 || Long.compareUnsigned(size, least) < 0) {
                nearest = m;
                least = size;
            }
        }
        told.start();
        told.add(nearest);
        told.add(least);
        return bits;
    }

    private long feltByMan(int man, int felt) {
        long lower = Math.max(1, low[man]);
        return (long) felt * up[man] / lower;
    }

    private static boolean isMan(int man) {
        return man >= 0 && man < MEN;
    }

    // ---- mending

    public long rest(int plane) {
        if (!isOneOfTwo(plane)) {
            return NONE;
        }
        return sizeOf(unmended(plane, 0), unmended(plane, 1));
    }

    /** PULL as THOUGHT and LEAD of the HOLES: what REST is the SIZE of. */
    private int unmended(int plane, int axis) {
        return thought[2 * plane + axis] + ring.leadOfHoles(plane, axis);
    }

    public long best(int plane, int k) {
        if (!isOneOfTwo(plane) || k < 1 || k > 3) {
            return NONE;
        }
        long least = searchPutting(plane, k);
        tellSearched();
        return least;
    }

    public long off(int plane, int k) {
        if (!isOneOfTwo(plane) || k < 1 || k > 3) {
            return NONE;
        }
        startRestSearch(plane);
        for (int h = 0; h < ring.count; h++) {
            if (ring.plane[h] == plane) {
                search.addHole(0, ring.has[h] + ring.deep[h]);
                search.addStep(0, -ring.x[h], -ring.y[h]);
            }
        }
        long least = search.leastOf(k);
        tellSearched();
        return least;
    }

    public long instead(int plane, int k) {
        if (!isOneOfTwo(plane) || k < 1 || k > 2) {
            return NONE;
        }
        startRestSearch(plane);
        for (int h = 0; h < ring.count; h++) {
            if (ring.plane[h] == plane) {
                search.addHole(-ring.has[h] - ring.deep[h], ring.roomLeft(h));
                search.addStep(0, ring.x[h], ring.y[h]);
            }
        }
        long least = search.leastOf(k);
        tellSearched();
        return least;
    }

    public int fewest(int plane, long bound) {
        if (!isOneOfTwo(plane) || bound < 0) {
            return NONE;
        }
        for (int k = 0; k <= 3; k++) {
            if (searchPutting(plane, k) <= bound) {
                tellSearched();
                return k;
            }
        }
        return NOT_SO;
    }

    private long searchPutting(int plane, int k) {
        startRestSearch(plane);
        for (int h = 0; h < ring.count; h++) {
            if (ring.plane[h] == plane) {
                search.addHole(0, ring.roomLeft(h));
                search.addStep(0, ring.x[h], ring.y[h]);
            }
        }
        return search.leastOf(k);
    }

    private void startRestSearch(int plane) {
        search.start(false);
        search.addPoint(unmended(plane, 0), unmended(plane, 1));
    }

    private void tellSearched() {
        told.start();
        for (int i = 0; i < search.holes; i++) {
            told.add(search.best[i]);
        }
    }

    public long all(int plane, int w) {
        if (!isOneOfTwo(plane) || w < 1 || w > MOST_OUNCES) {
            return NONE;
        }
        int many = gatherFitting(plane, w);
        int x = unmended(plane, 0);
        int y = unmended(plane, 1);
        int bits = 0;
        int leastBits = 0;
        long least = sizeOf(x, y);
        // Each way differs from the one before by a single HOLE (a Gray code), so that no sum is made anew.
        for (int way = 1; way < 1 << many; way++) {
            int hole = fits[Integer.bitCount((way & -way) - 1)];
            bits ^= 1 << hole;
            int more = (bits >> hole & 1) == 1 ? w : -w;
            x += more * ring.x[hole];
            y += more * ring.y[hole];
            long size = sizeOf(x, y);
            if (size < least || (size == least && isFewer(bits, leastBits))) {
                least = size;
                leastBits = bits;
            }
        }
        told.start();
        told.add(leastBits);
        return least;
    }

    private int gatherFitting(int plane, int w) {
        int many = 0;
        for (int h = 0; h < ring.count; h++) {
            if (ring.plane[h] == plane && ring.roomLeft(h) >= w) {
                fits[many] = h;
                many++;
            }
        }
        return many;
    }

    private static boolean isFewer(int bits, int than) {
        int difference = Integer.bitCount(bits) - Integer.bitCount(than);
        return difference < 0 || (difference == 0 && bits < than);
    }

    public int ounce(int plane, int what) {
        if (!isOneOfTwo(plane) || !isOneOfTwo(what)) {
            return NONE;
        }
        int hole = bestOunce(plane, what);
        if (hole >= 0) {
            told.start();
            told.add(changeByOunce(hole, what));
        }
        return hole;
    }

    public int settle(int plane) {
        if (!isOneOfTwo(plane)) {
            return NONE;
        }
        int done = 0;
        while (done < MOST_SETTLED && settleOunce(plane)) {
            done++;
        }
        return done;
    }

    private boolean settleOunce(int plane) {
        int into = bestOunce(plane, 0);
        int out = bestOunce(plane, 1);
        long byInto = into >= 0 ? changeByOunce(into, 0) : 0;
        long byOut = out >= 0 ? changeByOunce(out, 1) : 0;
        if (byInto >= 0 && byOut >= 0) {
            return false;
        }
        if (byInto <= byOut) {
            ring.has[into]++;
        } else {
            ring.has[out]--;
        }
        return true;
    }

    private int bestOunce(int plane, int what) {
        int found = NOT_SO;
        long least = 0;
        for (int h = 0; h < ring.count; h++) {
            boolean can = what == 0 ? ring.roomLeft(h) > 0 : ring.has[h] > 0;
            if (ring.plane[h] != plane || !can) {
                continue;
            }
            long change = changeByOunce(h, what);
            if (found < 0 || change < least) {
                found = h;
                least = change;
            }
        }
        return found;
    }

    private long changeByOunce(int hole, int what) {
        int plane = ring.plane[hole];
        int more = what == 0 ? 1 : -1;
        int x = unmended(plane, 0);
        int y = unmended(plane, 1);
        return sizeOf(x + more * ring.x[hole], y + more * ring.y[hole]) - sizeOf(x, y);
    }

    // ---- planes, speeds

    public int both(int speed, int x0, int y0, int x1, int y1) {
        if (!speeds.isSpeed(speed) || !isWithin(x0, FELT_EDGE) || !isWithin(y0, FELT_EDGE)
                || !isWithin(x1, FELT_EDGE) || !isWithin(y1, FELT_EDGE)) {
            return NONE;
        }
        if (partingOfCrosses() == 0) {
            return NOT_SO;
        }
        told.start();
        tellPull(speed, 0, 0, x0, x1);
        tellPull(speed, 0, 1, y0, y1);
        tellPull(speed, 1, 0, x0, x1);
        tellPull(speed, 1, 1, y0, y1);
        return 0;
    }

    private int partingOfCrosses() {
        return crosses[0] * crosses[3] - crosses[1] * crosses[2];
    }

    private void tellPull(int speed, int plane, int axis, int felt0, int felt1) {
        long own0 = felt0 - besides(thought, speed, axis);
        long own1 = felt1 - besides(thought, speed, axis);
        long upper = plane == 0
                ? crosses[3] * own0 - crosses[1] * own1
                : crosses[0] * own1 - crosses[2] * own0;
        long lower = (long) speeds.factor[speed] * partingOfCrosses();
        told.addFraction(upper - lower * ring.leadWithPound(plane, axis), lower);
    }

    public long two(int speed) {
        if (!speeds.isSpeed(speed)) {
            return NONE;
        }
        search.start(false);
        search.addPoint(feltThought(0, speed, 0), feltThought(0, speed, 1));
        search.addPoint(feltThought(1, speed, 0), feltThought(1, speed, 1));
        for (int h = 0; h < ring.count; h++) {
            int at0 = speeds.factor[speed] * crosses[ring.plane[h]];
            int at1 = speeds.factor[speed] * crosses[2 + ring.plane[h]];
            search.addHole(0, ring.roomLeft(h));
            search.addStep(0, at0 * ring.x[h], at0 * ring.y[h]);
            search.addStep(1, at1 * ring.x[h], at1 * ring.y[h]);
        }
        long least = search.leastOf(2);
        tellSearched();
        return least;
    }

    /** FELT by MASSES as THOUGHT, THE POUND left out. */
    private int feltThought(int bearing, int speed, int axis) {
        int sum = crosses[2 * bearing] * unmended(0, axis) + crosses[2 * bearing + 1] * unmended(1, axis);
        return speeds.factor[speed] * sum + besides(thought, speed, axis);
    }

    public boolean at(int speed, int x, int y) {
        if (!speeds.isSpeed(speed) || !isWithin(x, MASS_EDGE) || !isWithin(y, MASS_EDGE)) {
            return false;
        }
        speeds.apart[speed] = true;
        speeds.apartX[speed] = x;
        speeds.apartY[speed] = y;
        return true;
    }

    public long worst() {
        if (speeds.count == 0) {
            return NOT_SO;
        }
        search.start(true);
        for (int s = 0; s < speeds.count; s++) {
            int pullX = speeds.apart[s] ? speeds.apartX[s] : thought[0];
            int pullY = speeds.apart[s] ? speeds.apartY[s] : thought[1];
            search.addPoint(speeds.factor[s] * (pullX + ring.leadOfHoles(0, 0)),
                    speeds.factor[s] * (pullY + ring.leadOfHoles(0, 1)));
        }
        for (int h = 0; h < ring.count; h++) {
            if (ring.plane[h] != 0) {
                continue;
            }
            search.addHole(0, ring.roomLeft(h));
            for (int s = 0; s < speeds.count; s++) {
                search.addStep(s, speeds.factor[s] * ring.x[h], speeds.factor[s] * ring.y[h]);
            }
        }
        long least = search.leastOf(2);
        tellSearched();
        return least;
    }

    // ---- floor, the next stone

    public int floor(int one, long p, int other, long q) {
        if (!speeds.isSpeed(one) || !speeds.isSpeed(other) || !isCode(p) || !isCode(q)) {
            return NONE;
        }
        long factor1 = speeds.factor[one];
        long factor2 = speeds.factor[other];
        long lower = factor1 - factor2;
        if (lower == 0) {
            return NOT_SO;
        }
        told.start();
        told.addFraction(decoded(p, 0) - decoded(q, 0), lower);
        told.addFraction(decoded(p, 1) - decoded(q, 1), lower);
        told.addFraction(factor1 * decoded(q, 0) - factor2 * decoded(p, 0), lower);
        told.addFraction(factor1 * decoded(q, 1) - factor2 * decoded(p, 1), lower);
        return 0;
    }

    public int whose(int a, int b, int c, long p, long q, long r) {
        if (!speeds.isSpeed(a) || !speeds.isSpeed(b) || !speeds.isSpeed(c) || a == b || b == c || a == c
                || !isCode(p) || !isCode(q) || !isCode(r)) {
            return NONE;
        }
        if (partingOfSpeeds(a, b, c) == 0) {
            return NOT_SO;
        }
        told.start();
        tellThree(a, b, c, decoded(p, 0), decoded(q, 0), decoded(r, 0));
        tellThree(a, b, c, decoded(p, 1), decoded(q, 1), decoded(r, 1));
        return 0;
    }

    private long partingOfSpeeds(int a, int b, int c) {
        long factorB = speeds.factor[b] - speeds.factor[a];
        long factorC = speeds.factor[c] - speeds.factor[a];
        long otherB = speeds.other[b] - speeds.other[a];
        long otherC = speeds.other[c] - speeds.other[a];
        return factorB * otherC - factorC * otherB;
    }

    /** The floor's part is alike at all speeds: differences to the first speed leave it out. */
    private void tellThree(int a, int b, int c, long feltA, long feltB, long feltC) {
        long lower = partingOfSpeeds(a, b, c);
        long factorB = speeds.factor[b] - speeds.factor[a];
        long factorC = speeds.factor[c] - speeds.factor[a];
        long otherB = speeds.other[b] - speeds.other[a];
        long otherC = speeds.other[c] - speeds.other[a];
        long own = (feltB - feltA) * otherC - (feltC - feltA) * otherB;
        long neighbour = factorB * (feltC - feltA) - factorC * (feltB - feltA);
        told.addFraction(own, lower);
        told.addFraction(neighbour, lower);
        told.addFraction(feltA * lower - speeds.factor[a] * own - speeds.other[a] * neighbour, lower);
    }

    private static boolean isCode(long code) {
        return code >= 0 && code < CODE_BASE * CODE_BASE && code / CODE_BASE > 0 && code % CODE_BASE > 0;
    }

    private static long decoded(long code, int axis) {
        return (axis == 0 ? code / CODE_BASE : code % CODE_BASE) - CODE_ZERO;
    }

    public int part(int speed) {
        if (!speeds.isSpeed(speed)) {
            return NONE;
        }
        told.start();
        for (int plane = 0; plane < 2; plane++) {
            long times = speeds.factor[speed] * crosses[plane];
            told.add(sizeOf(times * (trueMasses[2 * plane] + ring.leadWithPound(plane, 0)),
                    times * (trueMasses[2 * plane + 1] + ring.leadWithPound(plane, 1))));
        }
        long other = speeds.other[speed];
        told.add(sizeOf(other * trueMasses[2 * NEXT], other * trueMasses[2 * NEXT + 1]));
        told.add(sizeOf(trueMasses[2 * FLOOR], trueMasses[2 * FLOOR + 1]));
        return told.placeOfGreatest();
    }

    // ---- buckets, cogs

    public int buckets(int plane, long bound) {
        if (!isOneOfTwo(plane) || bound < 0) {
            return NONE;
        }
        int x = unmended(plane, 0);
        int y = unmended(plane, 1);
        if (sizeOf(x, y) > bound) {
            return 0;
        }
        int minute = 0;
        // One that still has room in a turn has had an ounce in each turn before.
        for (int turn = 0; turn < MOST_OUNCES; turn++) {
            for (int h = 0; h < ring.count; h++) {
                if (ring.plane[h] != plane || ring.roomLeft(h) <= turn) {
                    continue;
                }
                minute++;
                x += ring.x[h];
                y += ring.y[h];
                if (sizeOf(x, y) > bound) {
                    return minute;
                }
            }
        }
        return NOT_SO;
    }

    public long cogs() {
        if (!cogsHavePlaces()) {
            return NONE;
        }
        wheel.seatAsTold(ring);
        return sizeOf(wheel.x, wheel.y);
    }

    public long order() {
        if (!cogsHavePlaces()) {
            return NONE;
        }
        wheel.findLeast(ring);
        told.start();
        for (int h = 0; h < wheel.count; h++) {
            told.add(wheel.best[h]);
        }
        return wheel.leastSize;
    }

    public int round() {
        if (!cogsHavePlaces()) {
            return NONE;
        }
        wheel.seatAsTold(ring);
        int made = 0;
        while (made < MOST_EXCHANGES && wheel.exchangeBest(ring)) {
            made++;
        }
        told.start();
        for (int h = 0; h < wheel.count; h++) {
            told.add(wheel.seat[h]);
        }
        told.add(sizeOf(wheel.x, wheel.y));
        return made;
    }

    private boolean cogsHavePlaces() {
        return wheel.count > 0 && wheel.count <= ring.count;
    }

    // ---- kept

    public boolean keep(int i) {
        if (i < 0 || i >= KEPT || kept[i] == null) {
            return false;
        }
        kept[i].store(ring, speeds, trials, thought);
        return true;
    }

    public boolean again(int i) {
        if (i < 0 || i >= KEPT || kept[i] == null || !kept[i].filled) {
            return false;
        }
        kept[i].bringBack(ring, speeds, trials, thought);
        return true;
    }

    public int count(int what) {
        switch (what) {
            case 0: return ring.count;
            case 1: return speeds.count;
            case 2: return wheel.count;
            case 3: return trials.count;
            case 4: return ring.ouncesInAll();
            case 5: return ring.poundHole;
            case 6: return ring.poundOunces;
            case 7: return told.length;
            case 8: return reader.length;
            default: return NONE;
        }
    }

    public long row(int i) throws NoSuchElementException {
        if (i < 0 || i >= told.length) {
            throw new NoSuchElementException("no such number of the row");
        }
        return told.numbers[i];
    }

    // ---- what all use

    private static boolean isOneOfTwo(int v) {
        return v == 0 || v == 1;
    }

    private static boolean isWithin(int v, int edge) {
        return v >= -edge && v <= edge;
    }

    private static long sizeOf(long x, long y) {
        return x * x + y * y;
    }

    private static void copy(int[] from, int[] to) {
        for (int i = 0; i < from.length && i < to.length; i++) {
            to[i] = from[i];
        }
    }

    /** The ROW. */
    private static final class Told {
        private final long[] numbers = new long[MOST_HOLES];
        private int length;

        void start() {
            length = 0;
        }

        void add(long v) {
            if (length < numbers.length) {
                numbers[length] = v;
                length++;
            }
        }

        void addFraction(long upper, long lower) {
            long divisor = greatestDivisor(Math.abs(upper), Math.abs(lower));
            if (divisor <= 0 || lower == 0) {
                return;
            }
            long signed = lower < 0 ? -divisor : divisor;
            add(upper / signed);
            add(lower / signed);
        }

        private static long greatestDivisor(long a, long b) {
            long greater = a;
            long smaller = b;
            // Each second step halves a number, so that 128 steps do for all.
            for (int step = 0; step < 128 && smaller != 0; step++) {
                long remainder = greater % smaller;
                greater = smaller;
                smaller = remainder;
            }
            return greater;
        }

        int placeOfGreatest() {
            int found = 0;
            for (int i = 1; i < length; i++) {
                if (numbers[i] > numbers[found]) {
                    found = i;
                }
            }
            return found;
        }
    }

    /** HOLES and THE POUND. */
    private static final class Ring {
        private int count;
        private final int[] plane = new int[MOST_HOLES];
        private final int[] x = new int[MOST_HOLES];
        private final int[] y = new int[MOST_HOLES];
        private final int[] room = new int[MOST_HOLES];
        private final int[] has = new int[MOST_HOLES];
        private final int[] deep = new int[MOST_HOLES];
        private int poundHole = NONE;
        private int poundOunces;

        boolean isHole(int hole) {
            return hole >= 0 && hole < count;
        }

        boolean hasHoleOf(int which) {
            for (int h = 0; h < count; h++) {
                if (plane[h] == which) {
                    return true;
                }
            }
            return false;
        }

        int roomLeft(int hole) {
            return room[hole] - has[hole];
        }

        int ouncesInAll() {
            int sum = 0;
            for (int h = 0; h < count; h++) {
                sum += has[h];
            }
            return sum;
        }

        int leadOfHoles(int which, int axis) {
            int[] places = axis == 0 ? x : y;
            int sum = 0;
            for (int h = 0; h < count; h++) {
                if (plane[h] == which) {
                    sum += has[h] * places[h];
                }
            }
            return sum;
        }

        int leadWithPound(int which, int axis) {
            int sum = leadOfHoles(which, axis);
            if (isHole(poundHole) && plane[poundHole] == which) {
                sum += poundOunces * (axis == 0 ? x[poundHole] : y[poundHole]);
            }
            return sum;
        }
    }

    /** SPEEDS, and where PULL of PLANE 0 is THOUGHT apart for one of them. */
    private static final class Speeds {
        private int count;
        private final int[] factor = new int[MOST_SPEEDS];
        private final int[] other = new int[MOST_SPEEDS];
        private final boolean[] apart = new boolean[MOST_SPEEDS];
        private final int[] apartX = new int[MOST_SPEEDS];
        private final int[] apartY = new int[MOST_SPEEDS];

        boolean isSpeed(int speed) {
            return speed >= 0 && speed < count;
        }

        void copyApart(Speeds from) {
            copy(from.apartX, apartX);
            copy(from.apartY, apartY);
            for (int s = 0; s < MOST_SPEEDS; s++) {
                apart[s] = from.apart[s];
            }
        }
    }

    /**
     * THE TEXT and its reading. What is told is written behind the counts of HOLES, SPEEDS and COGS, and the
     * counts rise only when all could be read: so a wrong text changes nothing.
     */
    private static final class Reader {
        private final int[] signs = new int[MOST_SIGNS];
        private int length;
        private int limit;
        private int place;
        private int number;
        private int moreHoles;
        private int moreSpeeds;
        private int moreCogs;

        int append(int v) {
            if (length + 4 > MOST_SIGNS) {
                return NONE;
            }
            for (int shift = 24; shift >= 0; shift -= 8) {
                signs[length] = v >> shift & 255;
                length++;
            }
            return length;
        }

        boolean cutTo(int n) {
            if (n < 0 || n > length) {
                return false;
            }
            length = n;
            return true;
        }

        void empty() {
            length = 0;
        }

        int readLines(Ring ring, Speeds speeds, Cogs wheel) {
            if (length == 0) {
                return 0;
            }
            limit = Math.min(length, SIGNS_READ);
            place = 0;
            moreHoles = 0;
            moreSpeeds = 0;
            moreCogs = 0;
            for (int lines = 1; lines <= SIGNS_READ; lines++) {
                if (!readLine(ring, speeds, wheel)) {
                    return -1 - place;
                }
                if (place == length) {
                    ring.count += moreHoles;
                    speeds.count += moreSpeeds;
                    wheel.count += moreCogs;
                    return lines;
                }
                if (!readSign(';')) {
                    return -1 - place;
                }
            }
            return -1 - place;
        }

        /** Like all reading below: if it can't be read, the place stays at the sign that can't stand there. */
        private boolean readLine(Ring ring, Speeds speeds, Cogs wheel) {
            if (place >= limit) {
                return false;
            }
            switch (signs[place]) {
                case 'h': return readHole(ring);
                case 's': return readSpeed(speeds);
                case 'c': return readCog(wheel);
                default: return false;
            }
        }

        private boolean readHole(Ring ring) {
            int slot = ring.count + moreHoles;
            if (slot >= MOST_HOLES) {
                return false;
            }
            place++;
            if (!readNumber(0, 1)) {
                return false;
            }
            ring.plane[slot] = number;
            if (!readSign(',') || !readSigned()) {
                return false;
            }
            ring.x[slot] = number;
            if (!readSign(',') || !readSigned()) {
                return false;
            }
            ring.y[slot] = number;
            if (!readSign(',') || !readNumber(0, MOST_OUNCES)) {
                return false;
            }
            ring.room[slot] = number;
            moreHoles++;
            return true;
        }

        private boolean readSpeed(Speeds speeds) {
            int slot = speeds.count + moreSpeeds;
            if (slot >= MOST_SPEEDS) {
                return false;
            }
            place++;
            if (!readNumber(1, 9)) {
                return false;
            }
            speeds.factor[slot] = number;
            if (!readSign(',') || !readNumber(0, 9)) {
                return false;
            }
            speeds.other[slot] = number;
            moreSpeeds++;
            return true;
        }

        private boolean readCog(Cogs wheel) {
            int slot = wheel.count + moreCogs;
            if (slot >= MOST_COGS) {
                return false;
            }
            place++;
            if (!readNumber(0, 99)) {
                return false;
            }
            wheel.weight[slot] = number;
            moreCogs++;
            return true;
        }

        private boolean readSign(int sign) {
            if (place >= limit || signs[place] != sign) {
                return false;
            }
            place++;
            return true;
        }

        private boolean readSigned() {
            boolean below = readSign('-');
            if (!readNumber(0, 99)) {
                return false;
            }
            if (below) {
                number = -number;
            }
            return true;
        }

        private boolean readNumber(int least, int greatest) {
            if (!isDigitHere()) {
                return false;
            }
            number = signs[place] - '0';
            place++;
            if (isDigitHere()) {
                number = 10 * number + signs[place] - '0';
                place++;
            }
            if (number < least || number > greatest) {
                place--;
                return false;
            }
            return true;
        }

        private boolean isDigitHere() {
            return place < limit && signs[place] >= '0' && signs[place] <= '9';
        }
    }

    /**
     * TRIALS. For each, FELT of a PULL is scale times it and a base more: both are set anew before they are
     * asked, as CROSS and what is THOUGHT may have changed.
     */
    private static final class Trials {
        private int count;
        private final int[] speed = new int[MOST_TRIALS];
        private final boolean[] isWhole = new boolean[MOST_TRIALS];
        private final int[] first = new int[MOST_TRIALS];
        private final int[] second = new int[MOST_TRIALS];
        private final int[] give = new int[MOST_TRIALS];
        private final int[] lead = new int[4 * MOST_TRIALS];
        private final int[] scale = new int[MOST_TRIALS];
        private final int[] baseX = new int[MOST_TRIALS];
        private final int[] baseY = new int[MOST_TRIALS];

        int addWhole(int atSpeed, int x, int y, int within, Ring ring) {
            int t = addTrial(atSpeed, x, y, ring);
            if (t >= 0) {
                isWhole[t] = true;
                give[t] = within;
            }
            return t;
        }

        int addMuch(int atSpeed, int least, int greatest, Ring ring) {
            int t = addTrial(atSpeed, least, greatest, ring);
            if (t >= 0) {
                isWhole[t] = false;
                give[t] = 0;
            }
            return t;
        }

        private int addTrial(int atSpeed, int one, int another, Ring ring) {
            if (count >= MOST_TRIALS) {
                return NONE;
            }
            int t = count;
            speed[t] = atSpeed;
            first[t] = one;
            second[t] = another;
            for (int i = 0; i < 4; i++) {
                lead[4 * t + i] = ring.leadWithPound(i / 2, i % 2);
            }
            count++;
            return t;
        }

        private boolean agrees(int t, int x, int y) {
            int feltX = scale[t] * x + baseX[t];
            int feltY = scale[t] * y + baseY[t];
            if (isWhole[t]) {
                return isWithin(feltX - first[t], give[t]) && isWithin(feltY - second[t], give[t]);
            }
            long size = sizeOf(feltX, feltY);
            return size >= first[t] && size <= second[t];
        }

        int firstAgainst(int x, int y) {
            for (int t = 0; t < count; t++) {
                if (!agrees(t, x, y)) {
                    return t;
                }
            }
            return NOT_SO;
        }

        /** As bits; once there are more than are of use, the others are not looked for. */
        int allAgainst(int x, int y, int ofUse) {
            int bits = 0;
            int many = 0;
            for (int t = 0; t < count && many <= ofUse; t++) {
                if (!agrees(t, x, y)) {
                    bits |= 1 << t;
                    many++;
                }
            }
            return bits;
        }

        void copyTrials(Trials from) {
            count = from.count;
            copy(from.speed, speed);
            copy(from.first, first);
            copy(from.second, second);
            copy(from.give, give);
            copy(from.lead, lead);
            for (int t = 0; t < MOST_TRIALS; t++) {
                isWhole[t] = from.isWhole[t];
            }
        }
    }

    /** Ends of PULLS that come by x, then y: the first has the least x, the last the greatest. */
    private static final class Ends {
        private int count;
        private int firstX;
        private int firstY;
        private int lastX;
        private int lastY;
        private int leastY;
        private int greatestY;
        private final int[] fewX = new int[FEW_PULLS];
        private final int[] fewY = new int[FEW_PULLS];

        void start() {
            count = 0;
        }

        void take(int x, int y) {
            if (count == 0) {
                firstX = x;
                firstY = y;
                leastY = y;
                greatestY = y;
            }
            lastX = x;
            lastY = y;
            leastY = Math.min(leastY, y);
            greatestY = Math.max(greatestY, y);
            if (count < FEW_PULLS) {
                fewX[count] = x;
                fewY[count] = y;
            }
            count++;
        }

        long widest() {
            if (count > FEW_PULLS) {
                return NONE;
            }
            long greatest = 0;
            for (int i = 0; i < count; i++) {
                for (int j = i + 1; j < count; j++) {
                    greatest = Math.max(greatest, sizeOf(fewX[i] - fewX[j], fewY[i] - fewY[j]));
                }
            }
            return greatest;
        }
    }

    /** PULLS that AGREE, and how they fall apart by the SIZE that they would make. */
    private static final class Pulls {
        private static final int SHIFT = 7;
        private static final int MASK = 127;
        private static final int MOST_SLOTS = 32768;
        private static final long MIX = 0x9E3779B97F4A7C15L;

        private int count;
        private int bestHole;
        private int bestOunces;
        private final int[] behind = new int[MOST_MORE_TRIALS];
        private final int[] codes = new int[PULLS_WIDE * PULLS_WIDE];
        private final long[] squareX = new long[PULLS_WIDE];
        private final long[] squareY = new long[PULLS_WIDE];
        private final long[] sizes = new long[MOST_SLOTS];
        private final int[] tally = new int[MOST_SLOTS];

        void gather(Trials trials) {
            count = 0;
            for (int i = 0; i < PULLS_WIDE; i++) {
                for (int j = 0; j < PULLS_WIDE; j++) {
                    if (trials.firstAgainst(i - PULL_EDGE, j - PULL_EDGE) == NOT_SO) {
                        codes[count] = i << SHIFT | j;
                        count++;
                    }
                }
            }
        }

        void setSizes(int scale, int baseX, int baseY) {
            for (int i = 0; i < PULLS_WIDE; i++) {
                long x = scale * (i - PULL_EDGE) + baseX;
                long y = scale * (i - PULL_EDGE) + baseY;
                squareX[i] = x * x;
                squareY[i] = y * y;
            }
        }

        private long sizeMade(int code) {
            return squareX[code >> SHIFT] + squareY[code & MASK];
        }

        /** How many PULLS make the SIZE that most of them make; counted no farther than to enough. */
        int mostAlike(int enough) {
            int slots = 2;
            while (slots < MOST_SLOTS && slots < 2 * count) {
                slots *= 2;
            }
            for (int i = 0; i < slots; i++) {
                tally[i] = 0;
            }
            int most = 0;
            for (int i = 0; i < count && most < enough; i++) {
                most = Math.max(most, tallied(sizeMade(codes[i]), slots));
            }
            return most;
        }

        private int tallied(long size, int slots) {
            int slot = (int) (size * MIX >>> 40) & slots - 1;
            for (int tried = 0; tried < slots && tally[slot] > 0 && sizes[slot] != size; tried++) {
                slot = slot + 1 & slots - 1;
            }
            sizes[slot] = size;
            tally[slot]++;
            return tally[slot];
        }

        void keepAlike(int x, int y) {
            long size = sizeMade(x + PULL_EDGE << SHIFT | y + PULL_EDGE);
            int left = 0;
            for (int i = 0; i < count; i++) {
                if (sizeMade(codes[i]) == size) {
                    codes[left] = codes[i];
                    left++;
                }
            }
            count = left;
        }
    }

    /**
     * Ounces into few holes so that the SIZES of some POINTS, summed, or the greatest of them, are the least;
     * of equal ones the fewest ounces, then the least row.
     */
    private static final class Search {
        private int holes;
        private int points;
        private boolean byGreatest;
        private final int[] from = new int[MOST_HOLES];
        private final int[] upTo = new int[MOST_HOLES];
        private final long[] x = new long[MOST_SPEEDS];
        private final long[] y = new long[MOST_SPEEDS];
        private final long[] stepX = new long[MOST_SPEEDS * MOST_HOLES];
        private final long[] stepY = new long[MOST_SPEEDS * MOST_HOLES];
        private final long[] stepSize = new long[MOST_HOLES];
        private final int[] put = new int[MOST_HOLES];
        private final int[] best = new int[MOST_HOLES];
        private int ounces;
        private int fewestOunces;
        private long leastCost;

        void start(boolean isByGreatest) {
            holes = 0;
            points = 0;
            byGreatest = isByGreatest;
        }

        void addPoint(int atX, int atY) {
            if (points < MOST_SPEEDS) {
                x[points] = atX;
                y[points] = atY;
                points++;
            }
        }

        /** One more HOLE for ounces from .. up to (0 among them). */
        void addHole(int least, int greatest) {
            if (holes < MOST_HOLES) {
                from[holes] = least;
                upTo[holes] = greatest;
                stepSize[holes] = 0;
                put[holes] = 0;
                best[holes] = 0;
                holes++;
            }
        }

        /** How far an ounce in the latest HOLE moves a POINT. */
        void addStep(int point, int byX, int byY) {
            if (holes > 0 && point >= 0 && point < points) {
                stepX[stepAt(point, holes - 1)] = byX;
                stepY[stepAt(point, holes - 1)] = byY;
                stepSize[holes - 1] += sizeOf(byX, byY);
            }
        }

        private static int stepAt(int point, int hole) {
            return point * MOST_HOLES + hole;
        }

        long leastOf(int mostHoles) {
            ounces = 0;
            fewestOunces = 0;
            leastCost = costNow();
            dig(0, mostHoles);
            return leastCost;
        }

        private void dig(int first, int left) {
            if (left <= 0) {
                return;
            }
            if (left == 1 && !byGreatest) {
                digLast(first);
                return;
            }
            for (int i = first; i < holes; i++) {
                for (int w = from[i]; w <= upTo[i]; w++) {
                    if (w != 0) {
                        lay(i, w);
                        offer(costNow());
                        dig(i + 1, left - 1);
                    }
                }
                lay(i, 0);
            }
        }

        /** With all others laid, the sum is a parabola over the ounces of one HOLE: its foot is told at once. */
        private void digLast(int first) {
            long now = costNow();
            for (int i = first; i < holes; i++) {
                long slope = slopeOf(i);
                long w = footOf(slope, i);
                long then = now + 2 * w * slope + w * w * stepSize[i];
                if (w != 0 && then <= leastCost) {
                    put[i] = (int) w;
                    ounces += Math.abs(put[i]);
                    offer(then);
                    ounces -= Math.abs(put[i]);
                    put[i] = 0;
                }
            }
        }

        private long slopeOf(int hole) {
            long sum = 0;
            for (int p = 0; p < points; p++) {
                sum += x[p] * stepX[stepAt(p, hole)] + y[p] * stepY[stepAt(p, hole)];
            }
            return sum;
        }

        private long footOf(long slope, int hole) {
            long bend = stepSize[hole];
            if (bend <= 0) {
                return 0;
            }
            long w = Math.floorDiv(-slope, bend);
            long beyond = 2 * Math.floorMod(-slope, bend);
            // Just between two, the one of fewer ounces is meant: nearer to 0.
            if (beyond > bend || (beyond == bend && w < 0)) {
                w++;
            }
            return Math.max(from[hole], Math.min(w, upTo[hole]));
        }

        private void lay(int hole, int w) {
            int more = w - put[hole];
            for (int p = 0; p < points; p++) {
                x[p] += more * stepX[stepAt(p, hole)];
                y[p] += more * stepY[stepAt(p, hole)];
            }
            ounces += Math.abs(w) - Math.abs(put[hole]);
            put[hole] = w;
        }

        private long costNow() {
            long cost = 0;
            for (int p = 0; p < points; p++) {
                long size = sizeOf(x[p], y[p]);
                cost = byGreatest ? Math.max(cost, size) : cost + size;
            }
            return cost;
        }

        private void offer(long cost) {
            if (cost > leastCost || (cost == leastCost && !isPreferred())) {
                return;
            }
            leastCost = cost;
            fewestOunces = ounces;
            for (int i = 0; i < holes; i++) {
                best[i] = put[i];
            }
        }

        private boolean isPreferred() {
            if (ounces != fewestOunces) {
                return ounces < fewestOunces;
            }
            for (int i = 0; i < holes; i++) {
                if (put[i] != best[i]) {
                    return put[i] < best[i];
                }
            }
            return false;
        }
    }

    /** COGS, each on a seat: of each HOLE its COG. */
    private static final class Cogs {
        private int count;
        private final int[] weight = new int[MOST_COGS];
        private final int[] seat = new int[MOST_COGS];
        private final int[] best = new int[MOST_COGS];
        private int x;
        private int y;
        private long leastSize;

        void seatAsTold(Ring ring) {
            x = 0;
            y = 0;
            for (int i = 0; i < count; i++) {
                seat[i] = i;
                x += weight[i] * ring.x[i];
                y += weight[i] * ring.y[i];
            }
        }

        void findLeast(Ring ring) {
            leastSize = Long.MAX_VALUE;
            seatFrom(ring, 0, 0, 0, 0);
        }

        /** Rows come from the least on: so a later one has to be less than what was found. */
        private void seatFrom(Ring ring, int hole, int used, int sumX, int sumY) {
            if (hole >= count) {
                long size = sizeOf(sumX, sumY);
                if (size < leastSize) {
                    leastSize = size;
                    copy(seat, best);
                }
                return;
            }
            for (int c = 0; c < count; c++) {
                if ((used >> c & 1) == 0) {
                    seat[hole] = c;
                    seatFrom(ring, hole + 1, used | 1 << c,
                            sumX + weight[c] * ring.x[hole], sumY + weight[c] * ring.y[hole]);
                }
            }
        }

        boolean exchangeBest(Ring ring) {
            int one = NONE;
            int another = NONE;
            long least = sizeOf(x, y);
            for (int i = 0; i < count; i++) {
                for (int j = i + 1; j < count; j++) {
                    long size = sizeOf(x + moved(i, j, ring.x), y + moved(i, j, ring.y));
                    if (size < least) {
                        least = size;
                        one = i;
                        another = j;
                    }
                }
            }
            if (one < 0 || another < 0) {
                return false;
            }
            x += moved(one, another, ring.x);
            y += moved(one, another, ring.y);
            int cog = seat[one];
            seat[one] = seat[another];
            seat[another] = cog;
            return true;
        }

        /** By how much the sum is more when the COGS of two HOLES are exchanged. */
        private int moved(int i, int j, int[] places) {
            return (weight[seat[j]] - weight[seat[i]]) * (places[i] - places[j]);
        }
    }

    /** What keep() keeps. Slots that were not told yet have nothing in them, as again() wants it. */
    private static final class Kept {
        private boolean filled;
        private final int[] has = new int[MOST_HOLES];
        private final int[] thoughts = new int[8];
        private final Speeds apart = new Speeds();
        private final Trials trials = new Trials();
        private int poundHole;
        private int poundOunces;

        void store(Ring ring, Speeds speeds, Trials now, int[] thought) {
            filled = true;
            copy(ring.has, has);
            copy(thought, thoughts);
            apart.copyApart(speeds);
            trials.copyTrials(now);
            poundHole = ring.poundHole;
            poundOunces = ring.poundOunces;
        }

        void bringBack(Ring ring, Speeds speeds, Trials now, int[] thought) {
            copy(has, ring.has);
            copy(thoughts, thought);
            speeds.copyApart(apart);
            now.copyTrials(trials);
            ring.poundHole = poundHole;
            ring.poundOunces = poundOunces;
        }
    }
}
