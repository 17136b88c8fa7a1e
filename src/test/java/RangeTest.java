import java.util.ArrayList;
import java.util.List;
import java.util.NoSuchElementException;

/**
 * Of each number that a call takes: the last that is taken and the first that is not, on both sides. Each refused
 * call leaves all as it was: what can be seen of the object is seen of its like too, which was not called.
 */
public final class RangeTest {
    private static int wrong = 0;
    private static int asked = 0;

    /** A call with one number open; a refused one answers -1 here, a boolean too. */
    private interface Asked {
        long of(StoneThatShakes s, long v);
    }

    public static void main(String[] args) {
        likesAreSeenAlike();
        ofTheMill();
        ofMasses();
        ofTrials();
        ofMen();
        ofMending();
        ofPlanesAndSpeeds();
        ofPoints();
        ofWhatIsKept();
        ofThrowingCalls();
        fullOnes();
        whatCannotBe();
        System.out.println(wrong == 0 ? asked + " numbers are taken and refused as due" : wrong + " are not as due");
        if (wrong != 0) {
            System.exit(1);
        }
    }

    // ---- the mill

    private static void ofTheMill() {
        range("3 end n", 0, 5, (s, v) -> num(s.end((int) v)));
        range("6 lead hole", 0, 4, (s, v) -> s.lead((int) v, 0));
        range("6 lead v", 0, 9, (s, v) -> s.lead(0, (int) v));
        range("6 lead v in a ROOM of 5", 0, 5, (s, v) -> s.lead(2, (int) v));
        range("7 deep hole", 0, 4, (s, v) -> s.deep((int) v, 0));
        range("7 deep v", 0, 9, (s, v) -> s.deep(2, (int) v));
        range("8 sheet kind", 0, 3, (s, v) -> s.sheet((int) v, 2, 1, 1));
        for (int kind = 0; kind <= 3; kind++) {
            int k = kind;
            range("8 sheet n, kind " + k, Integer.MIN_VALUE, 16, (s, v) -> s.sheet(k, (int) v, 1, 1));
        }
        range("9 cross bearing", 0, 1, (s, v) -> s.cross((int) v, 0, 1));
        range("9 cross plane", 0, 1, (s, v) -> s.cross(0, (int) v, 1));
        range("9 cross v", -9, 9, (s, v) -> s.cross(0, 0, (int) v));
        range("12 pound hole", -1, 4, (s, v) -> num(s.pound((int) v, 7)));
        range("12 pound ounces", 1, 20, (s, v) -> num(s.pound(2, (int) v)));
        range("12 pound NONE, ounces", Integer.MIN_VALUE, Integer.MAX_VALUE, (s, v) -> num(s.pound(-1, (int) v)));
    }

    private static void ofMasses() {
        range("10 truly what", 0, 3, (s, v) -> num(s.truly((int) v, 1, 1)));
        range("11 think what", 0, 3, (s, v) -> num(s.think((int) v, 1, 1)));
        for (int what = 0; what <= 3; what++) {
            int w = what;
            range("10 truly x of " + w, -9999, 9999, (s, v) -> num(s.truly(w, (int) v, 1)));
            range("10 truly y of " + w, -9999, 9999, (s, v) -> num(s.truly(w, 1, (int) v)));
            range("11 think x of " + w, -9999, 9999, (s, v) -> num(s.think(w, (int) v, 1)));
            range("11 think y of " + w, -9999, 9999, (s, v) -> num(s.think(w, 1, (int) v)));
        }
        range("13 feel bearing", 0, 1, (s, v) -> s.feel((int) v, 0));
        range("13 feel speed", 0, 2, (s, v) -> s.feel(0, (int) v));
        range("14 hums bearing", 0, 1, (s, v) -> s.hums((int) v, 0));
        range("14 hums what", 0, 1, (s, v) -> s.hums(0, (int) v));
    }

    // ---- trials

    private static void ofTrials() {
        range("15 whole speed", 0, 2, (s, v) -> s.whole((int) v, 1, 1, 1));
        range("15 whole x", -99999, 99999, (s, v) -> s.whole(0, (int) v, 1, 1));
        range("15 whole y", -99999, 99999, (s, v) -> s.whole(0, 1, (int) v, 1));
        range("15 whole give", 0, 999, (s, v) -> s.whole(0, 1, 1, (int) v));
        range("16 much speed", 0, 2, (s, v) -> s.much((int) v, 1, 1));
        range("16 much low", 0, 2000000000, (s, v) -> s.much(0, (int) v, 2000000000));
        range("16 much low, not above high", 0, 7, (s, v) -> s.much(0, (int) v, 7));
        range("16 much high", 0, 2000000000, (s, v) -> s.much(0, 0, (int) v));
        range("16 much high, not below low", 7, 2000000000, (s, v) -> s.much(0, 7, (int) v));
        range("20 judge x", -60, 60, (s, v) -> s.judge((int) v, 1));
        range("20 judge y", -60, 60, (s, v) -> s.judge(1, (int) v));
        range("22 next speed", 0, 2, (s, v) -> s.next((int) v, 1));
        range("22 next most", 1, 4, (s, v) -> s.next(0, (int) v));
        range("23 enough speed", 0, 2, (s, v) -> s.enough((int) v, 17, 5));
        // FELT is (x + 63, y + 21) at the first TRIAL, which wants (80, 21) with a GIVE of 9.
        range("23 enough x, what agrees", 8, 26, (s, v) -> s.enough(0, (int) v, 5));
        range("23 enough y, what agrees", -9, 9, (s, v) -> s.enough(0, 17, (int) v));
        range("23 enough x", -60, 60, (s, v) -> withoutTrials(s).enough(0, (int) v, 5));
        range("23 enough y", -60, 60, (s, v) -> withoutTrials(s).enough(0, 5, (int) v));
    }

    private static StoneThatShakes withoutTrials(StoneThatShakes s) {
        while (s.count(3) > 0) {
            s.drop();
        }
        return s;
    }

    private static void ofMen() {
        range("24 man man", 0, 2, (s, v) -> num(s.man((int) v, 5, 6)));
        range("24 man up", 1, 99, (s, v) -> num(s.man(2, (int) v, 6)));
        range("24 man low", 1, 99, (s, v) -> num(s.man(2, 6, (int) v)));
        range("25 tells man", 0, 2, (s, v) -> s.tells((int) v, 0));
        range("25 tells speed", 0, 2, (s, v) -> s.tells(0, (int) v));
        range("26 men speed", 0, 2, (s, v) -> s.men((int) v, 1, 1, 1));
        range("26 men give", 0, 999, (s, v) -> s.men(0, 1, 1, (int) v));
        range("26 men x", Integer.MIN_VALUE, Integer.MAX_VALUE, (s, v) -> s.men(0, (int) v, 1, 1));
        range("26 men y", Integer.MIN_VALUE, Integer.MAX_VALUE, (s, v) -> s.men(0, 1, (int) v, 1));
    }

    // ---- mending

    private static void ofMending() {
        range("27 rest plane", 0, 1, (s, v) -> s.rest((int) v));
        range("28 best plane", 0, 1, (s, v) -> s.best((int) v, 1));
        range("28 best k", 1, 3, (s, v) -> s.best(0, (int) v));
        range("29 off plane", 0, 1, (s, v) -> s.off((int) v, 1));
        range("29 off k", 1, 3, (s, v) -> s.off(0, (int) v));
        range("30 instead plane", 0, 1, (s, v) -> s.instead((int) v, 1));
        range("30 instead k", 1, 2, (s, v) -> s.instead(0, (int) v));
        range("31 fewest plane", 0, 1, (s, v) -> s.fewest((int) v, 900));
        longRange("31 fewest bound", 0, Long.MAX_VALUE, (s, v) -> s.fewest(0, v));
        range("32 all plane", 0, 1, (s, v) -> s.all((int) v, 1));
        range("32 all w", 1, 9, (s, v) -> s.all(0, (int) v));
        range("33 ounce plane", 0, 1, (s, v) -> s.ounce((int) v, 0));
        range("33 ounce what", 0, 1, (s, v) -> s.ounce(0, (int) v));
        range("34 settle plane", 0, 1, (s, v) -> s.settle((int) v));
        range("42 buckets plane", 0, 1, (s, v) -> s.buckets((int) v, 1));
        longRange("42 buckets bound", 0, Long.MAX_VALUE, (s, v) -> s.buckets(0, v));
    }

    private static void ofPlanesAndSpeeds() {
        range("35 both speed", 0, 2, (s, v) -> s.both((int) v, 1, 2, 3, 4));
        range("35 both x0", -99999, 99999, (s, v) -> s.both(0, (int) v, 2, 3, 4));
        range("35 both y0", -99999, 99999, (s, v) -> s.both(0, 1, (int) v, 3, 4));
        range("35 both x1", -99999, 99999, (s, v) -> s.both(0, 1, 2, (int) v, 4));
        range("35 both y1", -99999, 99999, (s, v) -> s.both(0, 1, 2, 3, (int) v));
        range("36 two speed", 0, 2, (s, v) -> s.two((int) v));
        range("37 at speed", 0, 2, (s, v) -> num(s.at((int) v, 1, 1)));
        range("37 at x", -9999, 9999, (s, v) -> num(s.at(0, (int) v, 1)));
        range("37 at y", -9999, 9999, (s, v) -> num(s.at(0, 1, (int) v)));
        range("41 part speed", 0, 2, (s, v) -> s.part((int) v));
    }

    // ---- floor, the next stone

    private static void ofPoints() {
        long p = code(1, 2);
        range("39 floor one", 0, 2, (s, v) -> s.floor((int) v, p, 0, p));
        range("39 floor other", 0, 2, (s, v) -> s.floor(0, p, (int) v, p));
        pointRange("39 floor p", (s, v) -> s.floor(0, v, 1, p));
        pointRange("39 floor q", (s, v) -> s.floor(0, p, 1, v));
        // SPEEDS 0, 1, 2 alone: one of them asked for again is not unlike.
        range("40 whose a", 2, 2, (s, v) -> s.whose((int) v, 0, 1, p, p, p));
        range("40 whose b", 2, 2, (s, v) -> s.whose(0, (int) v, 1, p, p, p));
        range("40 whose c", 2, 2, (s, v) -> s.whose(0, 1, (int) v, p, p, p));
        range("40 whose a", 0, 0, (s, v) -> s.whose((int) v, 2, 1, p, p, p));
        range("40 whose b", 0, 0, (s, v) -> s.whose(2, (int) v, 1, p, p, p));
        range("40 whose c", 0, 0, (s, v) -> s.whose(2, 1, (int) v, p, p, p));
        pointRange("40 whose p", (s, v) -> s.whose(0, 1, 2, v, p, p));
        pointRange("40 whose q", (s, v) -> s.whose(0, 1, 2, p, v, p));
        pointRange("40 whose r", (s, v) -> s.whose(0, 1, 2, p, p, v));
    }

    private static long code(long x, long y) {
        return 200000 * (x + 100000) + y + 100000;
    }

    /** x and y are -99999 .. 99999 each: so from 1 to 199999 when they are told in one number. */
    private static void pointRange(String what, Asked call) {
        for (long x : new long[] {-99999, 0, 99999}) {
            taken(what, code(x, -99999), call);
            taken(what, code(x, 99999), call);
            refused(what, code(x, -100000), call);
        }
        for (long y : new long[] {-99999, 0, 99999}) {
            refused(what, code(-100000, y), call);
            refused(what, code(100000, y), call);
        }
        // A y of 100000 is told like a y of -100000 of the next x.
        refused(what, code(99999, 100000), call);
        refused(what, code(-100001, 1), call);
        refused(what, 0, call);
        refused(what, -1, call);
        refused(what, 1, call);
        refused(what, 199999, call);
        refused(what, Long.MIN_VALUE, call);
        refused(what, Long.MAX_VALUE, call);
        // In 32 bits these would look like good ones.
        refused(what, code(0, 0) + (1L << 40), call);
        refused(what, code(0, 0) - (1L << 40), call);
    }

    // ---- kept

    private static void ofWhatIsKept() {
        range("46 keep i", 0, 2, (s, v) -> num(s.keep((int) v)));
        range("47 again i, 0 and 2 kept", 2, 2, (s, v) -> num(s.again((int) v)));
        range("47 again i, 0 and 2 kept", 0, 0, (s, v) -> num(s.again((int) v)));
        range("48 count what", 0, 8, (s, v) -> s.count((int) v));
    }

    private static void ofThrowingCalls() {
        range("5 hole hole", 0, 4, (s, v) -> ofHole(s, (int) v, 0));
        for (int hole = 0; hole < 5; hole++) {
            int h = hole;
            range("5 hole what of " + h, 0, 5, (s, v) -> ofHole(s, h, (int) v));
        }
        range("49 row i", 0, 2, (s, v) -> ofRow(s, (int) v));
    }

    /** -1 if it throws; no other number here is -1. */
    private static long ofHole(StoneThatShakes s, int hole, int what) {
        try {
            return s.hole(hole, what);
        } catch (NoSuchElementException due) {
            return -1;
        }
    }

    private static long ofRow(StoneThatShakes s, int i) {
        try {
            return s.row(i);
        } catch (NoSuchElementException due) {
            return -1;
        }
    }

    // ---- what is full or empty refuses too

    private static void fullOnes() {
        Asked sign = (s, v) -> s.sign((int) v);
        for (int more = 0; more < 18; more++) {
            int signs = more;
            taken("2 sign behind " + (5 + 4 * signs), 'c', (s, v) -> {
                fill(s, signs);
                return s.sign((int) v);
            });
        }
        alike("2 sign behind 77 .. 80", s -> fill(s, 18), sign, 77, 8);
        Asked whole = (s, v) -> s.whole(0, 1, 1, (int) v);
        Asked much = (s, v) -> s.much(0, 1, (int) v);
        for (int trials = 2; trials < 12; trials++) {
            int t = trials;
            taken("15 whole as number " + t, 5, (s, v) -> {
                tryOut(s, t);
                return whole.of(s, v) == t ? t : -1;
            });
            taken("16 much as number " + t, 5, (s, v) -> {
                tryOut(s, t);
                return much.of(s, v) == t ? t : -1;
            });
        }
        alike("15 whole, a 13th", s -> tryOut(s, 12), whole, 12, 3);
        alike("16 much, a 13th", s -> tryOut(s, 12), much, 12, 3);
        alike("17 drop of none", RangeTest::withoutTrials, (s, v) -> s.drop(), 0, 3);
        Made noHoles = s -> { };
        alikeFrom("43 cogs, none", RangeTest::bare, noHoles, (s, v) -> s.cogs());
        alikeFrom("44 order, none", RangeTest::bare, noHoles, (s, v) -> s.order());
        alikeFrom("45 round, none", RangeTest::bare, noHoles, (s, v) -> s.round());
        Made fewHoles = s -> write(s, "c1;c2;c3;h0,1,1,1;h1,1,1,1", true);
        alikeFrom("43 cogs, fewer HOLES", RangeTest::bare, fewHoles, (s, v) -> s.cogs());
        alikeFrom("44 order, fewer HOLES", RangeTest::bare, fewHoles, (s, v) -> s.order());
        alikeFrom("45 round, fewer HOLES", RangeTest::bare, fewHoles, (s, v) -> s.round());
        Made noPlane = s -> write(s, "s1,0;h1,5,5,9", true);
        alikeFrom("23 enough, no HOLE of PLANE 0", RangeTest::bare, noPlane, (s, v) -> s.enough(0, 1, 1));
        alikeFrom("47 again, nothing kept", RangeTest::bare, noHoles, (s, v) -> num(s.again(1)));
    }

    private static StoneThatShakes bare() {
        return new StoneThatShakes();
    }

    private static void fill(StoneThatShakes s, int times) {
        for (int i = 0; i < times; i++) {
            s.sign(';' << 24 | 'c' << 16 | '1' << 8 | '2');
        }
    }

    private static void tryOut(StoneThatShakes s, int upTo) {
        while (s.count(3) < upTo) {
            s.much(1, 0, 1000000);
        }
    }

    private interface Made {
        void to(StoneThatShakes s);
    }

    /** Refused in a state that is made of full(); there count(what) has to be so much. */
    private static void alike(String what, Made made, Asked call, int many, int counted) {
        alikeFrom(what, RangeTest::full, s -> {
            made.to(s);
            due(what + ": count " + counted, s.count(counted), many);
        }, call);
    }

    private interface Maker {
        StoneThatShakes make();
    }

    private static void alikeFrom(String what, Maker maker, Made made, Asked call) {
        alikeAnswering(-1, what, maker, made, call);
    }

    private static void alikeAnswering(long answer, String what, Maker maker, Made made, Asked call) {
        StoneThatShakes called = maker.make();
        made.to(called);
        StoneThatShakes like = maker.make();
        made.to(like);
        due(what, call.of(called, 1), answer);
        seenAlike(what, called, like);
    }

    // ---- calls that answer -2 tell no ROW, and change nothing

    private static void whatCannotBe() {
        Made asItIs = s -> { };
        Made noSpeeds = s -> {
            write(s, "h0,5,5,9;h1,5,5,9;c1", true);
            s.which();
        };
        cannot("14 hums, no SPEEDS", RangeTest::bare, noSpeeds, (s, v) -> s.hums(0, 0));
        cannot("38 worst, no SPEEDS", RangeTest::bare, noSpeeds, (s, v) -> s.worst());
        for (int kind = 0; kind < 3; kind++) {
            int k = kind;
            cannot("8 sheet, n below 0", RangeTest::full, asItIs, (s, v) -> s.sheet(k, -1, 1, 1));
        }
        cannot("20 judge, none", RangeTest::full, asItIs, (s, v) -> s.judge(17, 5));
        Made threeBad = s -> {
            for (int i = 0; i < 3; i++) {
                s.whole(0, -99999, 0, 0);
            }
        };
        cannot("21 bars, two do not do", RangeTest::full, threeBad, (s, v) -> s.bars());
        cannot("22 next, none AGREES", RangeTest::full, threeBad, (s, v) -> s.next(0, 1));
        Made noHole = s -> {
            write(s, "h1,5,5,9;s1,1", true);
            s.which();
        };
        cannot("22 next, no such HOLE", RangeTest::bare, noHole, (s, v) -> s.next(0, 1));
        cannot("23 enough, six do not do", RangeTest::full, s -> {
            withoutTrials(s);
            s.cross(0, 0, 0);
        }, (s, v) -> s.enough(0, 1, 1));
        cannot("31 fewest, three do not do", RangeTest::full, asItIs, (s, v) -> s.fewest(0, 0));
        cannot("33 ounce, none with room", RangeTest::full, s -> s.sheet(2, 16, 9, 0), (s, v) -> s.ounce(0, 0));
        cannot("33 ounce, none HAS some", RangeTest::full, s -> s.sheet(2, 0, 9, 0), (s, v) -> s.ounce(0, 1));
        cannot("35 both, not parted", RangeTest::full, s -> {
            s.cross(0, 0, 0);
            s.cross(0, 1, 0);
        }, (s, v) -> s.both(0, 1, 2, 3, 4));
        cannot("39 floor, FACTORS alike", RangeTest::full, asItIs, (s, v) -> s.floor(1, code(1, 1), 1, code(2, 2)));
        cannot("40 whose, not parted", RangeTest::full, s -> {
            s.end(0);
            write(s, "s5,4", true);
        }, (s, v) -> s.whose(0, 1, 3, code(1, 1), code(2, 2), code(3, 3)));
        cannot("42 buckets, never", RangeTest::full, asItIs, (s, v) -> s.buckets(0, 1000000));
    }

    private static void cannot(String what, Maker maker, Made made, Asked call) {
        alikeAnswering(-2, what, maker, made, call);
    }

    // ---- how a number is taken or refused

    private static void range(String what, int low, int high, Asked call) {
        longRangeIn(what, low, high, Integer.MIN_VALUE, Integer.MAX_VALUE, call);
    }

    private static void longRange(String what, long low, long high, Asked call) {
        longRangeIn(what, low, high, Long.MIN_VALUE, Long.MAX_VALUE, call);
    }

    private static void longRangeIn(String what, long low, long high, long least, long most, Asked call) {
        taken(what, low, call);
        taken(what, high, call);
        if (low > least) {
            refused(what, low - 1, call);
            refused(what, least, call);
        }
        if (high < most) {
            refused(what, high + 1, call);
            refused(what, most, call);
        }
    }

    private static void taken(String what, long v, Asked call) {
        asked++;
        if (call.of(full(), v) == -1) {
            wrong++;
            System.out.println(what + ": " + v + " is not taken");
        }
    }

    private static void refused(String what, long v, Asked call) {
        StoneThatShakes called = full();
        StoneThatShakes like = full();
        due(what + ": " + v, call.of(called, v), -1);
        // The call may be made behind others that change something: these are made on its like too.
        if (what.startsWith("23 enough") && !what.endsWith("agrees") && !what.endsWith("speed")) {
            withoutTrials(like);
        }
        seenAlike(what + ": " + v, called, like);
    }

    private static void due(String what, long got, long want) {
        asked++;
        if (got != want) {
            wrong++;
            System.out.println(what + " answered " + got + ", due is " + want);
        }
    }

    private static long num(boolean answer) {
        return answer ? 1 : -1;
    }

    // ---- what can be seen

    /** Something of all that an object can hold, a ROW of 3 and 5 signs of THE TEXT among it. */
    private static StoneThatShakes full() {
        StoneThatShakes s = new StoneThatShakes();
        write(s, "h0,10,0,9;h0,0,10,9;h0,-10,0,5;s1,0;s3,2", true);
        write(s, "h1,7,0,9;h1,0,7,9;c5;c3;c9;s2,5", true);
        s.lead(0, 2);
        s.lead(3, 4);
        s.deep(0, 4);
        s.deep(4, 2);
        s.cross(0, 1, 2);
        s.cross(1, 0, -3);
        for (int what = 0; what < 4; what++) {
            s.truly(what, 5 - 3 * what, what * what - 4);
            s.think(what, what - 6, 2 - what);
        }
        s.pound(1, 2);
        s.man(1, 1, 2);
        s.man(2, 3, 1);
        s.at(1, 20, 0);
        s.whole(0, 80, 21, 9);
        s.keep(0);
        s.lead(1, 3);
        s.lead(4, 1);
        s.pound(3, 5);
        s.think(0, -24, -13);
        s.at(0, 1, 1);
        s.much(1, 0, 2000000000);
        s.keep(2);
        s.lead(1, 1);
        s.feel(0, 0);
        write(s, "c7;c5", false);
        return s;
    }

    private static void write(StoneThatShakes s, String text, boolean read) {
        int n = text.length();
        for (int i = 0; i < n; i += 4) {
            int v = 0;
            for (int j = i; j < i + 4; j++) {
                v = v << 8 | (j < n ? text.charAt(j) : 0);
            }
            s.sign(v);
        }
        s.end(n);
        if (read) {
            s.mill();
        }
    }

    private static void seenAlike(String what, StoneThatShakes called, StoneThatShakes like) {
        asked++;
        List<String> seen = seen(called);
        List<String> due = seen(like);
        for (int i = 0; i < seen.size() && i < due.size(); i++) {
            if (!seen.get(i).equals(due.get(i))) {
                wrong++;
                System.out.println(what + " left " + seen.get(i) + ", it was " + due.get(i));
                return;
            }
        }
    }

    private static List<String> seen(StoneThatShakes s) {
        List<String> out = new ArrayList<>();
        look(out, s, "row", s.count(7));
        for (int what = 0; what <= 8; what++) {
            out.add("count " + what + ": " + s.count(what));
        }
        seeState(out, s);
        out.add("mill " + s.mill());
        seeState(out, s);
        for (int i = 0; i < 3; i++) {
            out.add("again " + i + " " + s.again(i));
            seeState(out, s);
        }
        return out;
    }

    private static void seeState(List<String> out, StoneThatShakes s) {
        for (int h = 0; h < s.count(0); h++) {
            for (int what = 0; what < 6; what++) {
                out.add("hole " + h + " " + what + ": " + s.hole(h, what));
            }
        }
        for (int speed = 0; speed < s.count(1); speed++) {
            look(out, s, "feel 0", s.feel(0, speed));
            look(out, s, "feel 1", s.feel(1, speed));
            look(out, s, "part", s.part(speed));
            look(out, s, "two", s.two(speed));
            look(out, s, "both", s.both(speed, 9, 8, 7, 6));
            for (int man = 0; man < 3; man++) {
                look(out, s, "tells", s.tells(man, speed));
            }
        }
        look(out, s, "which", s.which());
        look(out, s, "ends", s.ends());
        look(out, s, "bars", s.bars());
        look(out, s, "rest 0", s.rest(0));
        look(out, s, "rest 1", s.rest(1));
        look(out, s, "worst", s.worst());
        look(out, s, "order", s.order());
        look(out, s, "cogs", s.cogs());
        out.add("trials " + s.count(3) + ", the pound " + s.count(5) + " " + s.count(6) + ", cogs " + s.count(2));
    }

    private static void look(List<String> out, StoneThatShakes s, String call, long answer) {
        StringBuilder line = new StringBuilder(call).append(" ").append(answer).append(":");
        for (int i = 0; i < s.count(7); i++) {
            line.append(' ').append(s.row(i));
        }
        out.add(line.toString());
    }

    /** Were this not so, the tests above would tell nothing. */
    private static void likesAreSeenAlike() {
        seenAlike("full", full(), full());
        Made[] changes = {s -> s.lead(4, 3), s -> s.deep(1, 1), s -> s.cross(1, 1, 2), s -> s.truly(2, 9, 9),
            s -> s.think(2, 9, 9), s -> s.think(0, 9, 9), s -> s.pound(3, 6), s -> s.pound(-1, 0),
            s -> s.whole(0, 1, 1, 1), s -> s.drop(), s -> s.man(0, 1, 2), s -> s.at(2, 3, 3), s -> s.keep(1),
            s -> s.keep(0), s -> s.again(2), s -> s.feel(1, 1), s -> s.end(4), s -> s.sign(0), s -> s.mill(),
            s -> {
                s.end(0);
                write(s, "c8;c5", false);
            }};
        for (int i = 0; i < changes.length; i++) {
            StoneThatShakes s = full();
            changes[i].to(s);
            asked++;
            if (seen(s).equals(seen(full()))) {
                wrong++;
                System.out.println("change " + i + " is not seen");
            }
        }
    }
}
