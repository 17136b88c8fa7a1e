import java.util.Arrays;
import java.util.NoSuchElementException;

/** For each promise: ordinary calls, the edges that the document names, and wrong calls. */
public final class PromiseTest {
    private static int wrong = 0;
    private static int asked = 0;
    private static String promise = "";

    private static void due(String call, long got, long want) {
        asked++;
        if (got != want) {
            wrong++;
            System.out.println(promise + ": " + call + " answered " + got + ", due is " + want);
        }
    }

    private static void due(String call, boolean got, boolean want) {
        due(call, got ? 1 : 0, want ? 1 : 0);
    }

    private static void row(StoneThatShakes s, long... want) {
        long[] got = new long[Math.max(0, s.count(7))];
        for (int i = 0; i < got.length; i++) {
            got[i] = s.row(i);
        }
        asked++;
        if (!Arrays.equals(got, want)) {
            wrong++;
            System.out.println(promise + ": the row is " + Arrays.toString(got) + ", due is " + Arrays.toString(want));
        }
    }

    private static void write(StoneThatShakes s, String text) {
        s.end(0);
        int n = text.length();
        for (int i = 0; i < n; i += 4) {
            int v = 0;
            for (int j = i; j < i + 4; j++) {
                v = v << 8 | (j < n ? text.charAt(j) : '?');
            }
            s.sign(v);
        }
        s.end(n);
    }

    private static int mill(StoneThatShakes s, String text) {
        write(s, text);
        return s.mill();
    }

    private static StoneThatShakes told(String... texts) {
        StoneThatShakes s = new StoneThatShakes();
        for (String text : texts) {
            due("mill " + text, mill(s, text) > 0, true);
        }
        return s;
    }

    /** Three HOLES of PLANE 0, two SPEEDS; two HOLES of PLANE 1, three COGS. */
    private static StoneThatShakes example() {
        return told("h0,10,0,9;h0,0,10,9;h0,-10,0,5;s1,0;s3,2", "h1,7,0,9;h1,0,7,9;c5;c3;c9");
    }

    private static boolean throwsAtHole(StoneThatShakes s, int hole, int what) {
        try {
            s.hole(hole, what);
            return false;
        } catch (NoSuchElementException e) {
            return true;
        }
    }

    private static boolean throwsAtRow(StoneThatShakes s, int i) {
        try {
            s.row(i);
            return false;
        } catch (NoSuchElementException e) {
            return true;
        }
    }

    public static void main(String[] args) {
        newObject();
        texts();
        mills();
        millCut();
        millRooms();
        holes();
        sheets();
        masses();
        feels();
        trials();
        agreeing();
        barring();
        narrowing();
        enoughTrials();
        menTell();
        rests();
        bests();
        drilling();
        insteads();
        fewests();
        alls();
        ounces();
        settling();
        bothPlanes();
        twoPlanes();
        worstOfSpeeds();
        floors();
        whoseParts();
        parts();
        fillings();
        cogsInOrder();
        kept();
        counts();
        wrongAll();
        System.out.println(wrong == 0 ? asked + " answers are as due" : wrong + " answers are not as due");
        if (wrong != 0) {
            System.exit(1);
        }
    }

    private static void newObject() {
        promise = "1";
        StoneThatShakes s = new StoneThatShakes();
        for (int what = 0; what <= 8; what++) {
            due("count " + what, s.count(what), what == 5 ? -1 : 0);
        }
        due("throws", throwsAtHole(s, 0, 0), true);
        due("which", s.which(), 14641);
        row(s, -60, -60, 60, 60);
        due("rest", s.rest(1), 0);
        due("NONE", StoneThatShakes.NONE, -1);
    }

    private static void texts() {
        promise = "2, 3";
        StoneThatShakes s = new StoneThatShakes();
        for (int i = 1; i <= 20; i++) {
            due("sign", s.sign(-1), 4 * i);
        }
        due("an 81st sign", s.sign(0), -1);
        due("count", s.count(8), 80);
        due("end 81", s.end(81), false);
        due("end -1", s.end(-1), false);
        due("end 80", s.end(80), true);
        due("end 77", s.end(77), true);
        due("77 and 4 are too many", s.sign(0), -1);
        due("count", s.count(8), 77);
        due("end 76", s.end(76), true);
        due("sign", s.sign(0), 80);
        due("end 2", s.end(2), true);
        due("end 3", s.end(3), false);
        due("sign", s.sign('h' << 24), 6);
        due("mill of sign 255", s.mill(), -1);
        due("it is empty then", s.count(8), 0);
        due("end 0", s.end(0), true);
        s.sign('s' << 24 | '4' << 16 | ',' << 8 | '5');
        due("mill", s.mill(), 1);
        due("it is empty then", s.count(8), 0);
    }

    private static void mills() {
        promise = "4";
        StoneThatShakes s = new StoneThatShakes();
        String[] bad = {"x", "h", "hx", "h2", "h20", "h0", "h0;", "h0,", "h0,-", "h0,--1", "h0,1,", "h0,100", "h0,1,2",
            "h0,1,2,", "h0,1,2,-1", "h0,1,2,10", "h0,1,2,3,", "h0,1,2,010", "s", "s0", "s00", "s10", "s1", "s1,",
            "s1,10", "s1,-1", "s01,09,", "c", "c-", "c100", "c5;", ";", "c5;;", "c5,", "c5 ", " c5", "C5", "c5;x",
            "H0", "h-0,1,1,1"};
        int[] at = {0, 1, 1, 1, 2, 2, 2, 3, 4, 4, 5, 5, 6,
            7, 7, 8, 8, 9, 1, 1, 2, 2, 2, 3,
            4, 3, 6, 1, 1, 3, 3, 0, 3, 2, 2, 0, 0, 3,
            0, 1};
        for (int i = 0; i < bad.length; i++) {
            due("mill " + bad[i], mill(s, bad[i]), -1 - at[i]);
            due("nothing was told", s.count(0) + s.count(1) + s.count(2), 0);
            due("the text is empty", s.count(8), 0);
        }
        write(s, "c5;c5");
        s.end(3);
        due("signs that were cut off are not read", s.mill(), -4);
        due("nothing was told", s.count(2), 0);
        due("a wrong end", mill(s, "c5;s1,1;h0,1,1,1;c"), -19);
        due("nothing was told", s.count(0) + s.count(1) + s.count(2), 0);
        due("an empty one", mill(s, ""), 0);
        due("two digits", mill(s, "h01,-00,-07,09;s09,00;c00"), 3);
        due("plane", s.hole(0, 0), 1);
        due("x", s.hole(0, 1), 0);
        due("y", s.hole(0, 2), -7);
        due("room", s.hole(0, 3), 9);
        due("edges", mill(s, "h0,99,-99,0;s1,9;c99;h1,-99,99,9"), 4);
        due("x", s.hole(1, 1), 99);
        due("y", s.hole(1, 2), -99);
        due("room", s.hole(1, 3), 0);
        due("x", s.hole(2, 1), -99);
        due("holes", s.count(0), 3);
        due("speeds", s.count(1), 2);
        due("cogs", s.count(2), 2);
    }

    private static void millCut() {
        promise = "4, sixty signs";
        StoneThatShakes s = new StoneThatShakes();
        String fill = "h0,10,10,1;h0,10,10,1;h0,10,10,1;h0,10,10,1;h0,10,10,1;";
        due("55 signs", fill.length(), 55);
        due("60 signs", mill(new StoneThatShakes(), fill + "s1,05"), 6);
        due("61 signs", mill(s, fill + "s1,05;"), -61);
        due("61 signs, a number", mill(s, fill + "c1;c11"), -61);
        due("61 signs, a third digit", mill(s, fill + "s1,055"), -61);
        due("64 signs, the end of a line", mill(s, fill + "c1;c1;c1;"), -61);
        due("a wrong sign at 60 is not looked at", mill(s, fill + "s1,05x"), -61);
        due("a wrong sign at 59", mill(s, fill + "s1,0xx"), -60);
        due("a letter at 59", mill(s, fill + "c10;s01,1"), -61);
        due("too small as far as it stands", mill(s, fill + "c1;s01,1"), -60);
        due("no ; at 58", mill(s, fill + "c11s01,1"), -59);
        due("too small as far as it stands", mill(s, "c1;" + fill + "s01,1"), -60);
        String five = "c1;c1;" + "h0,10,10,1;h0,10,10,1;h0,10,10,1;h0,10,10,1;" + "h0,1,1,";
        due("57 signs", five.length(), 57);
        due("a letter at 59", mill(s, five + "1;s0"), -61);
        due("too great", mill(s, five.substring(3) + "11;s0"), -56);
        String last = "c11;c11;" + "h0,10,10,1;h0,10,10,1;h0,10,10,1;h0,10,10,1;" + "c11;c1;";
        due("59 signs", last.length(), 59);
        due("a letter at 59", mill(s, last + "s"), -61);
        due("a letter at 59 and more", mill(s, last + "s01,1"), -61);
        String small = last.substring(1);
        due("wrong at once", mill(s, small + "s01,1"), -1);
        String factor = "c11;c11;" + "h0,10,10,1;h0,10,10,1;h0,10,10,1;h0,10,10,1;" + "c1;c1;" + "s";
        due("59 signs", factor.length(), 59);
        due("0 at 59, and 1 behind it", mill(s, factor + "01,1"), -60);
        due("1 at 59, and 1 behind it", mill(s, factor + "11,1"), -61);
        due("0 at 59, its end", mill(s, factor + "0"), -60);
        due("1 at 59, its end", mill(s, factor + "1"), -61);
        due("nothing was told", s.count(0) + s.count(1) + s.count(2), 0);
    }

    private static void millRooms() {
        promise = "4, rooms";
        StoneThatShakes s = new StoneThatShakes();
        String five = "h0,1,1,1;h0,1,1,1;h0,1,1,1;h0,1,1,1;h0,1,1,1";
        due("5", mill(s, five), 5);
        due("10", mill(s, five), 5);
        due("15", mill(s, five), 5);
        due("a 17th", mill(s, "h0,1,1,1;h0,1,1,1"), -10);
        due("still", s.count(0), 15);
        due("the 16th", mill(s, "h0,1,1,1"), 1);
        due("a 17th", mill(s, "h0,1,1,1"), -1);
        due("a 17th, wrong behind", mill(s, "c1;hx"), -4);
        due("seven speeds", mill(s, "s1,1;s1,1;s1,1;s1,1;s1,1;s1,1;s1,1"), -31);
        due("six speeds", mill(s, "s1,1;s1,1;s1,1;s1,1;s1,1;s1,1"), 6);
        due("one more", mill(s, "s1,1"), -1);
        due("nine cogs", mill(s, "c1;c1;c1;c1;c1;c1;c1;c1;c1"), -25);
        due("eight cogs", mill(s, "c1;c1;c1;c1;c1;c1;c1;c1"), 8);
        due("one more", mill(s, "c1"), -1);
    }

    private static void holes() {
        promise = "5, 6, 7";
        StoneThatShakes s = example();
        int[] want = {0, -10, 0, 5, 0, 0};
        for (int what = 0; what < 6; what++) {
            due("hole 2, " + what, s.hole(2, what), want[what]);
        }
        due("none such", throwsAtHole(s, 5, 0), true);
        due("none such", throwsAtHole(s, -1, 0), true);
        due("none such", throwsAtHole(s, Integer.MAX_VALUE, 0), true);
        due("another what", throwsAtHole(s, 0, 6), true);
        due("another what", throwsAtHole(s, 0, -1), true);
        due("lead", s.lead(2, 5), 0);
        due("lead", s.lead(2, 1), 5);
        due("has", s.hole(2, 4), 1);
        due("above its room", s.lead(2, 6), -1);
        due("below 0", s.lead(2, -1), -1);
        due("none such", s.lead(5, 0), -1);
        due("none such", s.lead(-1, 0), -1);
        due("has", s.hole(2, 4), 1);
        due("deep", s.deep(2, 9), 0);
        due("deep", s.deep(2, 4), 9);
        due("too deep", s.deep(2, 10), -1);
        due("below 0", s.deep(2, -1), -1);
        due("none such", s.deep(5, 1), -1);
        due("deep", s.hole(2, 5), 4);
    }

    private static void has(StoneThatShakes s, int... want) {
        for (int h = 0; h < want.length; h++) {
            due("has " + h, s.hole(h, 4), want[h]);
        }
    }

    private static void sheets() {
        promise = "8";
        StoneThatShakes s = example();
        due("ints", s.sheet(2, 4, 2, 2), 2 + 4 + 5 + 8);
        has(s, 2, 4, 5, 8, 0);
        due("n below 0", s.sheet(2, -1, 1, 1), -2);
        has(s, 2, 4, 5, 8, 0);
        due("another kind", s.sheet(4, 1, 1, 1), -1);
        due("another kind, n below 0", s.sheet(-1, -1, 1, 1), -1);
        due("n above 16", s.sheet(0, 17, 1, 1), -1);
        due("n above 16, missing", s.sheet(3, 17, 1, 1), -1);
        has(s, 2, 4, 5, 8, 0);
        due("bytes", s.sheet(0, 5, 255, 1), 0 + 0 + 1 + 2 + 3);
        due("bytes below 0", s.sheet(0, 3, 130, 127), 0 + 1 + 0);
        has(s, 0, 1, 0, 0, 0);
        due("shorts", s.sheet(1, 3, 65537, 32768), 1 + 0 + 1);
        has(s, 1, 0, 1, 0, 0);
        due("ints wrap", s.sheet(2, 2, Integer.MAX_VALUE, 1), 9);
        has(s, 9, 0, 0, 0, 0);
        due("none of 0", s.sheet(2, 0, 5, 5), 0);
        s.lead(0, 3);
        due("missing", s.sheet(3, -5, 7, 7), -3);
        has(s, 0, 0, 0, 0, 0);
        due("sixteen", s.sheet(2, 16, 1, 0), 5);
        due("no holes", new StoneThatShakes().sheet(0, 3, 5, 1), 0);
    }

    private static void masses() {
        promise = "9, 10, 11, 12";
        StoneThatShakes s = example();
        due("cross", s.cross(0, 0, -9), 1);
        due("cross", s.cross(0, 0, 9), -9);
        due("cross", s.cross(0, 1, 2), 0);
        due("cross", s.cross(1, 0, 3), 0);
        due("cross", s.cross(1, 1, 4), 1);
        int[][] others = {{2, 0, 1}, {-1, 0, 1}, {0, 2, 1}, {0, -1, 1}, {0, 0, 10}, {0, 0, -10}};
        for (int[] o : others) {
            due("other", s.cross(o[0], o[1], o[2]), -1);
        }
        due("cross", s.cross(0, 0, 0), 9);
        for (int what = 0; what < 4; what++) {
            due("truly", s.truly(what, -9999, 9999), true);
            due("think", s.think(what, 9999, -9999), true);
            due("truly", s.truly(what, -10000, 0), false);
            due("truly", s.truly(what, 0, 10000), false);
            due("think", s.think(what, 10000, 0), false);
            due("think", s.think(what, 0, -10000), false);
        }
        due("what", s.truly(4, 0, 0), false);
        due("what", s.truly(-1, 0, 0), false);
        due("what", s.think(4, 0, 0), false);
        due("what", s.think(-1, 0, 0), false);
        due("rest", s.rest(0), 2L * 9999 * 9999);
        due("pound", s.pound(4, 20), true);
        due("pound", s.pound(4, 21), false);
        due("pound", s.pound(3, 0), false);
        due("pound", s.pound(5, 1), false);
        due("pound", s.pound(-2, 1), false);
        due("hole", s.count(5), 4);
        due("ounces", s.count(6), 20);
        due("none", s.pound(-1, 99), true);
        due("hole", s.count(5), -1);
        due("ounces", s.count(6), 0);
    }

    private static void feels() {
        promise = "13";
        StoneThatShakes s = example();
        s.truly(0, 5, -4);
        s.truly(1, 1, 2);
        s.truly(2, 1, 1);
        s.truly(3, -7, 0);
        s.lead(0, 3);
        s.lead(4, 2);
        due("feel", s.feel(0, 0), 0);
        row(s, 28, -4, 800);
        due("feel", s.feel(1, 1), 0);
        row(s, 3 + 2 - 7, 3 * 16 + 2, 4 + 2500);
        s.pound(3, 4);
        s.cross(0, 1, -2);
        due("feel", s.feel(0, 1), 0);
        row(s, 3 * (35 - 2 * 29) + 2 - 7, 3 * (-4 - 2 * 16) + 2, 74 * 74 + 106 * 106);
        due("no speed", s.feel(0, 2), -1);
        due("no speed", s.feel(0, -1), -1);
        due("no bearing", s.feel(2, 0), -1);
        due("no bearing", s.feel(-1, 0), -1);
        row(s, -74, -106, 74 * 74 + 106 * 106);
        promise = "14";
        due("greatest", s.hums(0, 0), 1);
        row(s, 74 * 74 + 106 * 106);
        due("least", s.hums(0, 1), 0);
        row(s, 30 * 30 + 36 * 36);
        due("others", s.hums(2, 0), -1);
        due("others", s.hums(0, 2), -1);
        due("others", s.hums(0, -1), -1);
        row(s, 30 * 30 + 36 * 36);
        due("no speeds", new StoneThatShakes().hums(0, 0), -2);
        due("no speeds, no bearing", new StoneThatShakes().hums(5, 0), -1);
        StoneThatShakes equal = told("s2,1;s2,1;s2,1");
        due("the first", equal.hums(1, 0), 0);
        due("the first", equal.hums(1, 1), 0);
        StoneThatShakes far = told("s9,9;h0,99,99,9;h1,99,99,9");
        far.truly(0, 9999, 9999);
        far.truly(1, 9999, 9999);
        far.truly(2, 9999, 9999);
        far.truly(3, 9999, 9999);
        far.cross(0, 0, 9);
        far.cross(0, 1, 9);
        due("feel", far.feel(0, 0), 0);
        long most = 81L * 2 * 9999 + 10L * 9999;
        row(far, most, most, 2 * most * most);
    }

    private static void trials() {
        promise = "15, 16, 17";
        StoneThatShakes s = example();
        due("none", s.drop(), -1);
        due("whole", s.whole(0, -99999, 99999, 999), 0);
        due("much", s.much(1, 0, 2000000000), 1);
        due("much", s.much(1, 5, 5), 2);
        int[][] others = {{2, 0, 0, 0}, {-1, 0, 0, 0}, {0, 100000, 0, 0}, {0, 0, -100000, 0}, {0, 0, 0, -1},
            {0, 0, 0, 1000}};
        for (int[] o : others) {
            due("others", s.whole(o[0], o[1], o[2], o[3]), -1);
        }
        int[][] alsoOthers = {{2, 0, 0}, {-1, 0, 0}, {0, -1, 0}, {0, 1, 0}, {0, 0, 2000000001}};
        for (int[] o : alsoOthers) {
            due("others", s.much(o[0], o[1], o[2]), -1);
        }
        due("count", s.count(3), 3);
        for (int t = 3; t < 12; t++) {
            due("more", s.much(0, 0, t), t);
        }
        due("a 13th", s.much(0, 0, 1), -1);
        due("a 13th", s.whole(0, 0, 0, 1), -1);
        due("drop", s.drop(), 11);
        due("whole", s.whole(0, 0, 0, 1), 11);
        for (int t = 11; t >= 0; t--) {
            due("drop", s.drop(), t);
        }
        due("none", s.drop(), -1);
    }

    private static void agreeing() {
        promise = "18, 19, 20";
        StoneThatShakes s = example();
        s.lead(0, 2);
        s.whole(0, 25, 3, 2);
        s.lead(0, 0);
        due("leads as they were", s.which(), 25);
        row(s, 3, 1, 7, 5);
        due("ends", s.ends(), 25);
        row(s, 3, 7, 1, 5, 32);
        due("judge", s.judge(3, 1), -2);
        due("judge", s.judge(2, 1), 0);
        due("judge", s.judge(60, -60), 0);
        due("judge", s.judge(61, 0), -1);
        due("judge", s.judge(0, -61), -1);
        s.think(3, 2, 0);
        due("the floor as thought now", s.which(), 25);
        row(s, 1, 1, 5, 5);
        s.truly(3, 50, 50);
        s.cross(0, 0, 2);
        due("crosses as now: 2 (x + 20) + 2 is 23 .. 27, 2 y is 1 .. 5", s.which(), 4);
        row(s, -9, 1, -8, 2);
        s.whole(0, 999, 0, 0);
        due("none", s.ends(), 0);
        row(s, -9, 1, -8, 2);
        due("none", s.which(), 0);
        row(s);
        s.drop();
        s.think(3, -10, 0);
        due("2 (x + 20) - 10 is 23 .. 27: -3 .. -2, 2 y is 1 .. 5: 1, 2", s.which(), 4);
        row(s, -3, 1, -2, 2);
        s.cross(0, 0, 1);
        s.think(3, 0, 0);
        s.drop();
        s.pound(2, 3);
        s.much(1, 0, 9 * 25);
        due("|pull - (30, 0)| at most 5", s.which(), 81);
        row(s, 25, 0, 35, 0);
        due("ends", s.ends(), 81);
        row(s, 25, 35, -5, 5, -1);
        s.much(1, 9 * 25, 9 * 25);
        due("just 5", s.ends(), 12);
        row(s, 25, 35, -5, 5, 100);
        due("judge", s.judge(30, 0), 1);
        due("judge", s.judge(36, 0), 0);
        s.drop();
        s.drop();
        s.pound(-1, 0);
        s.whole(0, 0, 0, 0);
        due("one", s.ends(), 1);
        row(s, 0, 0, 0, 0, 0);
        s.drop();
        s.much(0, 0, 10);
        due("37 of at most 10", s.ends(), 37);
        row(s, -3, 3, -3, 3, 40);
        s.drop();
        s.whole(0, 0, 0, 5);
        s.whole(0, 6, 3, 5);
        due("40", s.ends(), 40);
        row(s, 1, 5, -2, 5, 16 + 49);
        s.drop();
        s.drop();
        s.whole(0, 0, 0, 20);
        s.whole(0, 40, 0, 20);
        due("41", s.ends(), 41);
        row(s, 20, 20, -20, 20, -1);
        s.drop();
        s.drop();
        s.much(0, 1, 12);
        due("36", s.ends(), 36);
        s.drop();
        s.much(0, 1, 13);
        due("44", s.ends(), 44);
        row(s, -3, 3, -3, 3, -1);
        s.cross(0, 1, 3);
        s.think(1, 1, -2);
        due("plane 1 is felt too", s.ends(), 44);
        row(s, -6, 0, 3, 9, -1);
        s.drop();
        s.think(2, 4, 4);
        s.whole(1, 3 * 8 + 8, 3 * 7 + 8, 2);
        due("the next stone, and give below a step", s.which(), 1);
        row(s, 5, 13, 5, 13);
    }

    private static void barring() {
        promise = "21";
        StoneThatShakes s = example();
        due("no trials", s.bars(), 0);
        row(s, 0);
        s.whole(0, 5, 5, 0);
        due("one", s.bars(), 0);
        row(s, 0);
        s.whole(0, 6, 5, 0);
        due("one of two: the least bits", s.bars(), 1);
        row(s, 1);
        s.whole(0, 6, 5, 1);
        due("one of three: the first or second", s.bars(), 1);
        row(s, 1);
        s.whole(0, 5, 5, 0);
        due("the second", s.bars(), 1);
        row(s, 2);
        s.whole(0, 99, 0, 0);
        due("the second and the fifth", s.bars(), 2);
        row(s, 2 + 16);
        s.whole(0, 999, 0, 0);
        due("two do not do", s.bars(), -2);
        row(s, 18);
        s.drop();
        s.drop();
        s.drop();
        s.drop();
        s.drop();
        s.drop();
        s.whole(0, 99, 0, 0);
        due("all", s.bars(), 1);
        row(s, 1);
        s.whole(0, 99, 0, 0);
        due("both", s.bars(), 2);
        row(s, 3);
        s.whole(0, 60, 60, 0);
        due("the last pull agrees", s.bars(), 2);
        row(s, 3);
        s.whole(0, -60, -60, 0);
        due("no two", s.bars(), -2);
        s.drop();
        s.drop();
        s.drop();
        s.drop();
        s.whole(0, 61, 60, 1);
        s.whole(0, 61, 60, 2);
        s.whole(0, 20, 60, 999);
        due("at the edge", s.bars(), 0);
        row(s, 0);
        s.whole(0, 60, 61, 1);
        due("at the corner alone", s.bars(), 0);
    }

    private static void narrowing() {
        promise = "22";
        StoneThatShakes s = example();
        s.lead(0, 3);
        s.think(3, -7, 0);
        s.much(0, 800, 800);
        due("next", s.next(0, 1), 2);
        row(s, 0, 1);
        int[][] others = {{2, 1}, {-1, 1}, {0, 0}, {0, 5}};
        for (int[] o : others) {
            due("others", s.next(o[0], o[1]), -1);
        }
        row(s, 0, 1);
        s.pound(1, 20);
        due("instead of what hangs", s.next(0, 1), 2);
        row(s, 0, 1);
        due("nothing hangs otherwise", s.count(5), 1);
        due("no trial more", s.count(3), 1);
        s.whole(0, 999, 0, 0);
        due("none agrees", s.next(0, 1), -2);
        row(s, 0, 1);
        StoneThatShakes bare = told("s1,0;h1,5,5,9");
        due("no hole of plane 0", bare.next(0, 1), -2);
        due("but others", bare.next(1, 1), -1);
        StoneThatShakes blind = told("s1,0;h0,5,5,9;h0,0,0,9");
        blind.cross(0, 0, 0);
        due("nothing is felt: all are left", blind.next(0, 4), 14641);
        row(blind, 0, 1);
        StoneThatShakes pair = told("s1,0;h0,0,1,9;h0,1,0,9;h0,1,1,0");
        pair.whole(0, 0, 0, 1);
        due("from (0, 1), (1, 0) 3 alike, from (1, 1) 2", pair.next(0, 1), 2);
        row(pair, 2, 1);
        pair.drop();
        pair.much(0, 25, 25);
        due("12 on a circle: by (0, 1) in twos", pair.next(0, 4), 2);
        row(pair, 0, 1);
        StoneThatShakes skew = told("s1,0;h0,0,0,9;h0,3,1,9");
        skew.whole(0, 0, 0, 1);
        due("0, 0 leaves 4; 3, 1 leaves all apart", skew.next(0, 1), 1);
        row(skew, 1, 1);
        StoneThatShakes w = told("s1,0;h0,1,0,9");
        w.whole(0, -1, 0, 1);
        due("-2 .. 0 by -1 .. 1: of 1, 2, 3, 4 ounces 4, 3, 2, 2 alike", w.next(0, 4), 2);
        row(w, 0, 3);
        due("of 1, 2", w.next(0, 2), 3);
        row(w, 0, 2);
    }

    private static void enoughTrials() {
        promise = "23";
        StoneThatShakes s = example();
        s.lead(0, 3);
        s.think(3, -7, 0);
        s.much(0, 800, 800);
        due("enough", s.enough(0, 5, -4), 2);
        row(s, 2, 1);
        due("does not agree", s.enough(0, 0, 0), -1);
        due("others", s.enough(2, 5, -4), -1);
        due("others", s.enough(-1, 5, -4), -1);
        due("others", s.enough(0, 61, -4), -1);
        due("others", s.enough(0, 5, -61), -1);
        row(s, 2, 1);
        due("nothing changes", s.count(3), 1);
        due("nothing changes", s.count(5), -1);
        due("nothing changes", s.which(), 12);
        s.drop();
        s.whole(0, 28, -4, 0);
        due("one alone already", s.enough(0, 5, -4), 0);
        row(s);
        StoneThatShakes bare = told("s1,0;h1,5,5,9");
        bare.whole(0, 0, 0, 0);
        due("no hole of plane 0", bare.enough(0, 0, 0), -1);
        StoneThatShakes line = told("s1,0;h0,0,1,9");
        line.whole(0, 0, 0, 1);
        line.which();
        due("x and -x are never told apart", line.enough(0, 1, 0), -2);
        row(line, -1, -1, 1, 1);
        due("0 is", line.enough(0, 0, 0), 1);
        row(line, 1);
        due("(0, 1) is", line.enough(0, 0, 1), 1);
    }

    private static void menTell() {
        promise = "24, 25, 26";
        StoneThatShakes s = example();
        int[][] others = {{3, 1, 1}, {-1, 1, 1}, {0, 0, 1}, {0, 1, 0}, {0, 100, 1}, {0, 1, 100}};
        for (int[] o : others) {
            due("others", s.man(o[0], o[1], o[2]), false);
        }
        s.truly(0, 7, -7);
        due("man", s.man(1, 1, 2), true);
        due("man", s.man(2, 99, 99), true);
        due("as it is", s.tells(0, 0), 0);
        row(s, 7, -7);
        due("cut", s.tells(1, 0), 0);
        row(s, 3, -3);
        due("cut", s.tells(1, 1), 0);
        row(s, 10, -10);
        due("no man", s.tells(3, 0), -1);
        due("no man", s.tells(-1, 0), -1);
        due("no speed", s.tells(0, 2), -1);
        row(s, 10, -10);
        due("men", s.men(0, 6, -7, 1), 5);
        row(s, 0, 1);
        due("all", s.men(0, 5, -5, 2), 7);
        row(s, 0, 8);
        due("none, the nearest beyond", s.men(0, 0, 0, 2), 0);
        row(s, 1, 18);
        due("one number too far", s.men(0, 7, 0, 3), 0);
        due("give", s.men(0, 7, -7, 999), 7);
        row(s, 0, 0);
        due("give", s.men(0, 7, -7, 1000), -1);
        due("give", s.men(0, 7, -7, -1), -1);
        due("no speed", s.men(2, 7, -7, 1), -1);
        row(s, 0, 0);
        s.man(0, 3, 2);
        due("equal ones", s.men(0, 7, -7, 0), 4);
        row(s, 2, 0);
        s.truly(3, 1, 1);
        s.pound(0, 1);
        due("with all that is felt", s.tells(2, 1), 0);
        row(s, 3 * 17 + 1, -20);
    }

    private static void rests() {
        promise = "27";
        StoneThatShakes s = example();
        s.think(0, -25, -14);
        s.think(1, 3, 4);
        due("rest", s.rest(0), 821);
        due("rest", s.rest(1), 25);
        s.lead(1, 1);
        s.pound(0, 9);
        s.truly(0, 1000, 0);
        due("the pound is left out", s.rest(0), 625 + 16);
        due("another plane", s.rest(2), -1);
        due("another plane", s.rest(-1), -1);
    }

    private static void bests() {
        promise = "28";
        StoneThatShakes s = example();
        s.think(0, -25, -14);
        due("one", s.best(0, 1), 221);
        row(s, 2, 0, 0);
        due("two", s.best(0, 2), 41);
        row(s, 2, 1, 0);
        due("three", s.best(0, 3), 41);
        row(s, 2, 1, 0);
        due("others", s.best(0, 0), -1);
        due("others", s.best(0, 4), -1);
        due("others", s.best(2, 1), -1);
        due("others", s.best(-1, 1), -1);
        row(s, 2, 1, 0);
        due("nothing is changed", s.count(4), 0);
        due("plane 1", s.best(1, 3), 0);
        row(s, 0, 0);
        s.lead(0, 8);
        s.think(0, -200, 0);
        due("room left", s.best(0, 1), 110 * 110);
        row(s, 1, 0, 0);
        StoneThatShakes equal = told("h0,1,0,9;h0,1,0,9;h0,2,0,9;h0,0,0,9");
        equal.think(0, -4, 0);
        due("the fewest ounces", equal.best(0, 3), 0);
        row(equal, 0, 0, 2, 0);
        equal.think(0, -5, 0);
        due("the least row", equal.best(0, 2), 0);
        row(equal, 0, 1, 2, 0);
        due("one hole", equal.best(0, 1), 0);
        row(equal, 0, 5, 0, 0);
        StoneThatShakes three = told("h0,1,0,1;h0,3,0,1;h1,9,9,9;h0,0,1,9");
        three.think(0, -4, -2);
        due("three", three.best(0, 3), 0);
        row(three, 1, 1, 2);
        due("two", three.best(0, 2), 1);
        row(three, 0, 1, 2);
        due("one", three.best(0, 1), 5);
        row(three, 0, 1, 0);
        StoneThatShakes none = new StoneThatShakes();
        none.think(0, 3, 4);
        due("no holes", none.best(0, 3), 25);
        row(none);
    }

    private static void drilling() {
        promise = "29";
        StoneThatShakes s = example();
        s.lead(0, 2);
        s.lead(1, 1);
        s.deep(0, 4);
        s.think(0, 30, 0);
        due("one", s.off(0, 1), 100);
        row(s, 5, 0, 0);
        due("two", s.off(0, 2), 0);
        row(s, 5, 1, 0);
        due("three", s.off(0, 3), 0);
        row(s, 5, 1, 0);
        due("others", s.off(0, 4), -1);
        due("others", s.off(0, 0), -1);
        due("others", s.off(2, 1), -1);
        row(s, 5, 1, 0);
        s.think(0, 90, 0);
        due("no more than it has and is deep", s.off(0, 1), 50 * 50 + 100);
        row(s, 6, 0, 0);
        s.think(0, -90, -10);
        due("nothing", s.off(0, 3), 70 * 70);
        row(s, 0, 0, 0);
        has(s, 2, 1, 0);
    }

    private static void insteads() {
        promise = "30";
        StoneThatShakes s = example();
        s.lead(0, 2);
        s.lead(1, 1);
        s.deep(0, 4);
        s.think(0, 30, 0);
        due("of equal ones the least row", s.instead(0, 1), 100);
        row(s, -5, 0, 0);
        due("two", s.instead(0, 2), 0);
        row(s, -5, -1, 0);
        s.think(0, 90, 0);
        due("both ways", s.instead(0, 2), 100);
        row(s, -6, 0, 5);
        due("others", s.instead(0, 3), -1);
        due("others", s.instead(0, 0), -1);
        due("others", s.instead(2, 1), -1);
        row(s, -6, 0, 5);
        StoneThatShakes sizes = told("h0,3,0,9;h0,1,0,9;h0,1,0,9");
        sizes.lead(0, 1);
        sizes.lead(1, 3);
        sizes.think(0, -3, 0);
        due("6 - 3: one ounce out of the first", sizes.instead(0, 2), 0);
        row(sizes, -1, 0, 0);
        sizes.think(0, -4, 0);
        due("2 too much: 2 out, or 3 out and 1 in: both two ounces", sizes.instead(0, 2), 0);
        row(sizes, -1, 0, 1);
    }

    private static void fewests() {
        promise = "31";
        StoneThatShakes s = example();
        s.think(0, -25, -14);
        due("none is needed", s.fewest(0, 821), 0);
        row(s, 0, 0, 0);
        due("one", s.fewest(0, 820), 1);
        row(s, 2, 0, 0);
        due("one", s.fewest(0, 221), 1);
        due("two", s.fewest(0, 220), 2);
        row(s, 2, 1, 0);
        due("three do not do", s.fewest(0, 40), -2);
        due("below 0", s.fewest(0, -1), -1);
        due("another plane", s.fewest(2, 5), -1);
        row(s, 2, 1, 0);
        StoneThatShakes three = told("h0,1,0,1;h0,3,0,1;h0,0,1,9");
        three.think(0, -4, -2);
        due("three", three.fewest(0, 0), 3);
        row(three, 1, 1, 2);
        due("far bound", three.fewest(0, Long.MAX_VALUE), 0);
        row(three, 0, 0, 0);
    }

    private static void alls() {
        promise = "32";
        StoneThatShakes s = example();
        s.think(0, -25, -14);
        s.think(1, -14, -8);
        due("one ounce", s.all(0, 1), 241);
        row(s, 3);
        due("three", s.all(0, 3), 221);
        row(s, 1);
        due("bits by numbers of holes", s.all(1, 2), 36);
        row(s, 24);
        due("others", s.all(0, 0), -1);
        due("others", s.all(0, 10), -1);
        due("others", s.all(2, 1), -1);
        row(s, 24);
        s.lead(0, 7);
        s.think(0, -95, -24);
        due("no room in the first", s.all(0, 3), 25 * 25 + 36);
        row(s, 2);
        StoneThatShakes equal = told("h0,2,0,9;h0,1,0,9;h0,1,0,9;h0,1,0,9");
        equal.think(0, -2, 0);
        due("the fewest", equal.all(0, 1), 0);
        row(equal, 1);
        equal.think(0, -1, 0);
        due("the least bits", equal.all(0, 1), 0);
        row(equal, 2);
        equal.think(0, -5, 0);
        due("all", equal.all(0, 1), 0);
        row(equal, 15);
        StoneThatShakes either = told("h0,1,0,9;h0,1,0,9;h0,3,0,9");
        either.think(0, -4, 0);
        due("the first or the second with the third", either.all(0, 1), 0);
        row(either, 5);
    }

    private static void ounces() {
        promise = "33";
        StoneThatShakes s = example();
        s.think(0, -25, -14);
        due("more", s.ounce(0, 0), 0);
        row(s, -400);
        due("none has any", s.ounce(0, 1), -2);
        row(s, -400);
        s.lead(0, 9);
        due("against the first", s.ounce(0, 0), 2);
        row(s, 55 * 55 - 65 * 65);
        s.lead(2, 5);
        due("the third is full, v is (15, -14)", s.ounce(0, 0), 1);
        row(s, 16 - 196);
        s.lead(2, 0);
        due("less", s.ounce(0, 1), 0);
        row(s, 55 * 55 - 65 * 65);
        due("others", s.ounce(0, 2), -1);
        due("others", s.ounce(0, -1), -1);
        due("others", s.ounce(2, 0), -1);
        row(s, 55 * 55 - 65 * 65);
        s.think(1, 1, 1);
        due("the first of equal ones, though it is more", s.ounce(1, 0), 3);
        row(s, 64 - 1);
        due("nothing changes", s.count(4), 9);
    }

    private static void settling() {
        promise = "34";
        StoneThatShakes s = example();
        s.think(0, -25, -14);
        s.feel(0, 0);
        due("settle", s.settle(0), 3);
        has(s, 2, 1, 0, 0, 0);
        due("settled", s.settle(0), 0);
        row(s, 0, 0, 0);
        s.think(0, 30, 0);
        due("into the third 5, out of the second 1", s.settle(0), 6);
        has(s, 2, 0, 5, 0, 0);
        due("another plane", s.settle(2), -1);
        due("another plane", s.settle(-1), -1);
        StoneThatShakes equal = told("h0,1,0,9;h0,-1,0,9");
        equal.lead(1, 3);
        due("of equal ones more", equal.settle(0), 3);
        has(equal, 3, 3);
        StoneThatShakes full = told("h0,1,0,2;h0,1,0,2");
        full.think(0, -99, 0);
        due("till all are full", full.settle(0), 4);
        has(full, 2, 2);
        full.think(0, 99, 0);
        due("till all are empty", full.settle(0), 4);
        has(full, 0, 0);
        StoneThatShakes many = told("h0,1,0,9;h0,1,0,9;h0,1,0,9;h0,1,0,9;h0,1,0,9;h0,1,0,9",
                "h0,1,0,9;h0,1,0,9;h0,1,0,9", "h0,1,0,9;h0,1,0,9;h0,1,0,9;h0,-1,0,9;h0,-1,0,9;h0,-1,0,9", "h0,-1,0,9");
        due("minus 36", many.sheet(2, 16, 0, 0), 0);
        for (int h = 12; h < 16; h++) {
            many.lead(h, 9);
        }
        many.think(0, -999, 0);
        due("108 in, 36 out", many.settle(0), 144);
    }

    private static void bothPlanes() {
        promise = "35";
        StoneThatShakes s = example();
        s.lead(0, 2);
        s.lead(1, 1);
        due("alone", s.both(0, 28, 16, 5, 6), 0);
        row(s, 8, 1, 6, 1, 5, 1, 6, 1);
        s.cross(0, 1, 1);
        due("crossed", s.both(1, 10, 10, 10, 10), 0);
        row(s, -20, 1, -10, 1, 10, 3, 10, 3);
        s.pound(0, 1);
        s.think(2, 3, 0);
        s.think(3, 4, 1);
        due("next, floor, the pound", s.both(1, 10, 10, 10, 2), 0);
        row(s, -30, 1, 8 - 30, 3, 0, 1, 1, 3);
        s.cross(1, 0, 1);
        due("not parted", s.both(0, 28, 16, 5, 6), -2);
        row(s, -30, 1, -22, 3, 0, 1, 1, 3);
        s.cross(1, 0, 2);
        s.think(2, 0, 0);
        s.think(3, 0, 0);
        s.pound(-1, 0);
        s.sheet(3, 0, 0, 0);
        due("below 0 above", s.both(1, 1, 0, 0, 1), 0);
        row(s, -1, 3, 1, 3, 2, 3, -1, 3);
        int[][] others = {{2, 0, 0, 0, 0}, {-1, 0, 0, 0, 0}, {0, 100000, 0, 0, 0}, {0, 0, -100000, 0, 0},
            {0, 0, 0, 100000, 0}, {0, 0, 0, 0, -100000}};
        for (int[] o : others) {
            due("others", s.both(o[0], o[1], o[2], o[3], o[4]), -1);
        }
        due("edges", s.both(0, 99999, -99999, 99999, -99999), 0);
        row(s, 0, 1, 0, 1, 99999, 1, -99999, 1);
    }

    private static void twoPlanes() {
        promise = "36";
        StoneThatShakes s = example();
        s.think(0, 50, 10);
        due("one does", s.two(0), 100);
        row(s, 0, 0, 5, 0, 0);
        s.think(1, -14, 0);
        s.pound(0, 9);
        due("one in each plane; the pound left out", s.two(0), 100);
        row(s, 0, 0, 5, 2, 0);
        s.think(3, 0, -10);
        due("the floor's at both", s.two(0), 100);
        row(s, 0, 0, 5, 2, 0);
        s.think(0, 0, 0);
        due("the second, and the fourth or fifth", s.two(0), 100);
        row(s, 0, 1, 0, 2, 0);
        due("speed 1", s.two(1), 42 * 42 + 100 + 100 - (42 * 42));
        due("others", s.two(2), -1);
        due("others", s.two(-1), -1);
        StoneThatShakes equal = told("s1,0;h0,1,0,9;h1,1,0,9;h0,2,0,1");
        equal.think(0, -2, 0);
        due("the fewest ounces", equal.two(0), 0);
        row(equal, 0, 0, 1);
        equal.think(0, -1, 0);
        equal.cross(0, 1, 1);
        equal.cross(1, 0, 1);
        due("both planes are felt at both: the least row", equal.two(0), 0);
        row(equal, 0, 1, 0);
        StoneThatShakes none = told("s2,1");
        none.think(2, 1, 1);
        due("no holes", none.two(0), 4);
        row(none);
    }

    private static void worstOfSpeeds() {
        promise = "37, 38";
        StoneThatShakes s = example();
        s.lead(0, 2);
        s.lead(1, 1);
        s.think(0, 30, 0);
        due("at", s.at(1, 20, 0), true);
        due("at", s.at(2, 0, 0), false);
        due("at", s.at(-1, 0, 0), false);
        due("at", s.at(0, 10000, 0), false);
        due("at", s.at(0, 0, -10000), false);
        due("worst", s.worst(), 900);
        row(s, 0, 0, 4);
        due("for worst alone", s.rest(0), 2600);
        s.at(1, 30, 0);
        due("worst", s.worst(), 900);
        row(s, 0, 0, 5);
        s.at(0, 9999, -9999);
        due("one's own", s.worst() > 9000L * 9000, true);
        due("no speeds", new StoneThatShakes().worst(), -2);
        StoneThatShakes equal = told("s2,0;s1,0;h0,1,0,9;h1,1,0,9;h0,1,0,9");
        equal.think(0, -3, 0);
        due("the least row; plane 0 alone", equal.worst(), 0);
        row(equal, 0, 3);
        equal.at(1, -9, 0);
        due("2 (w - 3) against w - 9: 4 by 5, and 5 by 4", equal.worst(), 16);
        row(equal, 0, 5);
    }

    private static long code(long x, long y) {
        return 200000L * (x + 100000) + y + 100000;
    }

    private static void floors() {
        promise = "39";
        StoneThatShakes s = told("s1,0;s3,2;s3,5;s8,1");
        due("floor", s.floor(0, code(10, 3), 1, code(24, 5)), 0);
        row(s, 7, 1, 1, 1, 3, 1, 2, 1);
        due("fractions", s.floor(3, code(0, -1), 1, code(1, 1)), 0);
        row(s, -1, 5, -2, 5, 8, 5, 11, 5);
        due("alike", s.floor(1, code(0, 0), 2, code(1, 1)), -2);
        due("alike", s.floor(1, code(0, 0), 1, code(1, 1)), -2);
        due("others", s.floor(4, code(0, 0), 1, code(1, 1)), -1);
        due("others", s.floor(0, code(0, 0), -1, code(1, 1)), -1);
        long[] bad = {-1, 0, code(-100000, 5), code(5, -100000), code(100000, 5), Long.MIN_VALUE, Long.MAX_VALUE,
            code(-100000, 0), 40000000000L};
        for (long b : bad) {
            due("bad point", s.floor(0, b, 1, code(1, 1)), -1);
            due("bad point", s.floor(1, code(1, 1), 1, b), -1);
        }
        row(s, -1, 5, -2, 5, 8, 5, 11, 5);
        due("edges", s.floor(0, code(-99999, 99999), 1, code(99999, -99999)), 0);
        row(s, 99999, 1, -99999, 1, -199998, 1, 199998, 1);
    }

    private static void whoseParts() {
        promise = "40";
        StoneThatShakes s = told("s1,0;s3,2;s4,1;s5,4;s1,0");
        // One (2, -1), the next stone's (3, 5), the floor's (-7, 4).
        long p = code(2 - 7, -1 + 4);
        long q = code(6 + 6 - 7, -3 + 10 + 4);
        long r = code(8 + 3 - 7, -4 + 5 + 4);
        due("whose", s.whose(0, 1, 2, p, q, r), 0);
        row(s, 2, 1, 3, 1, -7, 1, -1, 1, 5, 1, 4, 1);
        due("in another order", s.whose(2, 0, 1, r, p, q), 0);
        row(s, 2, 1, 3, 1, -7, 1, -1, 1, 5, 1, 4, 1);
        due("fractions", s.whose(0, 1, 2, code(0, 0), code(1, 0), code(0, 1)), 0);
        row(s, -1, 4, 3, 4, 1, 4, 1, 2, -1, 2, -1, 2);
        due("in a line", s.whose(0, 1, 3, p, q, r), -2);
        due("alike by factor and other", s.whose(0, 4, 2, p, q, r), -2);
        due("the same speed", s.whose(0, 0, 2, p, q, r), -1);
        due("the same speed", s.whose(0, 2, 2, p, q, r), -1);
        due("the same speed", s.whose(2, 0, 2, p, q, r), -1);
        due("others", s.whose(5, 1, 2, p, q, r), -1);
        due("others", s.whose(0, -1, 2, p, q, r), -1);
        due("others", s.whose(0, 1, 9, p, q, r), -1);
        due("others", s.whose(0, 1, 2, -1, q, r), -1);
        due("others", s.whose(0, 1, 2, p, code(0, 100000), r), -1);
        due("others", s.whose(0, 1, 2, p, q, 0), -1);
        row(s, -1, 4, 3, 4, 1, 4, 1, 2, -1, 2, -1, 2);
    }

    private static void parts() {
        promise = "41";
        StoneThatShakes s = example();
        s.lead(0, 3);
        s.truly(0, 5, -4);
        s.truly(2, 1, 1);
        s.truly(3, -7, 0);
        due("part", s.part(1), 0);
        row(s, 9 * (35 * 35 + 16), 0, 8, 49);
        s.pound(3, 2);
        s.cross(0, 1, -9);
        due("plane 1", s.part(1), 1);
        row(s, 9 * (35 * 35 + 16), 9 * 81 * 196, 8, 49);
        s.cross(0, 0, 0);
        s.cross(0, 1, 0);
        due("the floor", s.part(1), 3);
        s.truly(3, 2, 2);
        due("of equal ones the first", s.part(1), 2);
        row(s, 0, 0, 8, 8);
        due("others", s.part(2), -1);
        due("others", s.part(-1), -1);
        row(s, 0, 0, 8, 8);
    }

    private static void fillings() {
        promise = "42";
        StoneThatShakes s = told("h0,1,0,2;h1,50,0,9;h0,0,1,0;h0,0,1,3;h0,-1,0,1");
        // x, y by minutes: (1, 0) (1, 1) (0, 1) (1, 1) (1, 2) (1, 3).
        due("now", s.buckets(0, 0), 1);
        due("two", s.buckets(0, 1), 2);
        due("five", s.buckets(0, 2), 5);
        due("five", s.buckets(0, 4), 5);
        due("six", s.buckets(0, 5), 6);
        due("never", s.buckets(0, 10), -2);
        s.think(0, 3, 0);
        due("now", s.buckets(0, 8), 0);
        due("not now", s.buckets(0, 9), 1);
        s.lead(0, 1);
        s.pound(0, 20);
        due("from what they have", s.buckets(0, 16), 1);
        due("others", s.buckets(0, -1), -1);
        due("others", s.buckets(2, 1), -1);
        due("nothing changes", s.count(4), 1);
        due("no holes", new StoneThatShakes().buckets(1, 0), -2);
    }

    private static void cogsInOrder() {
        promise = "43, 44, 45";
        StoneThatShakes s = new StoneThatShakes();
        due("no cogs", s.cogs(), -1);
        due("no cogs", s.order(), -1);
        due("no cogs", s.round(), -1);
        mill(s, "c5;c3;c9;h0,1,0,0;h1,0,1,0");
        due("fewer holes", s.cogs(), -1);
        due("fewer holes", s.order(), -1);
        due("fewer holes", s.round(), -1);
        mill(s, "h0,-1,0,0;h0,99,99,0");
        due("cogs", s.cogs(), 16 + 9);
        // 5 and 3, 9 and 3, 9 and 5 against each other: with 9, 5, 3 in the middle.
        due("order", s.order(), 16 + 9);
        row(s, 0, 1, 2);
        due("round", s.round(), 0);
        row(s, 0, 1, 2, 25);
        StoneThatShakes line = told("c1;c2;c3;c4;h0,1,0,0;h0,2,0,0;h0,-2,0,0;h0,-1,0,0");
        due("cogs", line.cogs(), 25);
        due("order", line.order(), 1);
        row(line, 0, 2, 1, 3);
        // Of the six exchanges those of HOLES 0 and 2, 0 and 3, 1 and 2, 1 and 3 make it 1: the first is taken.
        due("round", line.round(), 1);
        row(line, 2, 1, 0, 3, 1);
        StoneThatShakes equal = told("c7;c7;c7;h0,5,0,0;h0,5,5,0;h0,0,5,0");
        due("order", equal.order(), 4900 * 2);
        row(equal, 0, 1, 2);
        due("round", equal.round(), 0);
        row(equal, 0, 1, 2, 9800);
        StoneThatShakes two = told("c1;c2;h0,2,0,0;h0,-1,0,0");
        due("cogs", two.cogs(), 0);
        StoneThatShakes swap = told("c2;c1;h0,2,0,0;h0,-1,0,0");
        due("cogs", swap.cogs(), 9);
        due("order", swap.order(), 0);
        row(swap, 1, 0);
        due("round", swap.round(), 1);
        row(swap, 1, 0, 0);
        due("the order as told stays", swap.cogs(), 9);
        StoneThatShakes first = told("c1;c2;c2;h0,5,0,0;h0,-2,0,0;h0,-2,0,0");
        due("cogs", first.cogs(), 9);
        due("each exchange makes it more", first.round(), 0);
        StoneThatShakes heavy = told("c2;c1;c1;h0,5,0,0;h0,-2,0,0;h0,-2,0,0");
        due("cogs", heavy.cogs(), 36);
        due("the first two of equal ones", heavy.round(), 1);
        row(heavy, 1, 0, 2, 1);
        due("the least row", heavy.order(), 1);
        row(heavy, 1, 0, 2);
    }

    private static void kept() {
        promise = "46, 47";
        StoneThatShakes s = told("h0,10,0,9;s1,0");
        due("nothing kept", s.again(0), false);
        due("others", s.keep(-1), false);
        due("others", s.keep(3), false);
        due("others", s.again(-1), false);
        due("others", s.again(3), false);
        s.lead(0, 4);
        s.deep(0, 5);
        s.pound(0, 7);
        s.think(0, -40, 0);
        s.truly(0, 1, 1);
        s.at(0, -30, 0);
        s.much(0, 3, 4);
        due("keep", s.keep(1), true);
        due("another is not kept", s.again(0), false);
        s.lead(0, 1);
        s.deep(0, 6);
        s.pound(-1, 0);
        s.think(0, 0, 0);
        s.think(3, 1, 0);
        s.truly(0, 2, 2);
        s.at(0, 0, 0);
        s.drop();
        s.whole(0, 1, 1, 1);
        s.whole(0, 2, 2, 2);
        mill(s, "h0,0,1,9;s1,0");
        s.lead(1, 3);
        s.at(1, 55, 55);
        s.cross(0, 0, 2);
        due("keep", s.keep(2), true);
        due("again", s.again(1), true);
        has(s, 4, 0);
        due("deep is not kept", s.hole(0, 5), 6);
        due("pound", s.count(5), 0);
        due("pound", s.count(6), 7);
        due("trials", s.count(3), 1);
        due("thought", s.rest(0), 0);
        due("speed 0 apart (10, 0), speed 1 not", s.worst(), 100);
        due("cross and truly are not kept", s.feel(0, 0), 0);
        row(s, 2 * 2 + 2 * 110, 4, 224 * 224 + 16);
        due("trial of much with its lead: 2 (x + 110)", s.judge(0, 0), 0);
        due("again, another", s.again(2), true);
        has(s, 1, 3);
        due("pound", s.count(5), -1);
        due("pound", s.count(6), 0);
        due("trials", s.count(3), 2);
        due("thought", s.rest(0), 100 + 9);
        s.lead(0, 9);
        due("again the same", s.again(2), true);
        has(s, 1, 3);
        due("first, kept still", s.again(1), true);
        has(s, 4, 0);
    }

    private static void counts() {
        promise = "48, 49";
        StoneThatShakes s = example();
        s.lead(0, 4);
        s.lead(4, 5);
        s.pound(2, 11);
        s.much(0, 1, 2);
        s.feel(0, 0);
        write(s, "c12;c");
        long[] want = {5, 2, 3, 1, 9, 2, 11, 3, 5};
        for (int what = 0; what < 9; what++) {
            due("count " + what, s.count(what), want[what]);
        }
        due("another what", s.count(9), -1);
        due("another what", s.count(-1), -1);
        due("row", s.row(0), 40 - 110);
        due("row", s.row(1), 0);
        due("row", s.row(2), 4900);
        due("throws", throwsAtRow(s, 3), true);
        due("throws", throwsAtRow(s, -1), true);
        due("throws", throwsAtRow(new StoneThatShakes(), 0), true);
    }

    /** Calls with numbers at the ends of int and long end and throw nothing but what is promised. */
    private static void wrongAll() {
        promise = "wrong inputs";
        int[] ends = {Integer.MIN_VALUE, -2, Integer.MAX_VALUE};
        for (StoneThatShakes s : new StoneThatShakes[] {new StoneThatShakes(), example()}) {
            s.feel(0, 0);
            long numbers = s.count(7);
            for (int e : ends) {
                due("hole", throwsAtHole(s, e, e), true);
                due("lead", s.lead(e, e) + s.deep(e, e) + s.lead(0, e) + s.deep(0, e), -4);
                due("sheet", s.sheet(e, e, e, e), -1);
                due("cross", s.cross(e, e, e) + s.cross(0, 0, e == -2 ? 99 : e), -2);
                due("mass", s.truly(e, e, e) || s.think(e, e, e) || s.pound(e, e), false);
                due("feel", s.feel(e, e) + s.hums(e, e), -2);
                due("trial", s.whole(e, e, e, e) + s.much(e, e, e) + s.judge(e, e == -2 ? 99 : e), -3);
                due("next", s.next(e, e) + s.enough(e, e, e), -2);
                due("man", s.man(e, e, e), false);
                due("men", s.tells(e, e) + s.men(e, e, e, e), -2);
                due("mend", s.rest(e) + s.best(e, e) + s.off(e, e) + s.instead(e, e) + s.fewest(e, e), -5);
                due("mend", s.all(e, e) + s.ounce(e, e) + s.settle(e), -3);
                due("planes", s.both(e, e, e, e, e) + s.two(e), -2);
                due("at", s.at(e, e, e) || s.keep(e) || s.again(e), false);
                due("floor", s.floor(e, e, e, e) + s.whose(e, e, e, e, e, e) + s.part(e) + s.buckets(e, e), -4);
                due("count", s.count(e), -1);
                due("row", throwsAtRow(s, e), true);
            }
            due("the row stays", s.count(7), numbers);
            due("far points of men", s.men(0, Integer.MIN_VALUE, Integer.MAX_VALUE, 999) <= 0, true);
        }
    }
}
