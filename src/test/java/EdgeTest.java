import java.math.BigInteger;
import java.util.Arrays;
import java.util.NoSuchElementException;

/**
 * Sentence by sentence: for each that names a boundary case, calls that would answer otherwise if it were broken.
 * (RangeTest has the numbers that calls take or refuse, and what refused calls leave; TextTest has more texts.)
 */
public final class EdgeTest {
    private static int wrong = 0;
    private static int asked = 0;
    private static String sentence = "";

    public static void main(String[] args) {
        newObject();
        signs();
        ends();
        lines();
        numbersOfLines();
        sixtySigns();
        roomForLines();
        whereItIs();
        holes();
        sheets();
        sheetEntries();
        masses();
        felt();
        humming();
        trialsTold();
        pullsAgreeing();
        leadsOfTrials();
        whichOnes();
        endsOfPulls();
        judged();
        barring();
        barringManyTrials();
        nexts();
        nextsByBothAxes();
        enoughs();
        men();
        rests();
        bests();
        drilled();
        insteads();
        fewests();
        alls();
        ounces();
        settled();
        settledTwoHundred();
        boths();
        twos();
        worsts();
        floors();
        whoses();
        parts();
        filling();
        cogsAtHoles();
        ordered();
        exchanged();
        keptAndAgain();
        counted();
        rowsThatStay();
        System.out.println(wrong == 0 ? asked + " answers at the edges are as due" : wrong + " are not as due");
        if (wrong != 0) {
            System.exit(1);
        }
    }

    // ---- 1 .. 3: a new object, the text

    private static void newObject() {
        sentence = "1: no HOLES; what is told of at first";
        StoneThatShakes s = new StoneThatShakes();
        for (int what = 0; what <= 8; what++) {
            due(s.count(what), what == 5 ? -1 : 0);
        }
        due(throwsHole(s, 0, 0), true);
        due(throwsRow(s, 0), true);
        due(s.lead(0, 0), -1);
        due(s.drop(), -1);
        due(s.rest(0), 0);
        due(s.rest(1), 0);
        for (int i = 0; i < 3; i++) {
            due(s.again(i), false);
        }
        sentence = "Terms: CROSS at first 1 of like ones, 0 else";
        due(s.cross(0, 0, 5), 1);
        due(s.cross(0, 1, 6), 0);
        due(s.cross(1, 0, 7), 0);
        due(s.cross(1, 1, 8), 1);
        due(s.cross(0, 0, 1) * 1000 + s.cross(0, 1, 0) * 100 + s.cross(1, 0, 0) * 10 + s.cross(1, 1, 1), 5678);
        sentence = "Terms: HAS, DEEP at first 0; MASSES 0, 0; a man feels 1 by 1";
        mill(s, "h0,3,4,9;s9,9");
        due(s.hole(0, 4), 0);
        due(s.hole(0, 5), 0);
        due(s.feel(0, 0), 0);
        row(s, 0, 0, 0);
        s.truly(3, 7, -5);
        for (int man = 0; man < 3; man++) {
            due(s.tells(man, 0), 0);
            row(s, 7, -5);
        }
        due(s.worst(), 0);
    }

    private static void signs() {
        sentence = "2: four signs behind THE TEXT, how many it has; refused: more than 80";
        for (int first = 0; first <= 4; first++) {
            StoneThatShakes s = new StoneThatShakes();
            s.sign(0);
            s.end(first);
            int n = first;
            while (n + 4 <= 80) {
                n += 4;
                due(s.sign(0), n);
            }
            due(s.sign(0), -1);
            due(s.count(8), n);
            due(s.sign(-1), -1);
            due(s.count(8), n);
        }
        sentence = "2: of v the highest byte first";
        StoneThatShakes s = new StoneThatShakes();
        due(s.sign(0x63373B63), 4);
        due(s.sign(0x39000000), 8);
        due(s.end(5), true);
        due(s.mill(), 2);
        mill(s, "h0,1,0,0;h0,0,1,0");
        due(s.cogs(), 49 + 81);
        sentence = "2: signs above 127 are others than those below";
        s.sign('c' << 24 | ('7' | 128) << 16);
        s.end(2);
        due(s.mill(), -2);
        s.sign(('c' | 128) << 24 | '7' << 16);
        s.end(2);
        due(s.mill(), -1);
        s.sign('c' << 24 | '7' << 16 | (';' | 128) << 8 | 'c');
        due(s.mill(), -3);
    }

    private static void ends() {
        sentence = "3: its first n signs alone; false if it has not so many, or n is below 0";
        for (int n = 0; n <= 80; n += 4) {
            StoneThatShakes s = new StoneThatShakes();
            for (int i = 0; i < n; i += 4) {
                s.sign(0x63373B63);
            }
            due(s.end(n + 1), false);
            due(s.end(-1), false);
            due(s.count(8), n);
            due(s.end(n), true);
            due(s.count(8), n);
            if (n > 0) {
                due(s.end(n - 1), true);
                due(s.count(8), n - 1);
                due(s.end(n), false);
                due(s.count(8), n - 1);
            }
            due(s.end(0), true);
            due(s.count(8), 0);
            due(s.mill(), 0);
        }
        sentence = "3: what comes then stands behind those n";
        StoneThatShakes s = new StoneThatShakes();
        s.sign(0x63373B63);
        s.end(1);
        due(s.sign(0x393B6338), 5);
        due(s.mill(), 2);
        mill(s, "h0,1,0,0;h0,0,1,0");
        due(s.cogs(), 81 + 64);
    }

    // ---- 4: mill

    private static void lines() {
        sentence = "4: an empty one: none";
        StoneThatShakes s = new StoneThatShakes();
        due(s.mill(), 0);
        due(s.count(0) + s.count(1) + s.count(2), 0);
        sentence = "4: how many LINES";
        due(mill(s, "c1"), 1);
        due(mill(s, "s1,0;c1"), 2);
        due(mill(s, "h0,1,1,1;s1,0;c1"), 3);
        sentence = "Terms: what they tell comes behind what there is";
        mill(s, "c5;h1,-2,3,4;s7,8");
        due(s.hole(0, 0) * 10 + s.hole(0, 3), 1);
        due(s.hole(1, 0), 1);
        due(s.hole(1, 1), -2);
        due(s.hole(1, 2), 3);
        due(s.hole(1, 3), 4);
        due(s.count(1), 3);
        due(s.count(2), 4);
        mill(s, "h0,0,0,9;h0,0,1,9");
        // COGS 1, 1, 1, 5 at (1, 1), (-2, 3), (0, 0), (0, 1).
        due(s.cogs(), 1 + 81);
        sentence = "Terms: a call that reads THE TEXT empties it, a refused one too";
        for (String text : new String[] {"c1", "c", "x", "h0,1,1,10", "c1;"}) {
            mill(s, text);
            due(s.count(8), 0);
            due(s.mill(), 0);
            due(s.end(1), false);
        }
        sentence = "4: its end, if it ends too early";
        String whole = "h1,-12,-34,9";
        for (int n = 1; n < whole.length(); n++) {
            due(mill(s, whole.substring(0, n)), -1 - n);
            due(mill(s, whole.substring(0, n) + ";"), -1 - n);
        }
        due(mill(s, "s1"), -3);
        due(mill(s, "s1,"), -4);
        due(mill(s, "s"), -2);
        due(mill(s, "c"), -2);
        due(mill(s, "c5;"), -4);
        due(mill(s, "c5;h"), -5);
    }

    private static void numbersOfLines() {
        StoneThatShakes s = new StoneThatShakes();
        sentence = "4: PLANE 0 or 1";
        takes("h0,1,1,1", "h1,1,1,1", "h00,1,1,1", "h01,1,1,1");
        due(mill(s, "h2,1,1,1"), -2);
        due(mill(s, "h9,1,1,1"), -2);
        due(mill(s, "h02,1,1,1"), -3);
        due(mill(s, "h10,1,1,1"), -3);
        due(mill(s, "h20,1,1,1"), -3);
        due(mill(s, "h99,1,1,1"), -3);
        due(mill(s, "h-0,1,1,1"), -2);
        due(mill(s, "h001,1,1,1"), -4);
        sentence = "4: a POINT -99 .. 99 each";
        takes("h0,0,0,1", "h0,-0,-0,1", "h0,99,99,1", "h0,-99,-99,1", "h0,00,-00,1", "h0,-09,09,1");
        due(mill(s, "h0,100,1,1"), -6);
        due(mill(s, "h0,-100,1,1"), -7);
        due(mill(s, "h0,1,100,1"), -8);
        due(mill(s, "h0,1,-100,1"), -9);
        due(mill(s, "h0,000,1,1"), -6);
        due(mill(s, "h0,--1,1,1"), -5);
        due(mill(s, "h0,1,--1,1"), -7);
        due(mill(s, "h0,1-,1,1"), -5);
        due(mill(s, "h0,-,1,1"), -5);
        due(mill(s, "h0,,1,1"), -4);
        due(mill(s, "h0,+1,1,1"), -4);
        sentence = "4: ROOM 0 .. 9";
        takes("h0,1,1,0", "h0,1,1,9", "h0,1,1,00", "h0,1,1,09");
        due(mill(s, "h0,1,1,10"), -9);
        due(mill(s, "h0,1,1,99"), -9);
        due(mill(s, "h0,1,1,009"), -10);
        due(mill(s, "h0,1,1,-0"), -8);
        due(mill(s, "h0,1,1,9,"), -9);
        sentence = "4: a FACTOR 1 .. 9, an OTHER 0 .. 9";
        takes("s1,0", "s9,9", "s01,00", "s09,09");
        due(mill(s, "s0,0"), -2);
        due(mill(s, "s00,0"), -3);
        due(mill(s, "s10,0"), -3);
        due(mill(s, "s99,0"), -3);
        due(mill(s, "s-1,0"), -2);
        due(mill(s, "s001,0"), -3);
        due(mill(s, "s011,0"), -4);
        due(mill(s, "s1,10"), -5);
        due(mill(s, "s1,99"), -5);
        due(mill(s, "s1,-1"), -4);
        due(mill(s, "s1,009"), -6);
        due(mill(s, "s1;"), -3);
        sentence = "4: a NUMBER too small at its last digit, though its end comes too early too";
        due(mill(s, "s0"), -2);
        due(mill(s, "s00"), -3);
        sentence = "4: a WEIGHT 0 .. 99";
        takes("c0", "c99", "c00", "c09");
        due(mill(s, "c100"), -4);
        due(mill(s, "c-1"), -2);
        due(mill(s, "c1,"), -3);
        sentence = "4: the sign at p can't stand there";
        due(mill(s, "H0,1,1,1"), -1);
        due(mill(s, " c1"), -1);
        due(mill(s, ";c1"), -1);
        due(mill(s, "c1;;c1"), -4);
        due(mill(s, "c1,c1"), -3);
        due(mill(s, "c1 ;c1"), -3);
        due(mill(s, "c1;C1"), -4);
        due(mill(s, "7"), -1);
        sentence = "4: one that is refused tells nothing";
        due(mill(s, "c1;s1,1;h0,1,1,1;x"), -18);
        due(s.count(0) + s.count(1) + s.count(2), 0);
    }

    /** Each text is one LINE; numbers are read back as they stand. */
    private static void takes(String... texts) {
        for (String text : texts) {
            StoneThatShakes s = new StoneThatShakes();
            due(mill(s, text), 1);
            String[] numbers = text.substring(1).split(",");
            if (text.charAt(0) == 'h') {
                for (int what = 0; what < 4; what++) {
                    due(s.hole(0, what), Integer.parseInt(numbers[what]));
                }
            } else if (text.charAt(0) == 'c') {
                mill(s, "h0,1,0,0");
                long weight = Integer.parseInt(numbers[0]);
                due(s.cogs(), weight * weight);
            } else {
                s.truly(1, 1, 0);
                s.truly(2, 0, 1);
                s.cross(0, 1, 1);
                s.feel(0, 0);
                due(s.row(0), Integer.parseInt(numbers[0]));
                due(s.row(1), Integer.parseInt(numbers[1]));
            }
        }
    }

    private static void sixtySigns() {
        String five = "h0,10,10,1;h0,10,10,1;h0,10,10,1;h0,10,10,1;h0,10,10,1;";
        due(five.length(), 55);
        sentence = "4: a text of at most 60 signs";
        due(mill(new StoneThatShakes(), five + "c7;c8"), 7);
        due(mill(new StoneThatShakes(), five + "s9,09"), 6);
        due(mill(new StoneThatShakes(), five + "c7;8"), -59);
        sentence = "4: 60, if it has more and the first 60 could go on or end";
        StoneThatShakes s = new StoneThatShakes();
        due(mill(s, five + "c7;c8;"), -61);
        due(mill(s, five + "c7;c89"), -61);
        due(mill(s, five + "c7;c8;c9"), -61);
        due(mill(s, five + "c77;c8"), -61);
        due(mill(s, five + "c77;c"), -61);
        due(mill(s, five + "c77;cx"), -61);
        due(mill(s, five + "c77;;"), -60);
        due(mill(s, five + "c77;x"), -60);
        due(mill(s, five + "c77;x1"), -60);
        due(mill(s, five + "s9,09"), 6);
        s = new StoneThatShakes();
        due(mill(s, five + "s9,09x"), -61);
        due(mill(s, five + "s9,099"), -61);
        due(mill(s, five + "s9,9;"), -61);
        due(mill(s, five + "s9,9;c1"), -61);
        sentence = "4: 60 signs that end too early: its end";
        due(mill(s, five + "c12;s"), -61);
        due(mill(s, five + "s09,"), -60);
        due(mill(s, five + "c1;c1"), 7);
        s = new StoneThatShakes();
        sentence = "4: a NUMBER too great or too small, as far as it stands in the first 60: at its last digit";
        due(mill(s, five + "c1;s0"), -60);
        due(mill(s, five + "c1;s00"), -60);
        due(mill(s, five + "c1;s01,1"), -60);
        due(mill(s, five + "c1;s1"), -61);
        due(mill(s, five + "c1;s10,1"), -61);
        due(mill(s, five + "c1;h1"), -61);
        due(mill(s, five + "c1;h11,1,1,1"), -61);
        due(mill(s, five + "c1;h2"), -60);
        due(mill(s, five + "c1;h20,1,1,1"), -60);
        due(mill(s, five + "c;s01,1"), -57);
        due(mill(s, five + "s1,10"), -60);
        due(mill(s, five + "s01,1"), 6);
        s = new StoneThatShakes();
        due(mill(s, five + "s01,10"), -61);
        due(mill(s, five + "s01,90,"), -61);
        due(mill(s, five + "s00,1"), -58);
        due(mill(s, five + "h01,-"), -61);
        due(mill(s, five + "h01,-123"), -61);
        due(mill(s, five + "h01,--"), -60 - 1);
        due(mill(s, five + "h1,--"), -60);
        due(mill(s, five + "h1,10"), -61);
        due(mill(s, five + "h1,100"), -61);
        due(s.count(0) + s.count(1) + s.count(2), 0);
        sentence = "4: 80 signs";
        due(mill(s, five + "c7;c8" + ";c7;c8;c7;c8;c7;c8;c"), -61);
        due(mill(s, five + "c7;c8" + "...................."), -61);
    }

    private static void roomForLines() {
        sentence = "4: the letter of a LINE for which there is no room: 17 HOLES";
        StoneThatShakes s = new StoneThatShakes();
        String six = "h0,1,1,1;h0,1,1,1;h0,1,1,1;h0,1,1,1;h0,1,1,1;h0,1,1,1";
        due(mill(s, six), 6);
        due(mill(s, six), 6);
        due(mill(s, six), -1 - 4 * 9);
        due(s.count(0), 12);
        due(mill(s, six.substring(0, 26)), 3);
        due(mill(s, "h1,9,9,9;h"), -10);
        due(s.count(0), 15);
        due(mill(s, "h1,9,8,7"), 1);
        due(s.count(0), 16);
        due(s.hole(15, 2), 8);
        due(mill(s, "h"), -1);
        due(mill(s, "h0,1,1,1"), -1);
        due(s.count(0), 16);
        due(throwsHole(s, 16, 0), true);
        sentence = "4: the letter of a LINE for which there is no room: 7 SPEEDS";
        due(mill(s, "s1,1;s1,2;s1,3;s1,4;s1,5;s1,6;s1,7"), -31);
        due(mill(s, "s1,1;s1,2;s1,3;s1,4;s1,5"), 5);
        due(mill(s, "s1,6;s"), -6);
        due(mill(s, "s1,6"), 1);
        due(s.count(1), 6);
        due(mill(s, "s"), -1);
        due(mill(s, "c1;s1,6"), -4);
        due(s.count(1), 6);
        due(s.feel(0, 5), 0);
        due(s.feel(0, 6), -1);
        sentence = "4: the letter of a LINE for which there is no room: 9 COGS";
        due(mill(s, "c1;c2;c3;c4;c5;c6;c7;c8;c9"), -25);
        due(mill(s, "c1;c2;c3;c4;c5;c6;c7"), 7);
        due(mill(s, "c8;c"), -4);
        due(mill(s, "c8"), 1);
        due(s.count(2), 8);
        due(mill(s, "c"), -1);
        due(s.count(2), 8);
        sentence = "4: which sign can't stand first: what comes behind it is not looked at";
        due(mill(s, "x;h0"), -1);
        due(mill(s, "hx"), -1);
        due(mill(s, ""), 0);
    }

    // ---- 5 .. 8

    private static void whereItIs() {
        sentence = "5: PLANE, x, y, ROOM, HAS, DEEP; none such, another what";
        StoneThatShakes s = told("h1,-99,99,9;h0,99,-99,0");
        s.lead(0, 9);
        s.deep(1, 9);
        int[][] want = {{1, -99, 99, 9, 9, 0}, {0, 99, -99, 0, 0, 9}};
        for (int h = 0; h < 2; h++) {
            for (int what = 0; what < 6; what++) {
                due(s.hole(h, what), want[h][what]);
            }
            due(throwsHole(s, h, -1), true);
            due(throwsHole(s, h, 6), true);
        }
        due(throwsHole(s, -1, 0), true);
        due(throwsHole(s, 2, 0), true);
        due(throwsHole(s, 2, 6), true);
    }

    private static void holes() {
        sentence = "6: HAS becomes v (0 .. ROOM): what it was";
        StoneThatShakes s = told("h0,1,0,0;h0,1,0,1;h0,1,0,9");
        due(s.lead(0, 0), 0);
        due(s.lead(0, 1), -1);
        due(s.lead(1, 1), 0);
        due(s.lead(1, 2), -1);
        due(s.lead(1, 1), 1);
        due(s.lead(2, 9), 0);
        due(s.lead(2, 10), -1);
        due(s.lead(2, -1), -1);
        due(s.lead(2, 0), 9);
        sentence = "7: DEEP becomes v (0 .. 9), whatever ROOM there is: what it was";
        due(s.deep(0, 9), 0);
        due(s.deep(0, 10), -1);
        due(s.deep(0, -1), -1);
        due(s.deep(0, 0), 9);
        due(s.deep(0, 0), 0);
    }

    private static void sheets() {
        String four = "h0,1,0,9;h0,1,0,9;h0,1,0,9;h0,1,0,9";
        StoneThatShakes s = told(four, four, four, four);
        sentence = "8: n entries (0 .. 16), HOLES behind them have 0: the sum of all";
        for (int n = 0; n <= 16; n++) {
            for (int h = 0; h < 16; h++) {
                s.lead(h, 7);
            }
            due(s.sheet(n % 3, n, 2, 0), 2 * n);
            for (int h = 0; h < 16; h++) {
                due(s.hole(h, 4), h < n ? 2 : 0);
            }
        }
        sentence = "8: another kind, n above 16 (these first): NONE";
        due(s.sheet(-1, -1, 1, 1), -1);
        due(s.sheet(4, -1, 1, 1), -1);
        due(s.sheet(4, 3, 1, 1), -1);
        due(s.sheet(0, 17, 1, 1), -1);
        due(s.sheet(3, 17, 1, 1), -1);
        due(s.sheet(3, Integer.MAX_VALUE, 1, 1), -1);
        due(s.count(4), 32);
        sentence = "8: -2: n below 0, nothing changes";
        for (int kind = 0; kind < 3; kind++) {
            due(s.sheet(kind, -1, 1, 1), -2);
            due(s.sheet(kind, Integer.MIN_VALUE, 1, 1), -2);
            due(s.count(4), 32);
        }
        sentence = "8: -3: missing (all 0), n below 0 too";
        due(s.sheet(3, 16, 1, 1), -3);
        due(s.count(4), 0);
        for (int n : new int[] {-1, 0, 1, Integer.MIN_VALUE}) {
            s.lead(0, 3);
            s.lead(15, 3);
            due(s.sheet(3, n, 5, 5), -3);
            due(s.count(4), 0);
        }
        sentence = "8: fewer HOLES than entries, none at all";
        StoneThatShakes two = told("h0,1,0,9;h1,1,0,3");
        due(two.sheet(2, 16, 4, 1), 4 + 3);
        due(two.sheet(2, 1, 4, 1), 4);
        due(two.hole(1, 4), 0);
        due(new StoneThatShakes().sheet(2, 16, 4, 1), 0);
        due(new StoneThatShakes().sheet(3, 16, 4, 1), -3);
    }

    private static void sheetEntries() {
        sentence = "8: f, f + step, .., bytes and shorts the lowest bits, with their sign; put to 0 .. ROOM";
        int[][] cases = {
            // kind, f, what a ROOM of 9 has then
            {0, 0, 0}, {0, -1, 0}, {0, 9, 9}, {0, 10, 9}, {0, 127, 9}, {0, 128, 0}, {0, 255, 0}, {0, 256, 0},
            {0, 257, 1}, {0, -128, 0}, {0, -129, 9}, {0, -249, 7}, {0, -256, 0}, {0, 65536 + 5, 5},
            {1, 0, 0}, {1, -1, 0}, {1, 9, 9}, {1, 10, 9}, {1, 255, 9}, {1, 32767, 9}, {1, 32768, 0}, {1, 65535, 0},
            {1, 65536, 0}, {1, 65537, 1}, {1, -32768, 0}, {1, -32769, 9}, {1, -65530, 6},
            {2, 0, 0}, {2, -1, 0}, {2, 9, 9}, {2, 10, 9}, {2, 65536, 9}, {2, Integer.MAX_VALUE, 9},
            {2, Integer.MIN_VALUE, 0}};
        for (int[] c : cases) {
            StoneThatShakes s = told("h0,1,0,9;h0,1,0,5;h0,1,0,0");
            due(s.sheet(c[0], 3, c[1], 0), c[2] + Math.min(5, c[2]));
            due(s.hole(0, 4), c[2]);
            due(s.hole(1, 4), Math.min(5, c[2]));
            due(s.hole(2, 4), 0);
        }
        sentence = "8: steps";
        StoneThatShakes s = told("h0,1,0,9;h0,1,0,9;h0,1,0,9;h0,1,0,9");
        due(s.sheet(2, 4, 8, -3), 8 + 5 + 2);
        has(s, 8, 5, 2, 0);
        due(s.sheet(0, 4, 126, 65), 9 + 0 + 0 + 9);
        has(s, 9, 0, 0, 9);
        due(s.sheet(1, 4, 1, 16384), 1 + 9 + 0 + 0);
        has(s, 1, 9, 0, 0);
        due(s.sheet(2, 4, Integer.MAX_VALUE, 2), 9 + 0 + 0 + 0);
        due(s.sheet(2, 4, 2, Integer.MIN_VALUE), 2 + 0 + 2 + 0);
        has(s, 2, 0, 2, 0);
        due(s.sheet(0, 4, 2, Integer.MIN_VALUE), 8);
    }

    // ---- 9 .. 14

    private static void masses() {
        sentence = "9: -9 .. 9, each of its own: what it was";
        StoneThatShakes s = told("s1,0;s1,1");
        for (int v = -9; v <= 9; v++) {
            for (int b = 0; b < 2; b++) {
                for (int p = 0; p < 2; p++) {
                    int before = v == -9 ? (b == p ? 1 : 0) : v - 1;
                    due(s.cross(b, p, v), before);
                }
            }
        }
        sentence = "10, 11: -9999 .. 9999 each, as they TRULY are, and as they are THOUGHT: apart";
        for (int what = 0; what < 4; what++) {
            due(s.truly(what, 9999, -9999), true);
            due(s.rest(0) + s.rest(1), 0);
        }
        due(s.feel(0, 1), 0);
        row(s, 20 * 9999, -20 * 9999, 800L * 9999 * 9999);
        StoneThatShakes t = told("s1,0;s1,1");
        for (int what = 0; what < 4; what++) {
            due(t.think(what, -9999, 9999), true);
        }
        due(t.feel(0, 1), 0);
        row(t, 0, 0, 0);
        due(t.rest(0), 2L * 9999 * 9999);
        due(t.rest(1), 2L * 9999 * 9999);
        sentence = "12: 1 .. 20 ounces at a HOLE; HOLE NONE: none, whatever ounces are told";
        mill(s, "h1,1,0,0;h0,1,0,0");
        for (int ounces : new int[] {1, 20}) {
            due(s.pound(1, ounces), true);
            due(s.count(5), 1);
            due(s.count(6), ounces);
        }
        due(s.pound(1, 0), false);
        due(s.pound(1, 21), false);
        due(s.pound(0, -1), false);
        due(s.pound(2, 5), false);
        due(s.pound(-2, 5), false);
        due(s.count(5), 1);
        due(s.count(6), 20);
        for (int ounces : new int[] {0, 1, 20, 21, -1, Integer.MIN_VALUE, Integer.MAX_VALUE}) {
            due(s.pound(0, 3), true);
            due(s.pound(-1, ounces), true);
            due(s.count(5), -1);
            due(s.count(6), 0);
        }
        sentence = "12: it hangs where there is no ROOM too, and is none of the ounces in HOLES";
        due(s.pound(0, 20), true);
        due(s.count(4), 0);
        due(s.hole(0, 4), 0);
    }

    private static void felt() {
        sentence = "13: FACTOR times the sum over PLANES of CROSS times (PULL and LEAD), OTHER times NEXT, FLOOR";
        StoneThatShakes s = told("h0,2,0,9;h1,0,3,9;s1,0;s9,9");
        s.lead(0, 9);
        s.lead(1, 9);
        s.truly(0, 1, 0);
        s.truly(1, 0, 1);
        s.truly(2, 100, 0);
        s.truly(3, 0, 1000);
        due(s.feel(0, 0), 0);
        row(s, 19, 1000, 19 * 19 + 1000 * 1000);
        due(s.feel(1, 0), 0);
        row(s, 0, 1028, 1028 * 1028);
        s.cross(0, 1, -9);
        s.cross(1, 0, 9);
        due(s.feel(0, 1), 0);
        row(s, 171 + 900, 1000 - 81 * 28, 1071 * 1071 + 1268 * 1268);
        due(s.feel(1, 1), 0);
        row(s, 81 * 19 + 900, 252 + 1000, 2439 * 2439 + 1252 * 1252);
        sentence = "Terms: LEAD is of HOLES and of THE POUND, at the PLANE of its HOLE";
        s.pound(1, 20);
        due(s.feel(0, 0), 0);
        row(s, 19, 1000 - 9 * 88, 19 * 19 + 208 * 208);
        s.pound(0, 1);
        due(s.feel(0, 0), 0);
        row(s, 21, 1000 - 9 * 28, 21 * 21 + 748 * 748);
        due(s.feel(-1, 0), -1);
        due(s.feel(2, 0), -1);
        due(s.feel(0, -1), -1);
        due(s.feel(0, 2), -1);
    }

    private static void humming() {
        sentence = "14: -2: no SPEEDS; NONE: others";
        StoneThatShakes s = new StoneThatShakes();
        due(s.hums(0, 0), -2);
        due(s.hums(1, 1), -2);
        due(s.hums(2, 0), -1);
        due(s.hums(-1, 1), -1);
        due(s.hums(0, -1), -1);
        due(s.hums(1, 2), -1);
        sentence = "14: the greatest (what 0), the least (1); of equal ones the first";
        mill(s, "s2,0");
        s.truly(0, 0, 3);
        for (int what = 0; what < 2; what++) {
            due(s.hums(0, what), 0);
            row(s, 36);
        }
        mill(s, "s1,5;s3,9;s3,0;s1,0;s2,1");
        due(s.hums(0, 0), 2);
        row(s, 81);
        due(s.hums(0, 1), 1);
        row(s, 9);
        due(s.hums(1, 0), 0);
        row(s, 0);
        due(s.hums(1, 1), 0);
        row(s, 0);
        s.truly(3, 0, -6);
        // 0, -3, 3, 3, -3, 0 now.
        due(s.hums(0, 0), 1);
        row(s, 9);
        due(s.hums(0, 1), 0);
        row(s, 0);
    }

    // ---- 15 .. 17, and what agrees

    private static void trialsTold() {
        sentence = "15 .. 17: at most 12 TRIALS, their numbers, how many are left";
        StoneThatShakes s = told("s1,0");
        due(s.drop(), -1);
        for (int t = 0; t < 12; t++) {
            due(t % 2 == 0 ? s.whole(0, t, t, t) : s.much(0, t, t), t);
            due(s.count(3), t + 1);
        }
        due(s.whole(0, 1, 1, 1), -1);
        due(s.much(0, 1, 1), -1);
        due(s.count(3), 12);
        sentence = "17: the latest goes";
        for (int t = 11; t >= 1; t--) {
            due(s.drop(), t);
        }
        due(s.judge(0, 0), -2);
        due(s.judge(0, 1), 0);
        due(s.much(0, 1, 1), 1);
        due(s.judge(0, 0), 1);
        due(s.drop(), 1);
        due(s.drop(), 0);
        due(s.drop(), -1);
        due(s.count(3), 0);
        sentence = "15: -99999 .. 99999, a GIVE 0 .. 999";
        due(s.whole(0, -99999, 99999, 999), 0);
        due(s.whole(0, 99999, -99999, 0), 1);
        due(s.whole(0, -100000, 0, 0), -1);
        due(s.whole(0, 100000, 0, 0), -1);
        due(s.whole(0, 0, -100000, 0), -1);
        due(s.whole(0, 0, 100000, 0), -1);
        due(s.whole(0, 0, 0, -1), -1);
        due(s.whole(0, 0, 0, 1000), -1);
        sentence = "16: 0 .. 2000000000, low not above high";
        due(s.much(0, 0, 0), 2);
        due(s.much(0, 2000000000, 2000000000), 3);
        due(s.much(0, -1, 0), -1);
        due(s.much(0, 0, 2000000001), -1);
        due(s.much(0, 2000000001, 2000000001), -1);
        due(s.much(0, 1, 0), -1);
        due(s.much(0, 2000000000, 1999999999), -1);
        due(s.much(0, -2, -1), -1);
        due(s.count(3), 4);
        sentence = "15, 16: a SPEED there is";
        due(new StoneThatShakes().whole(0, 0, 0, 0), -1);
        due(new StoneThatShakes().much(0, 0, 0), -1);
        due(s.whole(1, 0, 0, 0), -1);
        due(s.much(-1, 0, 0), -1);
    }

    private static void pullsAgreeing() {
        sentence = "Terms: WHOLE: no farther than GIVE in either number";
        for (int give : new int[] {0, 1, 7}) {
            StoneThatShakes s = told("s1,0");
            s.whole(0, 10, -20, give);
            for (int sign = -1; sign <= 1; sign += 2) {
                due(s.judge(10 + sign * give, -20), -2);
                due(s.judge(10 + sign * (give + 1), -20), 0);
                due(s.judge(10, -20 + sign * give), -2);
                due(s.judge(10, -20 + sign * (give + 1)), 0);
                due(s.judge(10 + sign * give, -20 - sign * give), -2);
                due(s.judge(10 + sign * give, -20 - sign * (give + 1)), 0);
            }
        }
        sentence = "Terms: MUCH: SIZE from low to high";
        StoneThatShakes s = told("s1,0");
        s.much(0, 24, 26);
        due(s.judge(5, 0), -2);
        due(s.judge(-5, -1), -2);
        due(s.judge(3, 4), -2);
        due(s.judge(2, 4), 0);
        due(s.judge(3, 5), 0);
        s.drop();
        s.much(0, 25, 25);
        due(s.judge(-4, 3), -2);
        due(s.judge(5, 1), 0);
        due(s.judge(4, 2), 0);
        s.drop();
        s.much(0, 0, 0);
        due(s.judge(0, 0), -2);
        due(s.judge(0, 1), 0);
        sentence = "Terms: LEADS as they are when it is told, with THE POUND; CROSS as it is when it is asked";
        StoneThatShakes t = told("h0,1,0,9;h1,0,1,9;s2,0");
        t.lead(0, 3);
        t.lead(1, 5);
        t.pound(0, 20);
        t.cross(0, 0, 5);
        t.whole(0, 0, 0, 0);
        t.lead(0, 0);
        t.lead(1, 0);
        t.pound(1, 7);
        due(t.which(), 1);
        row(t, -23, 0, -23, 0);
        t.cross(0, 0, 1);
        t.cross(0, 1, 1);
        due(t.which(), 1);
        row(t, -23, -5, -23, -5);
        sentence = "Terms: by the other MASSES as they are THOUGHT (now); the PULL of PLANE 0 is none of them";
        t.truly(1, 50, 50);
        t.think(0, 50, 50);
        t.think(1, 0, 4);
        due(t.which(), 1);
        row(t, -23, -9, -23, -9);
        t.think(3, 2, 0);
        t.think(2, 99, 99);
        due(t.which(), 1);
        row(t, -24, -9, -24, -9);
    }

    private static void leadsOfTrials() {
        sentence = "Terms: each TRIAL with the LEADS that were when it was told, of both PLANES";
        StoneThatShakes s = told("h0,3,1,9;h1,1,-2,9;s1,0;s2,0");
        s.cross(0, 1, 2);
        for (int t = 0; t < 12; t++) {
            int lead0 = t % 9 + 1;
            int lead1 = 9 - t % 9;
            s.lead(0, lead0);
            s.lead(1, lead1);
            s.pound(t % 2, 1 + t);
            int all0 = lead0 + (t % 2 == 0 ? 1 + t : 0);
            int all1 = lead1 + (t % 2 == 1 ? 1 + t : 0);
            int factor = 1 + t % 2;
            due(s.whole(t % 2, factor * (5 + 3 * all0 + 2 * all1), factor * (-7 + all0 - 4 * all1), 0), t);
        }
        s.sheet(3, 0, 0, 0);
        s.pound(-1, 0);
        due(s.which(), 1);
        row(s, 5, -7, 5, -7);
        due(s.bars(), 0);
    }

    private static void whichOnes() {
        sentence = "18: all, none, one; the first, and the last of them, by x, then y";
        StoneThatShakes s = told("s1,0");
        due(s.which(), 14641);
        row(s, -60, -60, 60, 60);
        s.much(0, 5, 5);
        due(s.which(), 8);
        row(s, -2, -1, 2, 1);
        s.whole(0, -1, 2, 0);
        due(s.which(), 1);
        row(s, -1, 2, -1, 2);
        s.whole(0, 3, 3, 0);
        due(s.which(), 0);
        row(s);
        sentence = "Terms: PULLS are -60 .. 60 each number";
        int[][] corners = {{60, 60}, {60, -60}, {-60, 60}, {-60, -60}};
        for (int[] c : corners) {
            StoneThatShakes t = told("s1,0");
            t.whole(0, c[0], c[1], 0);
            due(t.which(), 1);
            row(t, c[0], c[1], c[0], c[1]);
            t.drop();
            t.whole(0, c[0], c[1], 1);
            due(t.which(), 4);
            t.drop();
            t.whole(0, c[0] + Integer.signum(c[0]), c[1], 0);
            due(t.which(), 0);
            t.drop();
            t.whole(0, c[0], c[1] + Integer.signum(c[1]), 0);
            due(t.which(), 0);
        }
    }

    private static void endsOfPulls() {
        sentence = "19: none: 0 (the ROW stays)";
        StoneThatShakes s = told("s1,0");
        s.whole(0, 61, 0, 0);
        s.feel(0, 0);
        due(s.ends(), 0);
        row(s, 0, 0, 0);
        sentence = "19: one, two, 40, 41, all: the greatest SIZE of the difference of two (NONE of more than 40)";
        int[][] wide = {{1, 1, 0}, {1, 2, 1}, {8, 5, 49 + 16}, {5, 8, 65}, {40, 1, 39 * 39}, {1, 40, 39 * 39},
            {41, 1, -1}, {1, 41, -1}, {6, 7, -1}, {3, 13, 4 + 144}, {3, 14, -1}};
        for (int[] w : wide) {
            StoneThatShakes t = told("s1,0;s1,0");
            // Two squares meet in x 20 - w[0] + 1 .. 20, y -20 .. -20 + w[1] - 1.
            t.whole(0, 20 - 500, -20 + 500, 500);
            t.whole(1, 20 - w[0] + 1 + 500, -20 + w[1] - 1 - 500, 500);
            due(t.ends(), w[0] * w[1]);
            row(t, 20 - w[0] + 1, 20, -20, -20 + w[1] - 1, w[2]);
        }
        StoneThatShakes all = told("s1,0");
        due(all.ends(), 14641);
        row(all, -60, 60, -60, 60, -1);
        sentence = "19: least and greatest y are not those of the first and the last";
        StoneThatShakes round = told("s1,0");
        round.much(0, 25, 25);
        due(round.ends(), 12);
        row(round, -5, 5, -5, 5, 100);
    }

    private static void judged() {
        sentence = "20: the first TRIAL; -2: none; NONE: others (a PULL -60 .. 60)";
        StoneThatShakes s = told("s1,0");
        due(s.judge(0, 0), -2);
        due(s.judge(61, 0), -1);
        for (int t = 0; t < 12; t++) {
            s.whole(0, t, 0, t);
        }
        // x from 0 to 2 t agrees with TRIAL t, |y| up to t.
        due(s.judge(0, 0), -2);
        due(s.judge(1, 0), 0);
        due(s.judge(0, 1), 0);
        for (int t = 0; t < 12; t++) {
            s.drop();
        }
        for (int t = 11; t >= 0; t--) {
            s.whole(0, t, 0, t);
        }
        for (int y = 0; y <= 11; y++) {
            due(s.judge(0, y), y == 0 ? -2 : 12 - y);
        }
        due(s.judge(60, 60), 0);
        due(s.judge(-60, -60), 0);
        due(s.judge(61, 60), -1);
        due(s.judge(-61, 60), -1);
        due(s.judge(60, 61), -1);
        due(s.judge(60, -61), -1);
    }

    private static void barring() {
        sentence = "21: no TRIALS, one that is so, one that can't be, two, three";
        StoneThatShakes s = told("s1,0");
        due(s.bars(), 0);
        row(s, 0);
        s.whole(0, 0, 0, 0);
        due(s.bars(), 0);
        row(s, 0);
        s.drop();
        for (int many = 1; many <= 3; many++) {
            s.whole(0, 900, 0, 0);
            due(s.bars(), many < 3 ? many : -2);
            row(s, many == 1 ? 1 : 3);
        }
        sentence = "21: of as few the least bits, whichever PULL comes first";
        int[][] cases = {
            // where the TRIALS want x to be, how many to be left out, their bits
            {1, 1, 2, 2, 2, 3}, {1, 2, 2, 1, 2, 6}, {2, 1, 1, 2, 2, 6}, {1, 2, 1, 2, 2, 5}, {2, 1, 2, 1, 2, 5},
            {1, 2, 1, 1}, {2, 1, 1, 1}, {1, 2, 2, 1, 1}, {2, 2, 1, 1, 4}, {1, 1, 1, 0, 0},
            {1, 2, 3, 2, 3}, {3, 2, 1, 2, 3}, {1, 2, 3, 1, 2, 6}, {3, 2, 3, 1, 2, 10}, {1, 2, 2, 3, 2, 9}};
        for (int[] c : cases) {
            StoneThatShakes t = told("s1,0");
            for (int i = 0; i < c.length - 2; i++) {
                t.whole(0, c[i], 0, 0);
            }
            due(t.bars(), c[c.length - 2]);
            row(t, c[c.length - 1]);
        }
    }

    private static void barringManyTrials() {
        sentence = "21: any one of 12, any two of 12, three of 12";
        for (int one = 0; one < 12; one++) {
            for (int another = one; another < 12; another++) {
                StoneThatShakes s = told("s1,0");
                for (int t = 0; t < 12; t++) {
                    s.whole(0, t == one || t == another ? -100 : 60, 60, 0);
                }
                due(s.bars(), one == another ? 1 : 2);
                row(s, 1 << one | 1 << another);
            }
        }
        StoneThatShakes s = told("s1,0");
        for (int t = 0; t < 12; t++) {
            s.much(0, t < 9 ? 0 : 7201, t < 9 ? 7200 : 9000);
        }
        s.feel(0, 0);
        due(s.bars(), -2);
        row(s, 0, 0, 0);
        s.drop();
        due(s.bars(), 2);
        row(s, 512 + 1024);
    }

    // ---- 22, 23

    private static void nexts() {
        sentence = "22: -2: none AGREES, or there is no such HOLE; NONE: others";
        StoneThatShakes s = told("s1,0;h1,1,0,9");
        s.feel(0, 0);
        due(s.next(0, 1), -2);
        due(s.next(0, 0), -1);
        due(s.next(0, 5), -1);
        due(s.next(1, 1), -1);
        due(s.next(-1, 1), -1);
        mill(s, "h0,1,0,0");
        due(s.next(0, 1) > 0, true);
        row(s, 1, 1);
        s.whole(0, 61, 61, 0);
        s.feel(0, 0);
        due(s.next(0, 1), -2);
        row(s, 0, 0, 0);
        sentence = "22: one PULL alone: 1, the first HOLE, one ounce";
        s.drop();
        s.whole(0, 60, 60, 0);
        due(s.next(0, 4), 1);
        row(s, 1, 1);
        sentence = "22: w from 1 to most, most 1 .. 4";
        StoneThatShakes t = told("s1,0;h0,1,0,9");
        t.whole(0, -4, 0, 3);
        // -7 .. -1 by -3 .. 3: with w ounces x + w is told without its sign, as is y.
        for (int most = 1; most <= 4; most++) {
            long least = Long.MAX_VALUE;
            int best = 0;
            for (int w = 1; w <= most; w++) {
                int worst = worstGroup(w);
                if (worst < least) {
                    least = worst;
                    best = w;
                }
            }
            due(t.next(0, most), least);
            row(t, 0, best);
        }
        sentence = "22: of equal ones the first HOLE, then w";
        StoneThatShakes u = told("s1,0;h1,9,9,9;h0,2,0,9;h0,1,0,9;h0,1,0,9");
        u.whole(0, -2, 0, 0);
        u.cross(0, 1, 5);
        due(u.next(0, 4), 1);
        row(u, 1, 1);
        u.drop();
        u.whole(0, -1, 0, 1);
        // By x -2 .. 0, y -1 .. 1: of 1, 2, 3, 4 ounces at (1, 0) 4, 3, 2, 2 are alike.
        due(u.next(0, 1), 3);
        row(u, 1, 1);
        StoneThatShakes v = told("s1,0;h0,1,0,9;h0,2,0,9");
        v.whole(0, -1, 0, 1);
        due(v.next(0, 1), 3);
        row(v, 1, 1);
        due(v.next(0, 2), 2);
        row(v, 1, 2);
        due(v.next(0, 3), 2);
        row(v, 0, 3);
        due(v.next(0, 4), 2);
        row(v, 0, 3);
        sentence = "22: as THE POUND, instead of what hangs; leads of HOLES as they are";
        v.pound(1, 20);
        due(v.next(0, 2), 2);
        row(v, 1, 2);
        due(v.count(5), 1);
        due(v.count(6), 20);
        v.lead(0, 1);
        due(v.next(0, 1), 2);
        row(v, 1, 1);
        v.lead(0, 2);
        due(v.next(0, 1), 2);
        row(v, 0, 1);
    }

    /** Of x -7 .. -1, y -3 .. 3 as many as are left at worst, if the SIZE with (w, 0) is told. */
    private static int worstGroup(int w) {
        int worst = 0;
        for (int size = 0; size < 200; size++) {
            int many = 0;
            for (int x = -7; x <= -1; x++) {
                for (int y = -3; y <= 3; y++) {
                    many += (x + w) * (x + w) + y * y == size ? 1 : 0;
                }
            }
            worst = Math.max(worst, many);
        }
        return worst;
    }

    private static void nextsByBothAxes() {
        sentence = "22: HOLES that there are alone";
        StoneThatShakes s = told("s1,0;h0,-1,0,9");
        s.whole(0, 2, 0, 1);
        due(s.next(0, 1), 3);
        row(s, 0, 1);
        sentence = "22: LEADS of both PLANES, x and y, and w ounces at each HOLE of PLANE 0";
        StoneThatShakes t = told("s1,0;h0,1,2,9;h1,4,-3,9;h0,-2,1,9");
        t.cross(0, 1, 2);
        t.whole(0, 3, -2, 4);
        for (int lead0 = 0; lead0 <= 3; lead0++) {
            for (int lead1 = 0; lead1 <= 3; lead1++) {
                t.lead(0, lead0);
                t.lead(1, lead1);
                int x = lead0 + 2 * lead1 * 4;
                int y = 2 * lead0 - 2 * lead1 * 3;
                int[] found = {1000, 0, 0};
                for (int w = 1; w <= 4; w++) {
                    found = narrower(found, worstOfNine(x + w, y + 2 * w), 0, w);
                }
                for (int w = 1; w <= 4; w++) {
                    found = narrower(found, worstOfNine(x - 2 * w, y + w), 2, w);
                }
                due(t.next(0, 4), found[0]);
                row(t, found[1], found[2]);
            }
        }
    }

    private static int[] narrower(int[] found, int worst, int hole, int w) {
        return worst < found[0] ? new int[] {worst, hole, w} : found;
    }

    /** Of x -1 .. 7, y -6 .. 2 as many as are left at worst, if the SIZE with (byX, byY) is told. */
    private static int worstOfNine(int byX, int byY) {
        int worst = 0;
        for (int one = 0; one < 81; one++) {
            int many = 0;
            for (int another = 0; another < 81; another++) {
                many += sizeOfNine(one, byX, byY) == sizeOfNine(another, byX, byY) ? 1 : 0;
            }
            worst = Math.max(worst, many);
        }
        return worst;
    }

    private static int sizeOfNine(int place, int byX, int byY) {
        int x = place / 9 - 1 + byX;
        int y = place % 9 - 6 + byY;
        return x * x + y * y;
    }

    private static void enoughs() {
        sentence = "23: one PULL alone is left already: 0";
        StoneThatShakes s = told("s1,0;h0,1,0,9");
        s.whole(0, 60, -60, 0);
        due(s.enough(0, 60, -60), 0);
        row(s);
        sentence = "23: NONE: others, it does not AGREE, no HOLE of PLANE 0";
        s.feel(0, 0);
        due(s.enough(0, 59, -60), -1);
        due(s.enough(0, 61, -60), -1);
        due(s.enough(0, 60, -61), -1);
        due(s.enough(1, 60, -60), -1);
        due(s.enough(-1, 60, -60), -1);
        row(s, 0, 0, 0);
        StoneThatShakes bare = told("s1,0;h1,1,0,9");
        bare.whole(0, 60, -60, 0);
        due(bare.enough(0, 60, -60), -1);
        due(told("s1,0").enough(0, 0, 0), -1);
        sentence = "23: one, two, three TRIALS; -2: six do not do";
        StoneThatShakes one = told("s1,0;h0,1,0,9");
        one.whole(0, -3, 0, 0);
        one.drop();
        one.much(0, 1, 1);
        // (-1, 0), (0, -1), (0, 1), (1, 0): x alone can be told, |y| never.
        due(one.enough(0, -1, 0), 1);
        row(one, 1);
        due(one.enough(0, 1, 0), 1);
        row(one, 1);
        one.feel(0, 0);
        due(one.enough(0, 0, 1), -2);
        row(one, 0, 0, 0);
        StoneThatShakes three = told("s1,0;h0,-2,0,9;h0,0,1,9");
        due(three.enough(0, 4, 29), 3);
        row(three, 24, 2, 1);
        StoneThatShakes never = told("s1,0;h0,0,0,9");
        due(never.enough(0, 0, 0), 1);
        row(never, 1);
        due(never.enough(0, 0, 1), -2);
        row(never, 1);
        sentence = "23: a SPEED's FACTOR, CROSS 0: nothing can be told";
        StoneThatShakes blind = told("s1,0;h0,1,0,9");
        blind.cross(0, 0, 0);
        due(blind.enough(0, 0, 0), -2);
        sentence = "23: nothing changes";
        due(three.count(3), 0);
        due(three.count(5), -1);
        due(three.count(4), 0);
        due(three.which(), 14641);
    }

    // ---- 24 .. 26

    private static void men() {
        sentence = "24: UP by LOW, 1 .. 99 each";
        StoneThatShakes s = told("s1,0");
        s.truly(0, 9999, -9999);
        int[][] feel = {{1, 99, 101, -101}, {99, 1, 989901, -989901}, {99, 99, 9999, -9999}, {1, 1, 9999, -9999},
            {98, 99, 9898, -9898}, {1, 98, 102, -102}};
        for (int[] f : feel) {
            for (int man = 0; man < 3; man++) {
                due(s.man(man, f[0], f[1]), true);
                due(s.tells(man, 0), 0);
                row(s, f[2], f[3]);
            }
        }
        due(s.man(1, 0, 1), false);
        due(s.man(1, 1, 0), false);
        due(s.man(1, 100, 1), false);
        due(s.man(1, 1, 100), false);
        due(s.man(3, 1, 1), false);
        due(s.man(-1, 1, 1), false);
        sentence = "25: each number times UP by LOW, cut";
        s.truly(0, 5, -5);
        s.man(0, 1, 2);
        s.man(1, 1, 6);
        s.man(2, 2, 3);
        due(s.tells(0, 0), 0);
        row(s, 2, -2);
        due(s.tells(1, 0), 0);
        row(s, 0, 0);
        due(s.tells(2, 0), 0);
        row(s, 3, -3);
        sentence = "25: multiplied first, then cut";
        s.man(2, 99, 2);
        due(s.tells(2, 0), 0);
        row(s, 247, -247);
        sentence = "26: in both numbers no farther than give; the nearest of all, also beyond give";
        StoneThatShakes t = told("s1,0");
        t.truly(0, 12, 24);
        t.man(1, 1, 2);
        t.man(2, 1, 3);
        // (12, 24), (6, 12), (4, 8).
        due(t.men(0, 6, 12, 0), 2);
        row(t, 1, 0);
        due(t.men(0, 6, 12, 3), 2);
        due(t.men(0, 6, 12, 4), 6);
        due(t.men(0, 6, 12, 11), 6);
        due(t.men(0, 6, 12, 12), 7);
        row(t, 1, 0);
        due(t.men(0, 5, 10, 1), 0);
        row(t, 1, 5);
        due(t.men(0, 5, 10, 2), 6);
        row(t, 1, 5);
        due(t.men(0, -1000, 8, 999), 0);
        row(t, 2, 1004L * 1004);
        due(t.men(0, 4, 8 + 1000, 999), 3);
        row(t, 0, 64 + 984 * 984);
        due(t.men(0, 4, 8 + 999, 999), 7);
        due(t.men(0, 1011, 24, 999), 1);
        due(t.men(0, 1012, 24, 999), 0);
        sentence = "26: of equal ones the first";
        due(t.men(0, 9, 18, 0), 0);
        row(t, 0, 45);
        t.man(0, 1, 3);
        due(t.men(0, 4, 8, 0), 5);
        row(t, 0, 0);
        due(t.men(0, 5, 10, 0), 0);
        row(t, 0, 5);
        due(t.men(1, 0, 0, 0), -1);
        due(t.men(0, 0, 0, -1), -1);
        due(t.men(0, 0, 0, 1000), -1);
        row(t, 0, 5);
    }

    // ---- 27 .. 34

    private static void rests() {
        sentence = "27: PULL as THOUGHT, and LEAD of HOLES of the PLANE, THE POUND left out";
        StoneThatShakes s = told("h0,99,0,9;h0,0,-99,9;h1,1,1,9");
        due(s.rest(0), 0);
        s.think(0, -9999, 9999);
        due(s.rest(0), 2L * 9999 * 9999);
        s.lead(0, 9);
        s.lead(1, 9);
        s.lead(2, 9);
        s.pound(0, 20);
        s.truly(0, 5, 5);
        s.cross(0, 0, 9);
        due(s.rest(0), 2L * 9108 * 9108);
        due(s.rest(1), 162);
        due(s.rest(-1), -1);
        due(s.rest(2), -1);
    }

    private static void bests() {
        sentence = "28: at most k HOLES, 1 .. 3";
        StoneThatShakes s = told("h0,1,0,1;h0,0,1,1;h0,-1,0,1;h0,0,-1,1");
        s.think(0, -1, -1);
        due(s.best(0, 1), 1);
        row(s, 0, 1, 0, 0);
        due(s.best(0, 2), 0);
        row(s, 1, 1, 0, 0);
        due(s.best(0, 3), 0);
        row(s, 1, 1, 0, 0);
        due(s.best(0, 0), -1);
        due(s.best(0, 4), -1);
        sentence = "28: three HOLES, more would do better";
        StoneThatShakes t = told("h0,1,0,1;h0,1,0,1;h0,1,0,1;h0,1,0,1");
        t.think(0, -4, 0);
        due(t.best(0, 3), 1);
        row(t, 0, 1, 1, 1);
        due(t.best(0, 2), 4);
        row(t, 0, 0, 1, 1);
        due(t.best(0, 1), 9);
        row(t, 0, 0, 0, 1);
        sentence = "28: each 0 .. what ROOM it has left";
        StoneThatShakes u = told("h0,2,0,9;h0,1,0,0;h0,1,0,3");
        u.think(0, -18, 0);
        due(u.best(0, 1), 0);
        row(u, 9, 0, 0);
        u.think(0, -20, 0);
        due(u.best(0, 1), 4);
        row(u, 9, 0, 0);
        due(u.best(0, 2), 0);
        row(u, 9, 0, 2);
        u.lead(0, 1);
        u.think(0, -20, 0);
        due(u.best(0, 1), 4);
        row(u, 8, 0, 0);
        u.lead(0, 9);
        u.lead(2, 3);
        due(u.best(0, 3), 1);
        row(u, 0, 0, 0);
        u.think(0, -200, 0);
        due(u.best(0, 3), 179 * 179);
        row(u, 0, 0, 0);
        sentence = "28: of equal ones the fewest ounces, then the least row";
        StoneThatShakes v = told("h0,2,0,9;h0,-1,0,9;h0,1,0,9;h0,3,0,9;h0,3,0,9");
        v.think(0, -6, 0);
        due(v.best(0, 3), 0);
        row(v, 0, 0, 0, 0, 2);
        v.think(0, -5, 0);
        due(v.best(0, 2), 0);
        row(v, 1, 0, 0, 0, 1);
        due(v.best(0, 1), 0);
        row(v, 0, 0, 5, 0, 0);
        v.think(0, 1, 0);
        due(v.best(0, 3), 0);
        row(v, 0, 1, 0, 0, 0);
        v.think(0, 0, 0);
        due(v.best(0, 3), 0);
        row(v, 0, 0, 0, 0, 0);
        sentence = "28: just between two: the fewer ounces";
        StoneThatShakes w = told("h0,2,0,9");
        w.think(0, -5, 0);
        due(w.best(0, 1), 1);
        row(w, 2);
        w.think(0, -1, 0);
        due(w.best(0, 1), 1);
        row(w, 0);
        sentence = "28: no HOLE, 16 HOLES of the PLANE";
        StoneThatShakes none = told("h1,1,1,9");
        none.think(0, 1, 1);
        due(none.best(0, 1), 2);
        row(none);
        String four = "h1,1,0,1;h1,0,1,1;h1,-1,0,1;h1,0,-1,1";
        StoneThatShakes full = told(four, four, four, "h1,1,0,1;h1,0,1,1;h1,-1,0,1;h1,9,9,1");
        full.think(1, -9, -9);
        due(full.best(1, 3), 0);
        row(full, 0, 0, 0, 0, 0, 0, 0, 0, 0, 0, 0, 0, 0, 0, 0, 1);
        full.think(1, -10, -10);
        due(full.best(1, 3), 0);
        row(full, 0, 0, 0, 0, 0, 0, 0, 0, 0, 0, 0, 0, 1, 1, 0, 1);
    }

    private static void drilled() {
        sentence = "29: of each 0 .. what it HAS and DEEP together";
        StoneThatShakes s = told("h0,1,0,9;h0,0,1,9;h1,1,0,9;h0,1,0,0");
        s.lead(0, 9);
        s.deep(0, 9);
        s.think(0, 9, 0);
        due(s.off(0, 1), 0);
        row(s, 18, 0, 0);
        s.think(0, 10, 0);
        due(s.off(0, 1), 1);
        row(s, 18, 0, 0);
        s.deep(0, 8);
        due(s.off(0, 3), 4);
        row(s, 17, 0, 0);
        s.deep(3, 1);
        due(s.off(0, 1), 4);
        row(s, 17, 0, 0);
        due(s.off(0, 2), 1);
        row(s, 17, 0, 1);
        s.deep(0, 0);
        s.deep(3, 0);
        s.lead(0, 0);
        due(s.off(0, 3), 100);
        row(s, 0, 0, 0);
        sentence = "29: at most k HOLES, 1 .. 3; of equal ones the fewest ounces, then the least row";
        StoneThatShakes t = told("h0,1,0,1;h0,1,0,1;h0,1,0,1;h0,1,0,1");
        t.sheet(2, 4, 1, 0);
        due(t.off(0, 1), 9);
        row(t, 0, 0, 0, 1);
        due(t.off(0, 2), 4);
        row(t, 0, 0, 1, 1);
        due(t.off(0, 3), 1);
        row(t, 0, 1, 1, 1);
        due(t.off(0, 0), -1);
        due(t.off(0, 4), -1);
        due(t.count(4), 4);
        sentence = "29: no HOLE";
        due(t.off(1, 1), 0);
        row(t);
    }

    private static void insteads() {
        sentence = "30: either in each HOLE: -(HAS and DEEP) .. ROOM left";
        StoneThatShakes s = told("h0,1,0,5;h0,0,1,9");
        s.lead(0, 2);
        s.deep(0, 3);
        int[][] cases = {{-5, 0, 3}, {-6, 1, 3}, {3, 0, -5}, {4, 1, -5}, {-2, 0, 0}, {-3, 0, 1}, {-1, 0, -1}};
        for (int[] c : cases) {
            s.think(0, c[0], 0);
            due(s.instead(0, 1), c[1]);
            row(s, c[2], 0);
        }
        sentence = "30: at most 2 HOLES (k 1, 2)";
        StoneThatShakes t = told("h0,1,0,1;h0,1,0,1;h0,1,0,1");
        t.think(0, -3, 0);
        due(t.instead(0, 1), 4);
        row(t, 0, 0, 1);
        due(t.instead(0, 2), 1);
        row(t, 0, 1, 1);
        due(t.instead(0, 3), -1);
        due(t.instead(0, 0), -1);
        sentence = "30: fewest: by their sizes; the least row, by its numbers";
        StoneThatShakes u = told("h0,1,0,9;h0,-1,0,9;h0,2,0,9");
        u.lead(0, 5);
        u.lead(1, 5);
        u.lead(2, 5);
        u.think(0, -10, 0);
        due(u.instead(0, 2), 0);
        row(u, 0, 0, 0);
        u.think(0, -9, 0);
        due(u.instead(0, 2), 0);
        row(u, -1, 0, 0);
        u.think(0, -11, 0);
        due(u.instead(0, 2), 0);
        row(u, 0, -1, 0);
        u.think(0, -12, 0);
        due(u.instead(0, 2), 0);
        row(u, 0, 0, 1);
        u.think(0, -13, 0);
        due(u.instead(0, 2), 0);
        row(u, 0, -1, 1);
        u.think(0, -7, 0);
        due(u.instead(0, 2), 0);
        row(u, -1, 0, -1);
        sentence = "30: just between two: the fewer ounces, put or taken";
        StoneThatShakes v = told("h0,2,0,9");
        v.lead(0, 4);
        int[][] between = {{-9, 1, 0}, {-7, 1, 0}, {-11, 1, 1}, {-5, 1, -1}};
        for (int[] b : between) {
            v.think(0, b[0], 0);
            due(v.instead(0, 1), b[1]);
            row(v, b[2]);
        }
        due(v.instead(1, 2), 0);
        row(v);
    }

    private static void fewests() {
        sentence = "31: 0 .. 3 HOLES; -2: three do not do; at most bound";
        StoneThatShakes s = told("h0,1,0,1;h0,1,0,1;h0,1,0,1;h0,1,0,1");
        s.think(0, -5, 0);
        int[] bounds = {25, 16, 9, 4};
        for (int k = 0; k <= 3; k++) {
            due(s.fewest(0, bounds[k]), k);
            row(s, k > 3 ? 1 : 0, k > 2 ? 1 : 0, k > 1 ? 1 : 0, k > 0 ? 1 : 0);
            due(s.fewest(0, bounds[k] - 1), k < 3 ? k + 1 : -2);
            due(s.fewest(0, bounds[k] + 1), k);
        }
        due(s.fewest(0, 3), -2);
        due(s.fewest(0, 0), -2);
        sentence = "31: NONE: others (bound below 0)";
        due(s.fewest(0, -1), -1);
        due(s.fewest(0, Long.MIN_VALUE), -1);
        due(s.fewest(2, 5), -1);
        due(s.fewest(-1, 5), -1);
        row(s, 0, 1, 1, 1);
        due(s.fewest(0, Long.MAX_VALUE), 0);
        row(s, 0, 0, 0, 0);
        sentence = "31: the ROW as best() with so many, though fewer ounces would do";
        s.think(0, -1, 0);
        due(s.fewest(0, 0), 1);
        row(s, 0, 0, 0, 1);
        StoneThatShakes t = told("h0,1,0,9");
        t.think(0, -9, 0);
        due(t.fewest(0, 80), 1);
        row(t, 9);
        due(t.fewest(0, 81), 0);
        row(t, 0);
        sentence = "31: no HOLE";
        t.think(1, 1, 1);
        due(t.fewest(1, 2), 0);
        row(t);
        due(t.fewest(1, 1), -2);
    }

    private static void alls() {
        sentence = "32: w 1 .. 9, into those that have room for them";
        StoneThatShakes s = told("h0,1,0,9;h0,1,0,8;h1,1,0,9;h0,1,0,1;h0,1,0,0");
        s.think(0, -900, 0);
        for (int w = 1; w <= 9; w++) {
            int fit = w == 1 ? 3 : w < 9 ? 2 : 1;
            due(s.all(0, w), (900L - fit * w) * (900 - fit * w));
            row(s, w == 1 ? 11 : w < 9 ? 3 : 1);
        }
        due(s.all(0, 0), -1);
        due(s.all(0, 10), -1);
        s.lead(0, 1);
        due(s.all(0, 9), 899 * 899);
        row(s, 0);
        due(s.all(0, 8), (899 - 16) * (899 - 16));
        row(s, 3);
        sentence = "32: of equal ones the fewest HOLES, then the least bits";
        StoneThatShakes t = told("h0,1,0,9;h0,1,0,9;h0,2,0,9;h0,0,0,9;h0,2,0,9");
        int[][] cases = {{0, 0}, {-1, 1}, {-2, 4}, {-3, 5}, {-4, 20}, {-5, 21}, {-6, 23}};
        for (int[] c : cases) {
            t.think(0, c[0], 0);
            due(t.all(0, 1), 0);
            row(t, c[1]);
        }
        sentence = "32: no HOLE, 16 HOLES";
        t.think(1, 3, 4);
        due(t.all(1, 1), 25);
        row(t, 0);
        String four = "h1,1,0,9;h1,1,0,9;h1,1,0,9;h1,1,0,9";
        StoneThatShakes full = told(four, four, four, four);
        for (int many = 0; many <= 16; many++) {
            full.think(1, -9 * many, 0);
            due(full.all(1, 9), 0);
            row(full, (1 << many) - 1);
        }
    }

    private static void ounces() {
        sentence = "33: one more into one with room";
        StoneThatShakes s = told("h0,3,0,0;h0,2,0,1;h0,1,0,9");
        s.think(0, -9, 0);
        due(s.ounce(0, 0), 1);
        row(s, 49 - 81);
        s.lead(1, 1);
        due(s.ounce(0, 0), 2);
        row(s, 36 - 49);
        s.lead(2, 8);
        due(s.ounce(0, 0), 2);
        row(s, 4 - 1);
        s.lead(2, 9);
        due(s.ounce(0, 0), -2);
        row(s, 4 - 1);
        sentence = "33: one less out of one that HAS some; DEEP does not count";
        due(s.ounce(0, 1), 1);
        row(s, 0 - 4);
        s.lead(1, 0);
        due(s.ounce(0, 1), 2);
        row(s, 1);
        s.lead(2, 1);
        due(s.ounce(0, 1), 2);
        row(s, 81 - 64);
        s.lead(2, 0);
        s.deep(2, 9);
        due(s.ounce(0, 1), -2);
        row(s, 81 - 64);
        sentence = "33: of equal ones the first; -2: none";
        StoneThatShakes t = told("h1,5,0,9;h0,0,1,9;h0,0,-1,9;h0,1,0,9");
        due(t.ounce(0, 0), 1);
        row(t, 1);
        t.think(0, 0, 1);
        due(t.ounce(0, 0), 2);
        row(t, -1);
        t.sheet(2, 4, 1, 0);
        t.think(0, -1, 0);
        due(t.ounce(0, 1), 1);
        row(t, 1);
        StoneThatShakes none = told("h1,5,0,9");
        none.feel(0, 0);
        due(none.ounce(0, 0), -2);
        due(none.ounce(0, 1), -2);
        due(none.ounce(1, 1), -2);
        due(none.ounce(1, 0), 0);
        row(none, 25);
    }

    private static void settled() {
        sentence = "34: while REST becomes less; none";
        StoneThatShakes s = told("h0,2,0,9;h1,1,0,9");
        due(s.settle(0), 0);
        s.think(0, -1, 0);
        due(s.settle(0), 0);
        s.think(0, 1, 0);
        s.lead(0, 1);
        s.think(0, -1, 0);
        due(s.settle(0), 0);
        due(s.hole(0, 4), 1);
        s.think(0, -4, 0);
        due(s.settle(0), 1);
        due(s.hole(0, 4), 2);
        due(s.settle(-1), -1);
        due(s.settle(2), -1);
        due(told("h1,1,0,9").settle(0), 0);
        sentence = "34: of equal ones 0: an ounce more";
        StoneThatShakes t = told("h0,1,0,9;h0,-1,0,9");
        t.lead(0, 5);
        t.think(0, -1, 0);
        due(t.settle(0), 4);
        has(t, 5, 4);
        t.think(0, 5, 0);
        due(t.settle(0), 6);
        has(t, 4, 9);
        StoneThatShakes u = told("h0,1,0,9;h0,-1,0,9");
        u.lead(1, 9);
        u.think(0, 4, 0);
        due(u.settle(0), 5);
        has(u, 5, 9);
        sentence = "34: none can be put, none can be taken";
        StoneThatShakes full = told("h0,1,0,2;h0,-1,0,0");
        full.lead(0, 2);
        full.think(0, -9, 0);
        due(full.settle(0), 0);
        full.think(0, 9, 0);
        due(full.settle(0), 2);
        has(full, 0, 0);
        due(full.settle(0), 0);
        full.think(0, -1, 0);
        due(full.settle(0), 1);
        has(full, 1, 0);
    }

    /** 216 ounces in and out make REST less, one by one: beyond the 200 that are done in one call. */
    private static StoneThatShakes longWay() {
        StoneThatShakes s = told("h0,40,22,9;h0,40,22,9;h0,40,22,9;h0,40,22,9;h0,40,22,9",
                "h0,40,22,9;h0,40,22,9;h0,48,27,9;h0,48,27,9;h0,48,27,9", "h0,48,27,9;h0,40,22,9;h0,48,27,9;h0,48,27,9",
                "h0,75,53,9;h0,75,53,9");
        due(s.sheet(2, 16, 9, 0), 144);
        s.think(0, -923, -7727);
        return s;
    }

    private static void settledTwoHundred() {
        sentence = "34: at most 200";
        StoneThatShakes s = longWay();
        due(s.settle(0), 200);
        due(s.settle(0), 16);
        due(s.settle(0), 0);
        for (int before = 15; before <= 17; before++) {
            StoneThatShakes t = longWay();
            for (int i = 0; i < before; i++) {
                ounceByHand(t);
            }
            due(t.settle(0), Math.min(200, 216 - before));
            due(t.settle(0), Math.max(0, 16 - before));
            due(t.rest(0), s.rest(0));
        }
    }

    private static void ounceByHand(StoneThatShakes s) {
        int into = s.ounce(0, 0);
        long byInto = into < 0 ? 0 : s.row(0);
        int out = s.ounce(0, 1);
        long byOut = out < 0 ? 0 : s.row(0);
        if (byInto <= byOut) {
            s.lead(into, s.hole(into, 4) + 1);
        } else {
            s.lead(out, s.hole(out, 4) - 1);
        }
    }

    // ---- 35 .. 38

    private static void boths() {
        sentence = "35: -2: CROSSES do not part them (c00 c11 is c01 c10)";
        StoneThatShakes s = told("h0,1,0,9;h1,0,1,9;s9,9");
        int[][] same = {{0, 0, 0, 0}, {1, 1, 1, 1}, {2, 4, 3, 6}, {0, 5, 0, 5}, {0, 0, 5, 5}, {-9, 9, 9, -9},
            {9, 1, 9, 1}, {4, -6, -6, 9}};
        s.feel(0, 0);
        for (int[] c : same) {
            crosses(s, c);
            due(s.both(0, 1, 2, 3, 4), -2);
            row(s, 0, 0, 0);
        }
        int[][] apart = {{0, 1, 1, 0}, {9, 9, 9, -9}, {-9, 0, 0, 9}, {2, 4, 3, 7}};
        for (int[] c : apart) {
            crosses(s, c);
            due(s.both(0, 1, 2, 3, 4), 0);
            due(s.count(7), 8);
        }
        sentence = "35: NONE first: others";
        crosses(s, new int[] {1, 1, 1, 1});
        due(s.both(1, 1, 2, 3, 4), -1);
        due(s.both(0, 100000, 2, 3, 4), -1);
        due(s.both(0, 1, -100000, 3, 4), -1);
        due(s.both(0, 1, 2, 100000, 4), -1);
        due(s.both(0, 1, 2, 3, -100000), -1);
        sentence = "35: fractions in lowest terms, the upper below 0, 0 by 1";
        crosses(s, new int[] {1, 0, 0, 1});
        due(s.both(0, 0, -3, 12, -9), 0);
        row(s, 0, 1, -1, 3, 4, 3, -1, 1);
        crosses(s, new int[] {-1, 0, 0, -1});
        due(s.both(0, 0, -3, 12, -9), 0);
        row(s, 0, 1, 1, 3, -4, 3, 1, 1);
        crosses(s, new int[] {0, 1, -1, 0});
        // FELT at 0 is 9 PULL 1, FELT at 1 is -9 PULL 0.
        due(s.both(0, 6, 18, 6, 0), 0);
        row(s, -2, 3, 0, 1, 2, 3, 2, 1);
        sentence = "35: NEXT, FLOOR as THOUGHT, LEADS as they are (with THE POUND)";
        crosses(s, new int[] {1, 0, 0, 1});
        s.truly(2, 50, 50);
        s.truly(3, 50, 50);
        s.think(0, 77, 77);
        s.think(2, 1, 0);
        s.think(3, 0, 2);
        s.lead(0, 4);
        s.lead(1, 9);
        s.pound(1, 20);
        due(s.both(0, 9, 2, 9, 2), 0);
        row(s, -4, 1, 0, 1, 0, 1, -29, 1);
        sentence = "35: LEADS of both PLANES, x and y";
        StoneThatShakes t = told("h0,1,2,9;h1,3,4,9;s2,0");
        t.lead(0, 2);
        t.lead(1, 3);
        t.pound(1, 1);
        due(t.both(0, 20, 40, 60, 80), 0);
        row(t, 8, 1, 16, 1, 18, 1, 24, 1);
        sentence = "35: the greatest numbers";
        crosses(s, new int[] {9, 9, 9, -9});
        due(s.both(0, 99999, -99999, -99999, 99999), 0);
        // 81 times (PULL and LEAD) of both is (99990, -100001), of the one less the other (-100008, 99997).
        row(s, -37, 9, -2, 81, 11111, 9, -11372, 9);
    }

    private static void crosses(StoneThatShakes s, int[] c) {
        s.cross(0, 0, c[0]);
        s.cross(0, 1, c[1]);
        s.cross(1, 0, c[2]);
        s.cross(1, 1, c[3]);
    }

    private static void twos() {
        sentence = "36: at most two HOLES of any PLANES";
        StoneThatShakes s = told("h0,1,0,1;h1,1,0,1;h0,0,1,1;h1,0,1,1;s1,0");
        s.think(0, -1, -1);
        s.think(1, -1, -1);
        due(s.two(0), 2);
        row(s, 0, 0, 1, 1);
        s.think(1, 0, 0);
        due(s.two(0), 0);
        row(s, 1, 0, 1, 0);
        s.think(0, 0, 0);
        due(s.two(0), 0);
        row(s, 0, 0, 0, 0);
        s.think(1, 0, -1);
        due(s.two(0), 0);
        row(s, 0, 0, 0, 1);
        sentence = "36: 0 .. ROOM left, THE POUND left out, as THOUGHT";
        StoneThatShakes t = told("h0,1,0,9;h1,1,0,0;s2,0");
        t.lead(0, 3);
        t.pound(0, 20);
        t.truly(0, 50, 50);
        t.think(0, -9, 0);
        due(t.two(0), 0);
        row(t, 6, 0);
        t.think(0, -10, 0);
        due(t.two(0), 4);
        row(t, 6, 0);
        sentence = "36: both bearings summed";
        t.think(0, -9, 0);
        t.cross(1, 0, 1);
        t.think(3, -2, 0);
        // 2 (w - 6) - 2 at both bearings.
        due(t.two(0), 8);
        row(t, 6, 0);
        t.think(0, -8, 0);
        due(t.two(0), 0);
        row(t, 6, 0);
        sentence = "36: no HOLE, 16 HOLES; NONE: others";
        StoneThatShakes none = told("s1,1");
        none.think(2, 3, 4);
        due(none.two(0), 50);
        row(none);
        due(none.two(1), -1);
        due(none.two(-1), -1);
        String four = "h1,1,0,9;h0,1,0,9;h1,1,0,9;h0,1,0,9";
        StoneThatShakes full = told(four, four, four, four, "s1,0");
        full.think(0, -18, 0);
        due(full.two(0), 0);
        row(full, 0, 0, 0, 0, 0, 0, 0, 0, 0, 0, 0, 0, 0, 9, 0, 9);
        full.think(0, -19, 0);
        due(full.two(0), 1);
        row(full, 0, 0, 0, 0, 0, 0, 0, 0, 0, 0, 0, 0, 0, 9, 0, 9);
    }

    private static void worsts() {
        sentence = "38: -2: no SPEEDS";
        StoneThatShakes s = told("h0,1,0,9;h1,1,0,9;h0,0,1,2");
        s.feel(0, 0);
        due(s.worst(), -2);
        due(s.at(0, 1, 1), false);
        sentence = "38: one SPEED; PULL as at(), else as THOUGHT; at most two HOLES of PLANE 0";
        mill(s, "s1,9");
        s.think(0, -9, -2);
        s.think(2, 99, 99);
        s.think(3, 99, 99);
        s.cross(0, 0, 5);
        s.pound(0, 20);
        due(s.worst(), 0);
        row(s, 9, 2);
        due(s.at(0, -10, -3), true);
        due(s.worst(), 2);
        row(s, 9, 2);
        due(s.rest(0), 85);
        s.lead(0, 8);
        due(s.worst(), 2);
        row(s, 1, 2);
        sentence = "37: -9999 .. 9999 each";
        due(s.at(0, 9999, -9999), true);
        due(s.worst(), 10007L * 10007 + 9997L * 9997);
        row(s, 0, 2);
        due(s.at(0, 10000, 0), false);
        due(s.at(0, -10000, 0), false);
        due(s.at(0, 0, 10000), false);
        due(s.at(0, 0, -10000), false);
        due(s.at(1, 0, 0), false);
        due(s.at(-1, 0, 0), false);
        due(s.worst(), 10007L * 10007 + 9997L * 9997);
        sentence = "38: the greatest over SPEEDS is the least, six of them";
        StoneThatShakes t = told("s1,0;s1,0;s1,0;s1,0;s1,0;s2,0", "h0,1,0,9;h0,0,1,9;h0,1,1,9");
        t.think(0, -3, 0);
        due(t.at(5, -5, 0), true);
        // w - 3 five times, 2 (w - 5) the last.
        due(t.worst(), 4);
        row(t, 4, 0, 0);
        due(t.at(0, -3, -6), true);
        // (4, 2) leaves 1 + 16, 1 + 4, 4 + 16.
        due(t.worst(), 20);
        row(t, 2, 0, 2);
        sentence = "38: of equal ones the fewest ounces, then the least row; three HOLES would do better";
        StoneThatShakes u = told("s1,0;h0,1,0,1;h0,1,0,1;h0,1,0,1;h0,0,5,1");
        u.think(0, -3, 0);
        due(u.worst(), 1);
        row(u, 0, 1, 1, 0);
        u.think(0, -1, 0);
        due(u.worst(), 0);
        row(u, 0, 0, 1, 0);
        u.think(0, 0, 0);
        due(u.worst(), 0);
        row(u, 0, 0, 0, 0);
        sentence = "38: no HOLE of PLANE 0";
        StoneThatShakes none = told("s3,0;h1,1,1,9");
        none.think(0, 1, 0);
        due(none.worst(), 9);
        row(none);
    }

    // ---- 39 .. 42

    private static void floors() {
        sentence = "39: -2: FACTORS alike, whatever OTHER is; NONE: others";
        StoneThatShakes s = told("s1,0;s9,0;s9,5");
        s.feel(0, 0);
        due(s.floor(1, code(1, 1), 2, code(2, 2)), -2);
        due(s.floor(2, code(1, 1), 1, code(2, 2)), -2);
        due(s.floor(0, code(1, 1), 0, code(2, 2)), -2);
        due(s.floor(1, -1, 2, code(2, 2)), -1);
        due(s.floor(1, code(1, 1), 2, -1), -1);
        due(s.floor(0, code(1, 1), 3, code(2, 2)), -1);
        due(s.floor(-1, code(1, 1), 0, code(2, 2)), -1);
        row(s, 0, 0, 0);
        sentence = "39: -99999 .. 99999 each: 200000 times (x + 100000), and y + 100000 more";
        long[] edges = {-99999, 99999};
        for (long x : edges) {
            for (long y : edges) {
                due(s.floor(0, code(x, y), 1, code(x, y)), 0);
                row(s, 0, 1, 0, 1, x, 1, y, 1);
                due(s.floor(0, code(0, 0), 1, code(x, y)), 0);
                fractions(s, x, 8, y, 8, -x, 8, -y, 8);
                due(s.floor(1, code(x, y), 0, code(-x, -y)), 0);
                fractions(s, 2 * x, 8, 2 * y, 8, -9 * x - x, 8, -9 * y - y, 8);
            }
        }
        due(s.floor(0, 200001, 1, 40000000000L - 1), 0);
        fractions(s, 2 * 99999, 8, 2 * 99999, 8, -10 * 99999, 8, -10 * 99999, 8);
        for (long bad : new long[] {200000, 199999, 400000, 40000000000L, 40000000001L, 39999800000L, 0, 1, -200001}) {
            due(s.floor(0, bad, 1, code(0, 0)), -1);
            due(s.floor(0, code(0, 0), 1, bad), -1);
        }
        sentence = "39: FELT as FACTOR times one POINT and another one; 0 by 1";
        due(s.floor(0, code(0, 0), 1, code(0, 0)), 0);
        row(s, 0, 1, 0, 1, 0, 1, 0, 1);
        due(s.floor(0, code(5, 0), 1, code(5, 4)), 0);
        row(s, 0, 1, 1, 2, 5, 1, -1, 2);
        due(s.floor(1, code(5, 4), 0, code(5, 0)), 0);
        row(s, 0, 1, 1, 2, 5, 1, -1, 2);
    }

    private static void whoses() {
        sentence = "40: NONE: others (unlike SPEEDS), first; -2: they do not part them";
        StoneThatShakes s = told("s1,0;s2,1;s3,2;s1,0;s4,9;s1,5");
        long p = code(1, 2);
        s.feel(0, 0);
        due(s.whose(0, 0, 1, p, p, p), -1);
        due(s.whose(0, 1, 0, p, p, p), -1);
        due(s.whose(1, 0, 0, p, p, p), -1);
        due(s.whose(0, 0, 0, p, p, p), -1);
        due(s.whose(0, 1, 6, p, p, p), -1);
        due(s.whose(0, -1, 2, p, p, p), -1);
        due(s.whose(6, 1, 2, p, p, p), -1);
        due(s.whose(0, 1, 2, 0, p, p), -1);
        due(s.whose(0, 1, 2, p, 0, p), -1);
        due(s.whose(0, 1, 2, p, p, 0), -1);
        due(s.whose(0, 1, 2, p, p, p), -2);
        due(s.whose(0, 3, 4, p, p, p), -2);
        due(s.whose(0, 3, 5, p, p, p), -2);
        row(s, 0, 0, 0);
        sentence = "40: the three x, then the three y";
        // One (2, -4), the next stone's (-1, 3), the floor's (10, 20): at 1, 0; 2, 1; 4, 9; 1, 5.
        long a = code(2 + 10, -4 + 20);
        long b = code(4 - 1 + 10, -8 + 3 + 20);
        long c = code(8 - 9 + 10, -16 + 27 + 20);
        long d = code(2 - 5 + 10, -4 + 15 + 20);
        int[][] orders = {{0, 1, 4}, {4, 1, 0}, {1, 5, 4}, {5, 0, 1}};
        for (int[] o : orders) {
            due(s.whose(o[0], o[1], o[2], at(o[0], a, b, c, d), at(o[1], a, b, c, d), at(o[2], a, b, c, d)), 0);
            row(s, 2, 1, -1, 1, 10, 1, -4, 1, 3, 1, 20, 1);
        }
        sentence = "40: 0 by 1, and the greatest numbers";
        long zero = code(0, 0);
        due(s.whose(0, 1, 4, zero, zero, zero), 0);
        row(s, 0, 1, 0, 1, 0, 1, 0, 1, 0, 1, 0, 1);
        long far = code(99999, -99999);
        due(s.whose(0, 1, 4, far, far, far), 0);
        row(s, 0, 1, 0, 1, 99999, 1, 0, 1, 0, 1, -99999, 1);
        long near = code(-99999, 99999);
        // FACTORS 1, 2, 4, OTHERS 0, 1, 9: 1 by 9 less 3 by 1 is 6.
        due(s.whose(0, 1, 4, far, near, far), 0);
        fractions(s, -199998L * 9, 6, 3 * 199998L, 6, 99999 * 6 + 199998L * 9, 6,
                199998L * 9, 6, -3 * 199998L, 6, -99999 * 6 - 199998L * 9, 6);
    }

    private static long at(int speed, long a, long b, long c, long d) {
        return speed == 0 ? a : speed == 1 ? b : speed == 4 ? c : d;
    }

    private static long code(long x, long y) {
        return 200000 * (x + 100000) + y + 100000;
    }

    /** The ROW, told as fractions that may stand higher than in lowest terms. */
    private static void fractions(StoneThatShakes s, long... want) {
        long[] low = want.clone();
        for (int i = 0; i < low.length; i += 2) {
            long divisor = BigInteger.valueOf(low[i]).gcd(BigInteger.valueOf(low[i + 1])).longValue();
            low[i] /= divisor;
            low[i + 1] /= divisor;
        }
        row(s, low);
    }

    private static void parts() {
        sentence = "41: SIZES of four parts, the greatest; of equal ones the first; NONE: none such";
        StoneThatShakes s = told("h0,1,0,9;h1,0,1,9;s1,1;s3,2");
        due(s.part(0), 0);
        row(s, 0, 0, 0, 0);
        for (int what = 0; what < 4; what++) {
            StoneThatShakes t = told("s1,1");
            t.cross(0, 1, 1);
            for (int w = 3; w >= what; w--) {
                t.truly(w, 0, w % 2 == 0 ? 5 : -5);
            }
            due(t.part(0), what);
            row(t, what > 0 ? 0 : 25, what > 1 ? 0 : 25, what > 2 ? 0 : 25, 25);
        }
        sentence = "41: FACTOR and CROSS in them, LEAD with THE POUND, at bearing 0, TRULY";
        s.truly(0, 1, 0);
        s.truly(1, 0, 1);
        s.truly(2, 1, 1);
        s.truly(3, 3, 4);
        s.think(0, 99, 99);
        s.lead(0, 9);
        s.lead(1, 2);
        s.pound(1, 3);
        s.cross(0, 0, -2);
        s.cross(0, 1, 4);
        s.cross(1, 0, 9);
        due(s.part(1), 1);
        row(s, 36 * 100, 144 * 36, 8, 25);
        due(s.part(2), -1);
        due(s.part(-1), -1);
        row(s, 36 * 100, 144 * 36, 8, 25);
    }

    private static void filling() {
        sentence = "42: minute 0: now; -2: it never is, till all are full; at bound it is not above";
        StoneThatShakes s = told("h0,1,0,2;h1,9,9,9;h0,1,0,0;h0,1,0,1");
        s.think(0, 2, 0);
        due(s.buckets(0, 0), 0);
        due(s.buckets(0, 3), 0);
        due(s.buckets(0, 4), 1);
        due(s.buckets(0, 8), 1);
        due(s.buckets(0, 9), 2);
        due(s.buckets(0, 15), 2);
        due(s.buckets(0, 16), 3);
        due(s.buckets(0, 24), 3);
        due(s.buckets(0, 25), -2);
        due(s.buckets(0, Long.MAX_VALUE), -2);
        sentence = "42: NONE: others (bound below 0)";
        due(s.buckets(0, -1), -1);
        due(s.buckets(0, Long.MIN_VALUE), -1);
        due(s.buckets(2, 0), -1);
        due(s.buckets(-1, 0), -1);
        sentence = "42: by number, round and round; one that has no room is gone by, without a minute";
        StoneThatShakes t = told("h0,0,0,3;h0,0,0,0;h0,0,0,1;h0,1,0,9;h0,0,0,2");
        t.lead(3, 8);
        // 0, 2, 3: the third minute; HOLE 1 has no ROOM.
        t.think(0, -8, 0);
        due(t.buckets(0, 0), 3);
        t.lead(3, 7);
        // 0, 2, 3, 4, 0, then 3: 2 is full.
        due(t.buckets(0, 0), 0);
        due(t.buckets(0, 1), -2);
        t.think(0, -7, 0);
        due(t.buckets(0, 0), 3);
        due(t.buckets(0, 1), 6);
        due(t.buckets(0, 3), 6);
        due(t.buckets(0, 4), -2);
        t.lead(2, 1);
        // 0, 3, 4, 0, 3.
        due(t.buckets(0, 1), 5);
        sentence = "42: nothing changes; THE POUND left out";
        has(t, 0, 0, 1, 7, 0);
        t.pound(3, 20);
        due(t.buckets(0, 1), 5);
        sentence = "42: by both numbers of a POINT";
        StoneThatShakes up = told("h0,0,1,3;h0,1,0,1");
        up.think(0, 0, 1);
        due(up.buckets(0, 3), 1);
        due(up.buckets(0, 4), 2);
        due(up.buckets(0, 5), 3);
        due(up.buckets(0, 10), 4);
        due(up.buckets(0, 17), -2);
        sentence = "42: no HOLE; all full; 144 minutes";
        due(t.buckets(1, 0), -2);
        t.think(1, 1, 0);
        due(t.buckets(1, 0), 0);
        due(t.buckets(1, 1), -2);
        String four = "h0,1,0,9;h0,1,0,9;h0,1,0,9;h0,1,0,9";
        StoneThatShakes full = told(four, four, four, four);
        due(full.buckets(0, 143 * 143), 144);
        due(full.buckets(0, 144 * 144), -2);
        for (int minute = 1; minute <= 144; minute++) {
            due(full.buckets(0, (minute - 1) * (minute - 1)), minute);
        }
        full.sheet(2, 16, 9, 0);
        due(full.buckets(0, 144 * 144 - 1), 0);
        due(full.buckets(0, 144 * 144), -2);
    }

    // ---- 43 .. 45

    private static void cogsAtHoles() {
        sentence = "43 .. 45: NONE: fewer HOLES than COGS, no COGS";
        StoneThatShakes s = new StoneThatShakes();
        s.which();
        noCogs(s);
        mill(s, "h0,1,0,0");
        noCogs(s);
        mill(s, "c5;c6");
        noCogs(s);
        row(s, -60, -60, 60, 60);
        sentence = "43: as many HOLES, or more, of whatever PLANE";
        mill(s, "h1,0,1,0");
        due(s.cogs(), 25 + 36);
        mill(s, "h0,99,99,9");
        due(s.cogs(), 25 + 36);
        s.lead(2, 9);
        due(s.cogs(), 61);
        row(s, -60, -60, 60, 60);
        sentence = "43 .. 45: 8 COGS";
        String four = "h0,99,99,9;h0,99,99,9;h0,99,99,9;h0,99,99,9";
        StoneThatShakes most = told(four, "c99;c99;c99;c99;c99;c99;c99;c99");
        noCogs(most);
        mill(most, "h0,99,99,9;h0,99,99,9;h0,99,99,9");
        noCogs(most);
        mill(most, "h1,99,99,9");
        long sum = 8 * 99 * 99;
        due(most.cogs(), 2 * sum * sum);
        due(most.order(), 2 * sum * sum);
        row(most, 0, 1, 2, 3, 4, 5, 6, 7);
        due(most.round(), 0);
        row(most, 0, 1, 2, 3, 4, 5, 6, 7, 2 * sum * sum);
        sentence = "43 .. 45: one COG; weights of 0";
        StoneThatShakes one = told("c0;h0,3,4,0");
        due(one.cogs(), 0);
        mill(one, "h0,99,99,0");
        due(one.order(), 0);
        row(one, 0);
        due(one.round(), 0);
        row(one, 0, 0);
    }

    private static void noCogs(StoneThatShakes s) {
        due(s.cogs(), -1);
        due(s.order(), -1);
        due(s.round(), -1);
    }

    private static void ordered() {
        sentence = "44: all COGS on HOLES 0, 1, .. (as many); of equal ones the least row";
        StoneThatShakes s = told("c3;c1;c2;h0,1,0,0;h0,-1,0,0;h0,0,0,0;h0,50,0,0");
        // |a - b| the least is 1: 2 and 1, 3 and 2, in either order.
        due(s.order(), 1);
        row(s, 0, 2, 1);
        StoneThatShakes t = told("c1;c2;c3;c4;h0,1,0,0;h0,1,0,0;h0,-1,0,0;h0,-1,0,0");
        due(t.order(), 0);
        row(t, 0, 3, 1, 2);
        StoneThatShakes eight = told("c8;c7;c6;c5;c4;c3;c2;c1", "h0,1,0,0;h0,2,0,0;h0,3,0,0;h0,4,0,0;h0,5,0,0;h0,6,0,0",
                "h0,7,0,0;h0,8,0,0");
        // Of 8 .. 1 the sum is 120 where the heaviest are the nearest, as they were told.
        due(eight.order(), 120 * 120);
        row(eight, 0, 1, 2, 3, 4, 5, 6, 7);
        StoneThatShakes turned = told("c1;c2;c3;c4;c5;c6;c7;c8",
                "h0,1,0,0;h0,2,0,0;h0,3,0,0;h0,4,0,0;h0,5,0,0;h0,6,0,0", "h0,7,0,0;h0,8,0,0");
        due(turned.order(), 120 * 120);
        row(turned, 7, 6, 5, 4, 3, 2, 1, 0);
        due(turned.cogs(), 204 * 204);
    }

    private static void exchanged() {
        sentence = "45: each time that which makes it the least, while it becomes less: how many";
        StoneThatShakes s = told("c1;c2;c3;c4;c5;c6;c7;c8", "h0,1,0,0;h0,2,0,0;h0,3,0,0;h0,4,0,0;h0,5,0,0;h0,6,0,0",
                "h0,7,0,0;h0,8,0,0");
        due(s.round(), 4);
        row(s, 7, 6, 5, 4, 3, 2, 1, 0, 120 * 120);
        sentence = "45: of equal ones the first two HOLES";
        StoneThatShakes t = told("c1;c1;c2;c2;h0,1,0,0;h0,1,0,0;h0,2,0,0;h0,2,0,0");
        // 10; exchanges of 0 or 1 with 2 or 3 make it 9, two of them 8.
        due(t.round(), 2);
        row(t, 2, 3, 0, 1, 64);
        StoneThatShakes u = told("c1;c1;c2;h0,1,0,0;h0,1,0,0;h0,2,0,0");
        due(u.round(), 1);
        row(u, 2, 1, 0, 25);
        StoneThatShakes v = told("c1;c2;c2;h0,1,0,0;h0,2,0,0;h0,2,0,0");
        due(v.round(), 1);
        row(v, 1, 0, 2, 64);
        sentence = "45: one that leaves it as it is, is none";
        StoneThatShakes w = told("c1;c1;h0,1,0,0;h0,2,0,0");
        due(w.round(), 0);
        row(w, 0, 1, 9);
        StoneThatShakes x = told("c1;c2;h0,1,1,0;h0,1,1,0");
        due(x.round(), 0);
        row(x, 0, 1, 18);
        sentence = "45: by both numbers of a POINT";
        StoneThatShakes up = told("c1;c2;c3;h0,0,1,0;h0,0,2,0;h0,1,3,0");
        due(up.cogs(), 9 + 14 * 14);
        due(up.round(), 1);
        row(up, 2, 1, 0, 1 + 10 * 10);
        sentence = "45: from the order as told on, each time";
        due(s.round(), 4);
        due(s.cogs(), 204 * 204);
    }

    // ---- 46 .. 49

    private static void keptAndAgain() {
        sentence = "46, 47: under a number 0 .. 2; nothing kept";
        StoneThatShakes s = told("h0,1,0,9;s1,0");
        due(s.keep(-1), false);
        due(s.keep(3), false);
        for (int i = 0; i < 3; i++) {
            due(s.again(i), false);
            s.lead(0, i + 1);
            due(s.keep(i), true);
            due(s.again(i), true);
        }
        due(s.again(-1), false);
        due(s.again(3), false);
        for (int i = 2; i >= 0; i--) {
            due(s.again(i), true);
            due(s.hole(0, 4), i + 1);
        }
        sentence = "46: kept anew";
        s.lead(0, 9);
        due(s.keep(1), true);
        s.lead(0, 0);
        due(s.again(1), true);
        due(s.hole(0, 4), 9);
        due(s.again(2), true);
        due(s.hole(0, 4), 3);
        keptThings();
        keptMasses();
        keptTrials();
        toldSince();
        notKept();
    }

    private static void keptThings() {
        sentence = "46: HAS, THE POUND, what is THOUGHT (also at()), TRIALS";
        StoneThatShakes s = told("h0,1,0,9;h1,0,1,9;s1,0;s1,1");
        s.keep(0);
        s.lead(0, 9);
        s.lead(1, 4);
        s.pound(1, 20);
        for (int what = 0; what < 4; what++) {
            s.think(what, 1 + what, -2);
        }
        s.at(0, 7, 7);
        s.at(1, -8, 8);
        for (int t = 0; t < 12; t++) {
            due(t % 2 == 0 ? s.whole(t % 3 % 2, t, 24, 30 - t) : s.much(t % 3 % 2, t, 5000 - t), t);
        }
        long[] before = look(s);
        s.keep(2);
        due(s.again(0), true);
        due(s.count(3), 0);
        due(s.count(4), 0);
        due(s.count(5), -1);
        due(s.count(6), 0);
        due(s.rest(0), 0);
        due(s.worst(), 0);
        due(s.which(), 14641);
        due(s.drop(), -1);
        due(s.again(2), true);
        due(s.count(3), 12);
        due(Arrays.equals(look(s), before), true);
        sentence = "46: what is changed later is not changed in what was kept";
        for (int t = 0; t < 12; t++) {
            s.drop();
        }
        s.much(0, 1, 1);
        s.whole(1, 1, 1, 1);
        s.think(1, 9, 9);
        s.pound(-1, 0);
        s.sheet(3, 0, 0, 0);
        s.at(1, 0, 0);
        due(s.again(2), true);
        due(Arrays.equals(look(s), before), true);
        sentence = "47: not thought of apart, as it was";
        due(s.again(0), true);
        s.think(0, 5, 0);
        due(s.worst(), 25);
    }

    private static void keptTrials() {
        sentence = "46: TRIALS, whole, with their LEADS; others that were told since are gone";
        for (int order = 0; order < 2; order++) {
            StoneThatShakes s = told("h0,1,2,9;h1,2,1,9;s1,0;s3,0");
            s.cross(0, 1, 1);
            s.lead(0, 3);
            s.lead(1, 2);
            s.pound(0, 2);
            // With the PULL (4, -5) FELT is FACTOR times (4 + 5 + 4, -5 + 10 + 2).
            for (int t = 0; t < 2; t++) {
                due(t == order ? s.whole(1, 39, 21, 0) : s.much(0, 218, 218), t);
            }
            s.keep(1);
            s.drop();
            s.drop();
            s.sheet(3, 0, 0, 0);
            s.pound(1, 9);
            for (int t = 0; t < 3; t++) {
                due(t == order ? s.much(0, 5, 6) : s.whole(t, 7, 8, 500) >= 0 ? t : -1, t == 2 ? -1 : t);
            }
            due(s.again(1), true);
            due(s.count(3), 2);
            due(s.judge(4, -5), -2);
            due(s.judge(5, -5), 0);
            due(s.which(), 1);
            row(s, 4, -5, 4, -5);
            due(s.drop(), 1);
            due(s.judge(4, -5), -2);
            due(s.judge(4, -4), 0);
            // Of (x + 9)^2 + (y + 12)^2 = 218 there are 8 POINTS in all: 13 and 7 either way.
            due(s.which(), order == 0 ? 1 : 8);
        }
        sentence = "46: also at(), x and y";
        StoneThatShakes s = told("s1,0;s1,0");
        s.at(0, 3, 4);
        s.at(1, 0, 1);
        s.keep(0);
        due(s.worst(), 25);
        for (int[] other : new int[][] {{3, 0}, {0, 4}}) {
            s.at(0, other[0], other[1]);
            due(s.again(0), true);
            due(s.worst(), 25);
        }
    }

    private static long[] look(StoneThatShakes s) {
        long[] seen = new long[40];
        int n = 0;
        for (int what = 0; what < 7; what++) {
            seen[n++] = s.count(what);
        }
        for (int h = 0; h < s.count(0); h++) {
            seen[n++] = s.hole(h, 4);
        }
        seen[n++] = s.rest(0);
        seen[n++] = s.rest(1);
        seen[n++] = s.worst();
        seen[n++] = s.two(0);
        seen[n++] = s.two(1);
        seen[n++] = s.which();
        for (int i = 0; i < s.count(7); i++) {
            seen[n++] = s.row(i);
        }
        for (int x = -10; x < 10; x += 3) {
            seen[n++] = s.judge(x, x + 1);
        }
        return seen;
    }

    private static void toldSince() {
        sentence = "47: HOLES, SPEEDS told since: nothing in them, not thought of apart";
        StoneThatShakes s = told("h0,1,0,9;s1,0");
        s.lead(0, 2);
        s.think(0, 3, 0);
        s.keep(0);
        mill(s, "h0,1,0,9;h1,1,0,9;s1,0;s2,0;c5");
        s.sheet(2, 3, 9, 0);
        s.at(0, 50, 0);
        s.at(1, 60, 0);
        s.at(2, 70, 0);
        s.pound(2, 5);
        s.whole(2, 0, 0, 0);
        due(s.again(0), true);
        has(s, 2, 0, 0);
        due(s.count(0), 3);
        due(s.count(1), 3);
        due(s.count(2), 1);
        due(s.count(3), 0);
        due(s.count(5), -1);
        // Twice (3 + 2) at the third SPEED is the greatest.
        due(s.worst(), 100);
        sentence = "47: 16 HOLES, 6 SPEEDS told since";
        StoneThatShakes t = new StoneThatShakes();
        t.keep(1);
        String four = "h0,1,0,9;h0,1,0,9;h0,1,0,9;h0,1,0,9";
        for (int i = 0; i < 4; i++) {
            mill(t, four);
        }
        mill(t, "s1,0;s1,0;s1,0;s1,0;s1,0;s1,0");
        t.sheet(2, 16, 9, 0);
        for (int speed = 0; speed < 6; speed++) {
            t.at(speed, 9, 9);
        }
        due(t.again(1), true);
        due(t.count(4), 0);
        due(t.worst(), 0);
        due(t.count(0), 16);
        due(t.count(1), 6);
        for (int one = 0; one < 6; one++) {
            t.think(0, 5, 0);
            for (int speed = 0; speed < 6; speed++) {
                t.at(speed, 9, 9);
            }
            due(t.again(1), true);
            t.think(0, 5, 0);
            for (int speed = 0; speed < 6; speed++) {
                if (speed != one) {
                    t.at(speed, 0, 0);
                }
            }
            // Were this one thought of apart still, it would be (0, 0) or (9, 9).
            t.think(0, 3, 4);
            due(t.worst(), 25);
        }
    }

    private static void keptMasses() {
        sentence = "46: what is THOUGHT: each MASS, x and y";
        for (int what = 0; what < 4; what++) {
            for (int axis = 0; axis < 2; axis++) {
                StoneThatShakes s = told("s1,1");
                for (int w = 0; w < 4; w++) {
                    s.think(w, 10 + w, 20 + w);
                }
                s.keep(2);
                s.think(what, axis == 0 ? 50 : 10 + what, axis == 1 ? 50 : 20 + what);
                due(s.again(2), true);
                due(s.rest(0), 100 + 400);
                due(s.rest(1), 121 + 441);
                s.think(2, 0, 0);
                due(s.both(0, 0, 0, 0, 0), 0);
                row(s, -13, 1, -23, 1, -13, 1, -23, 1);
                due(s.again(2), true);
                s.think(3, 0, 0);
                due(s.both(0, 0, 0, 0, 0), 0);
                row(s, -12, 1, -22, 1, -12, 1, -22, 1);
            }
        }
    }

    private static void notKept() {
        sentence = "46: DEEP, CROSS, what is TRULY so, men, THE TEXT, the ROW are not kept";
        StoneThatShakes s = told("h0,1,0,9;s1,0");
        s.keep(0);
        s.deep(0, 7);
        s.cross(0, 0, 3);
        s.truly(0, 5, 0);
        s.man(1, 2, 1);
        s.sign(0x63373B63);
        s.feel(0, 0);
        due(s.again(0), true);
        row(s, 15, 0, 225);
        due(s.count(8), 4);
        due(s.hole(0, 5), 7);
        due(s.cross(0, 0, 3), 3);
        due(s.tells(1, 0), 0);
        row(s, 30, 0);
        due(s.keep(0), true);
        row(s, 30, 0);
    }

    private static void counted() {
        sentence = "48: NONE for another what; 4: ounces in all HOLES, of both PLANES";
        StoneThatShakes s = told("h0,1,0,9;h1,1,0,9;s1,0;c1;c2;c3");
        s.lead(0, 4);
        s.lead(1, 9);
        s.deep(0, 9);
        s.pound(1, 20);
        s.whole(0, 1, 1, 1);
        s.best(0, 1);
        s.sign(0);
        long[] want = {2, 1, 3, 1, 13, 1, 20, 1, 4};
        for (int what = 0; what <= 8; what++) {
            due(s.count(what), want[what]);
        }
        due(s.count(-1), -1);
        due(s.count(9), -1);
        sentence = "49: number i of the ROW; none such";
        due(s.row(0), 0);
        due(throwsRow(s, 1), true);
        due(throwsRow(s, -1), true);
        s.part(0);
        for (int i = 0; i < 4; i++) {
            due(throwsRow(s, i), false);
        }
        due(throwsRow(s, 4), true);
        s.whole(0, 99999, 0, 0);
        s.which();
        due(throwsRow(s, 0), true);
        due(s.count(7), 0);
    }

    /** Calls of which the document does not say that they tell a ROW. */
    private static void rowsThatStay() {
        sentence = "Terms: ROW: numbers told last by a call that says so";
        StoneThatShakes s = told("h0,1,2,9;h1,3,4,9;s1,0;s2,1;c1;c2");
        s.truly(0, 3, 4);
        s.feel(0, 0);
        long[] was = {3, 4, 25};
        s.sign(0x63373B63);
        row(s, was);
        s.end(2);
        row(s, was);
        s.mill();
        row(s, was);
        s.hole(0, 0);
        row(s, was);
        s.lead(0, 3);
        row(s, was);
        s.deep(0, 3);
        row(s, was);
        s.sheet(2, 2, 3, 3);
        row(s, was);
        s.sheet(0, -1, 3, 3);
        row(s, was);
        s.sheet(3, 2, 3, 3);
        row(s, was);
        s.cross(0, 1, 1);
        row(s, was);
        s.truly(1, 1, 1);
        row(s, was);
        s.think(1, 1, 1);
        row(s, was);
        s.pound(0, 3);
        row(s, was);
        s.whole(0, 1, 1, 99);
        row(s, was);
        s.much(0, 1, 2000000000);
        row(s, was);
        s.drop();
        row(s, was);
        s.judge(0, 0);
        row(s, was);
        s.man(0, 2, 2);
        row(s, was);
        s.rest(0);
        row(s, was);
        s.think(0, -9, -9);
        due(s.settle(0) > 0, true);
        row(s, was);
        s.at(0, 1, 1);
        row(s, was);
        s.buckets(0, 1);
        row(s, was);
        s.mill();
        mill(s, "h0,1,1,1;h0,1,1,1");
        due(s.cogs() > 0, true);
        row(s, was);
        s.keep(0);
        row(s, was);
        s.again(0);
        row(s, was);
        s.count(7);
        row(s, was);
        s.row(0);
        row(s, was);
    }

    // ---- how it is asked

    private static void due(long got, long want) {
        asked++;
        if (got != want) {
            wrong++;
            StackTraceElement[] calls = new Throwable().getStackTrace();
            int line = 0;
            for (StackTraceElement call : calls) {
                boolean isOwn = call.getMethodName().equals("due") || call.getMethodName().equals("row")
                        || call.getMethodName().equals("has") || call.getMethodName().equals("fractions");
                if (!isOwn) {
                    line = call.getLineNumber();
                    break;
                }
            }
            System.out.println(sentence + " (line " + line + "): answered " + got + ", due is " + want);
        }
    }

    private static void due(boolean got, boolean want) {
        due(got ? 1 : 0, want ? 1 : 0);
    }

    private static void row(StoneThatShakes s, long... want) {
        due(s.count(7), want.length);
        for (int i = 0; i < want.length && i < s.count(7); i++) {
            due(s.row(i), want[i]);
        }
    }

    private static void has(StoneThatShakes s, int... want) {
        for (int h = 0; h < want.length; h++) {
            due(s.hole(h, 4), want[h]);
        }
    }

    private static int mill(StoneThatShakes s, String text) {
        s.end(0);
        for (int i = 0; i < text.length(); i += 4) {
            int v = 0;
            for (int j = i; j < i + 4; j++) {
                v = v << 8 | (j < text.length() ? text.charAt(j) : '?');
            }
            s.sign(v);
        }
        due(s.end(text.length()), true);
        return s.mill();
    }

    private static StoneThatShakes told(String... texts) {
        StoneThatShakes s = new StoneThatShakes();
        for (String text : texts) {
            due(mill(s, text) > 0, true);
        }
        return s;
    }

    private static boolean throwsHole(StoneThatShakes s, int hole, int what) {
        try {
            s.hole(hole, what);
            return false;
        } catch (NoSuchElementException due) {
            return true;
        }
    }

    private static boolean throwsRow(StoneThatShakes s, int i) {
        try {
            s.row(i);
            return false;
        } catch (NoSuchElementException due) {
            return true;
        }
    }
}
