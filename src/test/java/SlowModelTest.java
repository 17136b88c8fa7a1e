import java.util.ArrayList;
import java.util.Arrays;
import java.util.HashMap;
import java.util.List;
import java.util.Map;
import java.util.NoSuchElementException;
import java.util.Random;

/**
 * Runs of calls by a fixed seed, on the class and on a slow model that follows the document word by word:
 * it goes through all ways, where the class takes short ones. Answers, ROW and counts have to be alike.
 */
public final class SlowModelTest {
    private static final int RUNS = 400;
    private static final int CALLS = 150;

    public static void main(String[] args) {
        int wrong = 0;
        long[] answered = new long[KINDS];
        for (int run = 0; run < RUNS && wrong < 5; run++) {
            if (!runOnce(run, answered)) {
                wrong++;
            }
        }
        for (int kind = 0; kind < KINDS; kind++) {
            if (answered[kind] == 0) {
                wrong++;
                System.out.println("no call of kind " + kind + " was ever taken: the runs tell too little");
            }
        }
        System.out.println(wrong == 0 ? "the slow model agrees" : wrong + " runs are not as the slow model");
        if (wrong != 0) {
            System.exit(1);
        }
    }

    private static final int KINDS = 42;

    private static boolean runOnce(int run, long[] answered) {
        Random dice = new Random(7919L * run + 1);
        StoneThatShakes stone = new StoneThatShakes();
        Model model = new Model();
        StringBuilder story = new StringBuilder();
        tellMill(dice, stone, model, story, 1 + dice.nextInt(run % 4 == 0 ? 6 : 3));
        for (int call = 0; call < CALLS; call++) {
            Call made = Call.byDice(dice, model);
            String name = made.toString();
            story.append(name).append('\n');
            long got = made.onStone(stone);
            long want = made.onModel(model);
            if (want != -1) {
                answered[made.kind]++;
            }
            if (got != want || !rowOf(stone).equals(model.row) || !alike(stone, model)) {
                System.out.println("run " + run + ":\n" + story + "answered " + got + " " + rowOf(stone)
                        + ", due is " + want + " " + model.row);
                return false;
            }
            if (dice.nextInt(40) == 0) {
                tellMill(dice, stone, model, story, 1);
            }
        }
        return true;
    }

    private static boolean alike(StoneThatShakes stone, Model model) {
        for (int h = 0; h < model.holes.size(); h++) {
            for (int what = 0; what < 6; what++) {
                if (stone.hole(h, what) != model.holes.get(h)[what]) {
                    return false;
                }
            }
        }
        int ounces = 0;
        for (int[] hole : model.holes) {
            ounces += hole[4];
        }
        return stone.count(0) == model.holes.size() && stone.count(1) == model.speeds.size()
                && stone.count(2) == model.cogs.size() && stone.count(3) == model.trials.size()
                && stone.count(4) == ounces && stone.count(5) == model.poundHole
                && stone.count(6) == model.poundOunces;
    }

    private static List<Long> rowOf(StoneThatShakes stone) {
        List<Long> row = new ArrayList<>();
        for (int i = 0; i < stone.count(7); i++) {
            row.add(stone.row(i));
        }
        try {
            stone.row(row.size());
            row.add(null);
        } catch (NoSuchElementException due) {
            return row;
        }
        return row;
    }

    private static void tellMill(Random dice, StoneThatShakes stone, Model model, StringBuilder story, int texts) {
        int far = dice.nextInt(3) == 0 ? 99 : 1 + dice.nextInt(12);
        for (int t = 0; t < texts; t++) {
            StringBuilder text = new StringBuilder();
            int lines = 1 + dice.nextInt(5);
            for (int i = 0; i < lines; i++) {
                String line = lineByDice(dice, far, model);
                if (line == null || text.length() + line.length() + 1 > 60) {
                    break;
                }
                text.append(text.length() == 0 ? "" : ";").append(line);
                model.tell(line);
            }
            story.append("text ").append(text).append('\n');
            int n = text.length();
            for (int i = 0; i < n; i += 4) {
                int v = 0;
                for (int j = i; j < i + 4; j++) {
                    v = v << 8 | (j < n ? text.charAt(j) : 0);
                }
                stone.sign(v);
            }
            stone.end(n);
            int want = n == 0 ? 0 : text.toString().split(";").length;
            int got = stone.mill();
            if (got != want) {
                throw new IllegalStateException(text + " answered " + got + ", due is " + want);
            }
        }
    }

    private static String lineByDice(Random dice, int far, Model model) {
        int kind = dice.nextInt(8);
        if (kind < 5) {
            return model.holes.size() >= 16 ? null : "h" + (dice.nextInt(3) == 0 ? 1 : 0) + ","
                    + (dice.nextInt(2 * far + 1) - far) + "," + (dice.nextInt(2 * far + 1) - far) + ","
                    + dice.nextInt(10);
        }
        if (kind == 5) {
            return model.cogs.size() >= 5 ? null : "c" + dice.nextInt(dice.nextBoolean() ? 4 : 100);
        }
        return model.speeds.size() >= 6 ? null : "s" + (1 + dice.nextInt(9)) + "," + dice.nextInt(10);
    }

    private static final class Call {
        int kind;
        long[] v;

        static Call byDice(Random dice, Model model) {
            Call call = new Call();
            call.kind = dice.nextInt(KINDS);
            int h = dice.nextInt(model.holes.size() + 2) - 1;
            int s = dice.nextInt(15) == 0 ? 9 : dice.nextInt(Math.max(1, model.speeds.size()));
            int p = dice.nextInt(20) == 0 ? 2 : dice.nextInt(3) == 0 ? 1 : 0;
            int b = dice.nextInt(20) == 0 ? -1 : dice.nextInt(2);
            int far = dice.nextInt(3) > 0 ? 25 : dice.nextInt(4) == 0 ? 9999 : 300;
            int x = dice.nextInt(2 * far + 1) - far;
            int y = dice.nextInt(2 * far + 1) - far;
            int pull = dice.nextInt(30) == 0 ? 61 : dice.nextInt(41) - 20;
            long bound = dice.nextInt(20) == 0 ? -1 : (long) dice.nextInt(1 + dice.nextInt(200000));
            switch (call.kind) {
                case 0: case 1: call.with(h, dice.nextInt(11) - (dice.nextInt(9) == 0 ? 1 : 0)); break;
                case 2: call.with(dice.nextInt(5), dice.nextInt(19) - 1, dice.nextInt(600) - 300, dice.nextInt(9) - 2);
                    break;
                case 3: call.with(b, p, dice.nextInt(4) == 0 ? dice.nextInt(21) - 10 : dice.nextInt(7) - 3); break;
                case 4: case 5: call.with(dice.nextInt(4), x, y); break;
                case 6: call.with(h, dice.nextInt(12)); break;
                case 7: call.with(b, s); break;
                case 8: call.with(b, dice.nextInt(20) == 0 ? 2 : dice.nextInt(2)); break;
                case 9: model.nearTrial(call, dice, s); break;
                case 10: model.nearMuch(call, dice, s); break;
                case 14: call.with(pull, y % 61); break;
                case 16: call.with(s, dice.nextInt(5) + (dice.nextInt(20) == 0 ? 1 : 0)); break;
                case 17: model.nearPull(call, dice, s, pull); break;
                case 18: call.with(dice.nextInt(3), dice.nextInt(12), dice.nextInt(12)); break;
                case 19: call.with(dice.nextInt(4), s); break;
                case 20: call.with(s, x, y, dice.nextInt(500)); break;
                case 21: case 28: call.with(p); break;
                case 22: case 23: call.with(p, 1 + dice.nextInt(dice.nextInt(10) == 0 ? 4 : 3)); break;
                case 24: call.with(p, 1 + dice.nextInt(dice.nextInt(5) == 0 ? 3 : 2)); break;
                case 25: case 36: call.with(p, bound); break;
                case 26: call.with(p, dice.nextInt(10)); break;
                case 27: call.with(p, dice.nextInt(20) == 0 ? 2 : dice.nextInt(2)); break;
                case 29: call.with(s, x, y, 3 * y, x - y); break;
                case 30: call.with(s); break;
                case 31: call.with(s, x, y); break;
                case 33: call.with(s, code(x, y), dice.nextInt(4), code(y, -x)); break;
                case 34: call.with(s, dice.nextInt(4), dice.nextInt(4), code(x, y), code(y, 5 - x), code(x, y * 7));
                    break;
                case 35: call.with(s); break;
                case 40: case 41: call.with(dice.nextInt(20) == 0 ? 3 : dice.nextInt(3)); break;
                default: call.with(); break;
            }
            return call;
        }

        static long code(long x, long y) {
            return 200000L * (x + 100000) + y + 100000;
        }

        void with(long... values) {
            v = values;
        }

        int i(int at) {
            return (int) v[at];
        }

        @Override
        public String toString() {
            return "kind " + kind + " " + Arrays.toString(v);
        }

        static long num(boolean answer) {
            return answer ? 1 : 0;
        }

        long onStone(StoneThatShakes s) {
            switch (kind) {
                case 0: return s.lead(i(0), i(1));
                case 1: return s.deep(i(0), i(1));
                case 2: return s.sheet(i(0), i(1), i(2), i(3));
                case 3: return s.cross(i(0), i(1), i(2));
                case 4: return num(s.truly(i(0), i(1), i(2)));
                case 5: return num(s.think(i(0), i(1), i(2)));
                case 6: return num(s.pound(i(0), i(1)));
                case 7: return s.feel(i(0), i(1));
                case 8: return s.hums(i(0), i(1));
                case 9: return s.whole(i(0), i(1), i(2), i(3));
                case 10: return s.much(i(0), i(1), i(2));
                case 11: return s.drop();
                case 12: return s.which();
                case 13: return s.ends();
                case 14: return s.judge(i(0), i(1));
                case 15: return s.bars();
                case 16: return s.next(i(0), i(1));
                case 17: return s.enough(i(0), i(1), i(2));
                case 18: return num(s.man(i(0), i(1), i(2)));
                case 19: return s.tells(i(0), i(1));
                case 20: return s.men(i(0), i(1), i(2), i(3));
                default: return onStoneToo(s);
            }
        }

        long onStoneToo(StoneThatShakes s) {
            switch (kind) {
                case 21: return s.rest(i(0));
                case 22: return s.best(i(0), i(1));
                case 23: return s.off(i(0), i(1));
                case 24: return s.instead(i(0), i(1));
                case 25: return s.fewest(i(0), v[1]);
                case 26: return s.all(i(0), i(1));
                case 27: return s.ounce(i(0), i(1));
                case 28: return s.settle(i(0));
                case 29: return s.both(i(0), i(1), i(2), i(3), i(4));
                case 30: return s.two(i(0));
                case 31: return num(s.at(i(0), i(1), i(2)));
                case 32: return s.worst();
                case 33: return s.floor(i(0), v[1], i(2), v[3]);
                case 34: return s.whose(i(0), i(1), i(2), v[3], v[4], v[5]);
                case 35: return s.part(i(0));
                case 36: return s.buckets(i(0), v[1]);
                case 37: return s.cogs();
                case 38: return s.order();
                case 39: return s.round();
                case 40: return num(s.keep(i(0)));
                default: return num(s.again(i(0)));
            }
        }

        long onModel(Model m) {
            switch (kind) {
                case 0: return m.lead(i(0), i(1));
                case 1: return m.deep(i(0), i(1));
                case 2: return m.sheet(i(0), i(1), i(2), i(3));
                case 3: return m.cross(i(0), i(1), i(2));
                case 4: return m.mass(m.truly, i(0), i(1), i(2));
                case 5: return m.mass(m.thought, i(0), i(1), i(2));
                case 6: return m.pound(i(0), i(1));
                case 7: return m.feel(i(0), i(1));
                case 8: return m.hums(i(0), i(1));
                case 9: return m.trial(i(0), 0, i(1), i(2), i(3));
                case 10: return i(1) > i(2) ? -1 : m.trial(i(0), 1, i(1), i(2), 0);
                case 11: return m.drop();
                case 12: return m.which();
                case 13: return m.ends();
                case 14: return m.judge(i(0), i(1));
                case 15: return m.bars();
                case 16: return m.next(i(0), i(1));
                case 17: return m.enough(i(0), i(1), i(2));
                case 18: return m.man(i(0), i(1), i(2));
                case 19: return m.tells(i(0), i(1));
                case 20: return m.men(i(0), i(1), i(2), i(3));
                default: return onModelToo(m);
            }
        }

        long onModelToo(Model m) {
            switch (kind) {
                case 21: return m.rest(i(0));
                case 22: return m.mend(i(0), i(1), 0);
                case 23: return m.mend(i(0), i(1), 1);
                case 24: return i(1) > 2 ? -1 : m.mend(i(0), i(1), 2);
                case 25: return m.fewest(i(0), v[1]);
                case 26: return m.all(i(0), i(1));
                case 27: return m.ounce(i(0), i(1));
                case 28: return m.settle(i(0));
                case 29: return m.both(i(0), i(1), i(2), i(3), i(4));
                case 30: return m.two(i(0));
                case 31: return m.at(i(0), i(1), i(2));
                case 32: return m.worst();
                case 33: return m.floor(i(0), v[1], i(2), v[3]);
                case 34: return m.whose(i(0), i(1), i(2), v[3], v[4], v[5]);
                case 35: return m.part(i(0));
                case 36: return m.buckets(i(0), v[1]);
                case 37: return m.cogs();
                case 38: return m.order();
                case 39: return m.round();
                case 40: return m.keep(i(0));
                default: return m.again(i(0));
            }
        }
    }

    /** The document, in its plainest form. Holes: plane, x, y, room, has, deep. */
    private static final class Model {
        List<int[]> holes = new ArrayList<>();
        List<int[]> speeds = new ArrayList<>();
        List<Integer> cogs = new ArrayList<>();
        int[][] cross = {{1, 0}, {0, 1}};
        int[][] truly = new int[4][2];
        int[][] thought = new int[4][2];
        int poundHole = -1;
        int poundOunces;
        List<int[]> trials = new ArrayList<>();
        int[][] men = {{1, 1}, {1, 1}, {1, 1}};
        Map<Integer, int[]> apart = new HashMap<>();
        List<Long> row = new ArrayList<>();
        Object[][] kept = new Object[3][];

        void tell(String line) {
            String[] parts = line.substring(1).split(",");
            int[] n = new int[parts.length];
            for (int i = 0; i < n.length; i++) {
                n[i] = Integer.parseInt(parts[i]);
            }
            if (line.charAt(0) == 'h') {
                holes.add(new int[] {n[0], n[1], n[2], n[3], 0, 0});
            } else if (line.charAt(0) == 's') {
                speeds.add(n);
            } else {
                cogs.add(n[0]);
            }
        }

        void told(long... numbers) {
            row = new ArrayList<>();
            for (long n : numbers) {
                row.add(n);
            }
        }

        boolean isHole(int h) {
            return h >= 0 && h < holes.size();
        }

        boolean isSpeed(int s) {
            return s >= 0 && s < speeds.size();
        }

        static boolean bit(int v) {
            return v == 0 || v == 1;
        }

        static long size(long[] p) {
            return p[0] * p[0] + p[1] * p[1];
        }

        long[] leadOf(int plane, boolean withPound) {
            long[] sum = new long[2];
            for (int h = 0; h < holes.size(); h++) {
                int[] hole = holes.get(h);
                int ounces = hole[4] + (withPound && h == poundHole ? poundOunces : 0);
                if (hole[0] == plane) {
                    sum[0] += (long) ounces * hole[1];
                    sum[1] += (long) ounces * hole[2];
                }
            }
            return sum;
        }

        long[] felt(int bearing, int speed, int[][] masses, long[] lead0, long[] lead1) {
            long[] out = new long[2];
            for (int a = 0; a < 2; a++) {
                long sum = cross[bearing][0] * (masses[0][a] + lead0[a]) + cross[bearing][1] * (masses[1][a] + lead1[a]);
                out[a] = speeds.get(speed)[0] * sum + (long) speeds.get(speed)[1] * masses[2][a] + masses[3][a];
            }
            return out;
        }

        long[] feltTruly(int bearing, int speed) {
            return felt(bearing, speed, truly, leadOf(0, true), leadOf(1, true));
        }

        long lead(int h, int v) {
            if (!isHole(h) || v < 0 || v > holes.get(h)[3]) {
                return -1;
            }
            int was = holes.get(h)[4];
            holes.get(h)[4] = v;
            return was;
        }

        long deep(int h, int v) {
            if (!isHole(h) || v < 0 || v > 9) {
                return -1;
            }
            int was = holes.get(h)[5];
            holes.get(h)[5] = v;
            return was;
        }

        long sheet(int kind, int n, int f, int step) {
            if (kind > 3 || n > 16) {
                return -1;
            }
            if (kind != 3 && n < 0) {
                return -2;
            }
            long sum = 0;
            for (int h = 0; h < holes.size(); h++) {
                int v = kind == 3 || h >= n ? 0 : f + h * step;
                v = kind == 0 ? (byte) v : kind == 1 ? (short) v : v;
                holes.get(h)[4] = v < 0 ? 0 : v > holes.get(h)[3] ? holes.get(h)[3] : v;
                sum += holes.get(h)[4];
            }
            return kind == 3 ? -3 : sum;
        }

        long cross(int b, int p, int v) {
            if (!bit(b) || !bit(p) || Math.abs(v) > 9) {
                return -1;
            }
            int was = cross[b][p];
            cross[b][p] = v;
            return was;
        }

        long mass(int[][] masses, int what, int x, int y) {
            masses[what] = new int[] {x, y};
            return 1;
        }

        long pound(int h, int ounces) {
            if (h == -1) {
                poundHole = -1;
                poundOunces = 0;
                return 1;
            }
            if (!isHole(h) || ounces < 1) {
                return 0;
            }
            poundHole = h;
            poundOunces = ounces;
            return 1;
        }

        long feel(int b, int s) {
            if (!bit(b) || !isSpeed(s)) {
                return -1;
            }
            long[] p = feltTruly(b, s);
            told(p[0], p[1], size(p));
            return 0;
        }

        long hums(int b, int what) {
            if (!bit(b) || !bit(what)) {
                return -1;
            }
            int found = -2;
            long most = 0;
            for (int s = 0; s < speeds.size(); s++) {
                long now = size(feltTruly(b, s)) * (what == 0 ? 1 : -1);
                if (found == -2 || now > most) {
                    found = s;
                    most = now;
                }
            }
            if (found >= 0) {
                told(Math.abs(most));
            }
            return found;
        }

        void nearTrial(Call call, Random dice, int s) {
            long[] p = isSpeed(s) ? feltThoughtly(s, dice) : new long[2];
            call.with(s, (int) p[0] + dice.nextInt(5) - 2, (int) p[1] + dice.nextInt(5) - 2,
                    dice.nextInt(20) == 0 ? 1000 : dice.nextInt(80));
        }

        void nearMuch(Call call, Random dice, int s) {
            long size = isSpeed(s) ? size(feltThoughtly(s, dice)) : 9;
            size = Math.min(size, 1000000000);
            int wide = dice.nextInt(3) == 0 ? 0 : dice.nextInt(1 + (int) size);
            call.with(s, (int) Math.max(0, size - wide / 2), dice.nextInt(20) == 0 ? 0 : (int) size + wide);
        }

        void nearPull(Call call, Random dice, int s, int pull) {
            List<int[]> all = agreeing();
            int[] p = all.isEmpty() || dice.nextInt(5) == 0 ? new int[] {pull, 3} : all.get(dice.nextInt(all.size()));
            call.with(s, p[0], p[1]);
        }

        long[] feltThoughtly(int s, Random dice) {
            int[][] masses = thought.clone();
            masses[0] = new int[] {dice.nextInt(41) - 20, dice.nextInt(41) - 20};
            return felt(0, s, masses, leadOf(0, true), leadOf(1, true));
        }

        long trial(int s, int kind, int a, int b, int give) {
            boolean isFar = kind == 0 && (Math.abs(a) > 99999 || Math.abs(b) > 99999);
            if (!isSpeed(s) || trials.size() >= 12 || give > 999 || isFar) {
                return -1;
            }
            long[] l0 = leadOf(0, true);
            long[] l1 = leadOf(1, true);
            trials.add(new int[] {s, kind, a, b, give, (int) l0[0], (int) l0[1], (int) l1[0], (int) l1[1]});
            return trials.size() - 1;
        }

        long drop() {
            if (trials.isEmpty()) {
                return -1;
            }
            trials.remove(trials.size() - 1);
            return trials.size();
        }

        boolean agrees(int[] t, int x, int y) {
            int[][] masses = thought.clone();
            masses[0] = new int[] {x, y};
            long[] p = felt(0, t[0], masses, new long[] {t[5], t[6]}, new long[] {t[7], t[8]});
            if (t[1] == 0) {
                return Math.abs(p[0] - t[2]) <= t[4] && Math.abs(p[1] - t[3]) <= t[4];
            }
            return size(p) >= t[2] && size(p) <= t[3];
        }

        List<int[]> agreeing() {
            List<int[]> out = new ArrayList<>();
            for (int x = -60; x <= 60; x++) {
                for (int y = -60; y <= 60; y++) {
                    boolean all = true;
                    for (int[] t : trials) {
                        all = all && agrees(t, x, y);
                    }
                    if (all) {
                        out.add(new int[] {x, y});
                    }
                }
            }
            return out;
        }

        long which() {
            List<int[]> all = agreeing();
            told();
            if (!all.isEmpty()) {
                int[] last = all.get(all.size() - 1);
                told(all.get(0)[0], all.get(0)[1], last[0], last[1]);
            }
            return all.size();
        }

        long ends() {
            List<int[]> all = agreeing();
            if (all.isEmpty()) {
                return 0;
            }
            long[] e = {99, -99, 99, -99, all.size() > 40 ? -1 : 0};
            for (int[] p : all) {
                e[0] = Math.min(e[0], p[0]);
                e[1] = Math.max(e[1], p[0]);
                e[2] = Math.min(e[2], p[1]);
                e[3] = Math.max(e[3], p[1]);
                for (int i = 0; all.size() <= 40 && i < all.size(); i++) {
                    e[4] = Math.max(e[4], size(new long[] {p[0] - all.get(i)[0], p[1] - all.get(i)[1]}));
                }
            }
            told(e);
            return all.size();
        }

        long judge(int x, int y) {
            if (Math.abs(x) > 60 || Math.abs(y) > 60) {
                return -1;
            }
            for (int t = 0; t < trials.size(); t++) {
                if (!agrees(trials.get(t), x, y)) {
                    return t;
                }
            }
            return -2;
        }

        long bars() {
            for (int many = 0; many <= 2; many++) {
                for (int bits = 0; bits < 1 << trials.size(); bits++) {
                    if (Integer.bitCount(bits) == many && someAgreesWithout(bits)) {
                        told(bits);
                        return many;
                    }
                }
            }
            return -2;
        }

        boolean someAgreesWithout(int bits) {
            List<int[]> all = trials;
            trials = new ArrayList<>();
            for (int t = 0; t < all.size(); t++) {
                if ((bits >> t & 1) == 0) {
                    trials.add(all.get(t));
                }
            }
            boolean some = !agreeing().isEmpty();
            trials = all;
            return some;
        }

        Map<Long, List<int[]>> apartBySize(List<int[]> pulls, int s, int h, int w) {
            int wasHole = poundHole;
            int wasOunces = poundOunces;
            poundHole = h;
            poundOunces = w;
            long[] l0 = leadOf(0, true);
            long[] l1 = leadOf(1, true);
            poundHole = wasHole;
            poundOunces = wasOunces;
            Map<Long, List<int[]>> out = new HashMap<>();
            for (int[] p : pulls) {
                int[][] masses = thought.clone();
                masses[0] = p;
                out.computeIfAbsent(size(felt(0, s, masses, l0, l1)), z -> new ArrayList<>()).add(p);
            }
            return out;
        }

        int[] narrowest(List<int[]> pulls, int s, int most) {
            int[] found = null;
            for (int h = 0; h < holes.size(); h++) {
                for (int w = 1; w <= most && holes.get(h)[0] == 0; w++) {
                    int worst = 0;
                    for (List<int[]> group : apartBySize(pulls, s, h, w).values()) {
                        worst = Math.max(worst, group.size());
                    }
                    if (found == null || worst < found[0]) {
                        found = new int[] {worst, h, w};
                    }
                }
            }
            return found;
        }

        long next(int s, int most) {
            if (!isSpeed(s) || most < 1 || most > 4) {
                return -1;
            }
            List<int[]> all = agreeing();
            int[] found = narrowest(all, s, most);
            if (all.isEmpty() || found == null) {
                return -2;
            }
            told(found[1], found[2]);
            return found[0];
        }

        long enough(int s, int x, int y) {
            if (!isSpeed(s) || Math.abs(x) > 60 || Math.abs(y) > 60 || judge(x, y) != -2) {
                return -1;
            }
            List<int[]> left = agreeing();
            List<Long> behind = new ArrayList<>();
            if (holes.stream().noneMatch(hole -> hole[0] == 0)) {
                return -1;
            }
            while (left.size() > 1 && behind.size() < 6) {
                int[] found = narrowest(left, s, 4);
                for (List<int[]> group : apartBySize(left, s, found[1], found[2]).values()) {
                    if (group.stream().anyMatch(p -> p[0] == x && p[1] == y)) {
                        left = group;
                    }
                }
                behind.add((long) left.size());
            }
            if (left.size() > 1) {
                return -2;
            }
            row = behind;
            return behind.size();
        }

        long man(int man, int up, int low) {
            if (up < 1 || low < 1) {
                return 0;
            }
            men[man] = new int[] {up, low};
            return 1;
        }

        long[] toldBy(int man, int s) {
            long[] p = feltTruly(0, s);
            return new long[] {p[0] * men[man][0] / men[man][1], p[1] * men[man][0] / men[man][1]};
        }

        long tells(int man, int s) {
            if (man > 2 || !isSpeed(s)) {
                return -1;
            }
            told(toldBy(man, s));
            return 0;
        }

        long men(int s, int x, int y, int give) {
            if (!isSpeed(s)) {
                return -1;
            }
            int bits = 0;
            long nearest = -1;
            long least = 0;
            for (int m = 0; m < 3; m++) {
                long[] p = toldBy(m, s);
                long[] off = {p[0] - x, p[1] - y};
                bits |= Math.abs(off[0]) <= give && Math.abs(off[1]) <= give ? 1 << m : 0;
                if (nearest < 0 || size(off) < least) {
                    nearest = m;
                    least = size(off);
                }
            }
            told(nearest, least);
            return bits;
        }

        long[] unmended(int plane) {
            long[] l = leadOf(plane, false);
            return new long[] {l[0] + thought[plane][0], l[1] + thought[plane][1]};
        }

        long rest(int plane) {
            return bit(plane) ? size(unmended(plane)) : -1;
        }

        /** All rows of ounces into at most k of the holes: each with from .. to. */
        interface Cost {
            long of(int[] ounces);
        }

        long leastCost;
        int[] leastRow;

        void search(int[] from, int[] to, int k, Cost cost) {
            leastRow = null;
            goThrough(new int[from.length], 0, from, to, k, cost);
        }

        void goThrough(int[] ounces, int at, int[] from, int[] to, int k, Cost cost) {
            if (at == ounces.length || k == 0) {
                long now = cost.of(ounces);
                if (leastRow == null || now < leastCost || now == leastCost && isBefore(ounces, leastRow)) {
                    leastCost = now;
                    leastRow = ounces.clone();
                }
                return;
            }
            for (int w = from[at]; w <= to[at]; w++) {
                ounces[at] = w;
                goThrough(ounces, at + 1, from, to, w == 0 ? k : k - 1, cost);
            }
            ounces[at] = 0;
        }

        static boolean isBefore(int[] a, int[] b) {
            int difference = Arrays.stream(a).map(Math::abs).sum() - Arrays.stream(b).map(Math::abs).sum();
            return difference != 0 ? difference < 0 : Arrays.compare(a, b) < 0;
        }

        List<Integer> holesOf(int plane) {
            List<Integer> out = new ArrayList<>();
            for (int h = 0; h < holes.size(); h++) {
                if (holes.get(h)[0] == plane) {
                    out.add(h);
                }
            }
            return out;
        }

        long mend(int plane, int k, int kind) {
            if (!bit(plane) || k > 3) {
                return -1;
            }
            List<Integer> own = holesOf(plane);
            int[] from = new int[own.size()];
            int[] to = new int[own.size()];
            for (int i = 0; i < own.size(); i++) {
                int[] hole = holes.get(own.get(i));
                from[i] = kind == 2 ? -hole[4] - hole[5] : 0;
                to[i] = kind == 1 ? hole[4] + hole[5] : hole[3] - hole[4];
            }
            long[] base = unmended(plane);
            search(from, to, k, ounces -> {
                long[] p = base.clone();
                for (int i = 0; i < ounces.length; i++) {
                    int w = kind == 1 ? -ounces[i] : ounces[i];
                    p[0] += (long) w * holes.get(own.get(i))[1];
                    p[1] += (long) w * holes.get(own.get(i))[2];
                }
                return size(p);
            });
            tellLeast();
            return leastCost;
        }

        void tellLeast() {
            told(Arrays.stream(leastRow).asLongStream().toArray());
        }

        long fewest(int plane, long bound) {
            if (!bit(plane) || bound < 0) {
                return -1;
            }
            List<Long> was = row;
            for (int k = 0; k <= 3; k++) {
                if (mend(plane, k, 0) <= bound) {
                    return k;
                }
            }
            row = was;
            return -2;
        }

        long all(int plane, int w) {
            if (!bit(plane) || w < 1) {
                return -1;
            }
            long best = -1;
            int bestBits = 0;
            for (int bits = 0; bits < 1 << holes.size(); bits++) {
                long[] p = unmended(plane);
                boolean can = true;
                for (int h = 0; h < holes.size() && can; h++) {
                    int[] hole = holes.get(h);
                    if ((bits >> h & 1) == 1) {
                        can = hole[0] == plane && hole[3] - hole[4] >= w;
                        p[0] += (long) w * hole[1];
                        p[1] += (long) w * hole[2];
                    }
                }
                if (can && (best < 0 || size(p) < best
                        || size(p) == best && Integer.bitCount(bits) < Integer.bitCount(bestBits))) {
                    best = size(p);
                    bestBits = bits;
                }
            }
            told(bestBits);
            return best;
        }

        long[] bestOunce(int plane, int what) {
            long[] found = null;
            for (int h : holesOf(plane)) {
                int[] hole = holes.get(h);
                if (what == 0 ? hole[4] < hole[3] : hole[4] > 0) {
                    long before = rest(plane);
                    hole[4] += what == 0 ? 1 : -1;
                    long change = rest(plane) - before;
                    hole[4] -= what == 0 ? 1 : -1;
                    if (found == null || change < found[1]) {
                        found = new long[] {h, change};
                    }
                }
            }
            return found;
        }

        long ounce(int plane, int what) {
            if (!bit(plane) || !bit(what)) {
                return -1;
            }
            long[] found = bestOunce(plane, what);
            if (found == null) {
                return -2;
            }
            told(found[1]);
            return found[0];
        }

        long settle(int plane) {
            if (!bit(plane)) {
                return -1;
            }
            for (int done = 0; done < 200; done++) {
                long[] in = bestOunce(plane, 0);
                long[] out = bestOunce(plane, 1);
                boolean putIn = in != null && (out == null || in[1] <= out[1]);
                long[] chosen = putIn ? in : out;
                if (chosen == null || chosen[1] >= 0) {
                    return done;
                }
                holes.get((int) chosen[0])[4] += putIn ? 1 : -1;
            }
            return 200;
        }

        static long[] fraction(long up, long low) {
            for (long d = Math.max(1, Math.abs(low)); d > 1; d--) {
                if (up % d == 0 && low % d == 0) {
                    return fraction(up / d, low / d);
                }
            }
            return low < 0 ? new long[] {-up, -low} : new long[] {up, low};
        }

        void tellFractions(long low, long... ups) {
            long[] out = new long[2 * ups.length];
            for (int i = 0; i < ups.length; i++) {
                System.arraycopy(fraction(ups[i], low), 0, out, 2 * i, 2);
            }
            told(out);
        }

        long both(int s, int x0, int y0, int x1, int y1) {
            if (!isSpeed(s)) {
                return -1;
            }
            long det = cross[0][0] * cross[1][1] - cross[0][1] * cross[1][0];
            if (det == 0) {
                return -2;
            }
            long[][] felt = {{x0, y0}, {x1, y1}};
            long low = speeds.get(s)[0] * det;
            long[] ups = new long[4];
            for (int a = 0; a < 2; a++) {
                long g0 = felt[0][a] - (long) speeds.get(s)[1] * thought[2][a] - thought[3][a];
                long g1 = felt[1][a] - (long) speeds.get(s)[1] * thought[2][a] - thought[3][a];
                ups[a] = g0 * cross[1][1] - g1 * cross[0][1] - low * leadOf(0, true)[a];
                ups[2 + a] = g1 * cross[0][0] - g0 * cross[1][0] - low * leadOf(1, true)[a];
            }
            tellFractions(low, ups);
            return 0;
        }

        long two(int s) {
            if (!isSpeed(s)) {
                return -1;
            }
            int[] to = holes.stream().mapToInt(hole -> hole[3] - hole[4]).toArray();
            search(new int[to.length], to, 2, ounces -> {
                long[][] lead = {leadOf(0, false), leadOf(1, false)};
                for (int h = 0; h < ounces.length; h++) {
                    lead[holes.get(h)[0]][0] += (long) ounces[h] * holes.get(h)[1];
                    lead[holes.get(h)[0]][1] += (long) ounces[h] * holes.get(h)[2];
                }
                return size(felt(0, s, thought, lead[0], lead[1])) + size(felt(1, s, thought, lead[0], lead[1]));
            });
            tellLeast();
            return leastCost;
        }

        long at(int s, int x, int y) {
            if (!isSpeed(s)) {
                return 0;
            }
            apart.put(s, new int[] {x, y});
            return 1;
        }

        long worst() {
            if (speeds.isEmpty()) {
                return -2;
            }
            List<Integer> own = holesOf(0);
            int[] to = own.stream().mapToInt(h -> holes.get(h)[3] - holes.get(h)[4]).toArray();
            search(new int[to.length], to, 2, ounces -> {
                long[] lead = leadOf(0, false);
                for (int i = 0; i < ounces.length; i++) {
                    lead[0] += (long) ounces[i] * holes.get(own.get(i))[1];
                    lead[1] += (long) ounces[i] * holes.get(own.get(i))[2];
                }
                long most = 0;
                for (int s = 0; s < speeds.size(); s++) {
                    int[] pull = apart.getOrDefault(s, thought[0]);
                    long f = speeds.get(s)[0];
                    most = Math.max(most, size(new long[] {f * (pull[0] + lead[0]), f * (pull[1] + lead[1])}));
                }
                return most;
            });
            tellLeast();
            return leastCost;
        }

        static long[] point(long code) {
            return new long[] {code / 200000 - 100000, code % 200000 - 100000};
        }

        long floor(int one, long p, int other, long q) {
            if (!isSpeed(one) || !isSpeed(other)) {
                return -1;
            }
            long f = speeds.get(one)[0];
            long g = speeds.get(other)[0];
            if (f == g) {
                return -2;
            }
            long[] a = point(p);
            long[] b = point(q);
            tellFractions(f - g, a[0] - b[0], a[1] - b[1], f * b[0] - g * a[0], f * b[1] - g * a[1]);
            return 0;
        }

        static long det(long[] u, long[] v, long[] w) {
            return u[0] * (v[1] * w[2] - v[2] * w[1]) - u[1] * (v[0] * w[2] - v[2] * w[0])
                    + u[2] * (v[0] * w[1] - v[1] * w[0]);
        }

        long whose(int a, int b, int c, long p, long q, long r) {
            if (!isSpeed(a) || !isSpeed(b) || !isSpeed(c) || a == b || a == c || b == c) {
                return -1;
            }
            long[] f = {speeds.get(a)[0], speeds.get(b)[0], speeds.get(c)[0]};
            long[] o = {speeds.get(a)[1], speeds.get(b)[1], speeds.get(c)[1]};
            long[] one = {1, 1, 1};
            long low = det(f, o, one);
            if (low == 0) {
                return -2;
            }
            long[] ups = new long[6];
            for (int axis = 0; axis < 2; axis++) {
                long[] felt = {point(p)[axis], point(q)[axis], point(r)[axis]};
                ups[3 * axis] = det(felt, o, one);
                ups[3 * axis + 1] = det(f, felt, one);
                ups[3 * axis + 2] = det(f, o, felt);
            }
            tellFractions(low, ups);
            return 0;
        }

        long part(int s) {
            if (!isSpeed(s)) {
                return -1;
            }
            long[] sizes = new long[4];
            for (int axis = 0; axis < 2; axis++) {
                for (int i = 0; i < 4; i++) {
                    long n = i < 2 ? speeds.get(s)[0] * cross[0][i] * (truly[i][axis] + leadOf(i, true)[axis])
                            : i == 2 ? (long) speeds.get(s)[1] * truly[2][axis] : truly[3][axis];
                    sizes[i] += n * n;
                }
            }
            told(sizes);
            int found = 0;
            for (int i = 1; i < 4; i++) {
                found = sizes[i] > sizes[found] ? i : found;
            }
            return found;
        }

        long buckets(int plane, long bound) {
            if (!bit(plane) || bound < 0) {
                return -1;
            }
            List<Integer> own = holesOf(plane);
            int[] was = holes.stream().mapToInt(hole -> hole[4]).toArray();
            int turn = 0;
            long answer = rest(plane) > bound ? 0 : -2;
            for (int minute = 1; answer == -2; minute++) {
                int looked = 0;
                while (looked < own.size() && holes.get(own.get(turn))[4] >= holes.get(own.get(turn))[3]) {
                    turn = (turn + 1) % own.size();
                    looked++;
                }
                if (looked == own.size()) {
                    break;
                }
                holes.get(own.get(turn))[4]++;
                turn = (turn + 1) % own.size();
                answer = rest(plane) > bound ? minute : -2;
            }
            for (int h = 0; h < was.length; h++) {
                holes.get(h)[4] = was[h];
            }
            return answer;
        }

        long pullOf(int[] seats) {
            long[] p = new long[2];
            for (int i = 0; i < seats.length; i++) {
                p[0] += (long) cogs.get(seats[i]) * holes.get(i)[1];
                p[1] += (long) cogs.get(seats[i]) * holes.get(i)[2];
            }
            return size(p);
        }

        int[] asTold() {
            int[] seats = new int[cogs.size()];
            for (int i = 0; i < seats.length; i++) {
                seats[i] = i;
            }
            return seats;
        }

        boolean noCogs() {
            return cogs.isEmpty() || holes.size() < cogs.size();
        }

        long cogs() {
            return noCogs() ? -1 : pullOf(asTold());
        }

        long order() {
            if (noCogs()) {
                return -1;
            }
            leastRow = null;
            permute(asTold(), 0);
            tellLeast();
            return leastCost;
        }

        void permute(int[] seats, int at) {
            if (at == seats.length) {
                long now = pullOf(seats);
                if (leastRow == null || now < leastCost || now == leastCost && Arrays.compare(seats, leastRow) < 0) {
                    leastCost = now;
                    leastRow = seats.clone();
                }
                return;
            }
            for (int i = at; i < seats.length; i++) {
                exchange(seats, at, i);
                permute(seats, at + 1);
                exchange(seats, at, i);
            }
        }

        static void exchange(int[] seats, int i, int j) {
            int was = seats[i];
            seats[i] = seats[j];
            seats[j] = was;
        }

        long round() {
            if (noCogs()) {
                return -1;
            }
            int[] seats = asTold();
            for (int made = 0;; made++) {
                long least = pullOf(seats);
                int[] pair = null;
                for (int i = 0; i < seats.length; i++) {
                    for (int j = i + 1; j < seats.length; j++) {
                        exchange(seats, i, j);
                        if (pullOf(seats) < least) {
                            least = pullOf(seats);
                            pair = new int[] {i, j};
                        }
                        exchange(seats, i, j);
                    }
                }
                if (pair == null) {
                    told(Arrays.stream(seats).asLongStream().toArray());
                    row.add(least);
                    return made;
                }
                exchange(seats, pair[0], pair[1]);
            }
        }

        long keep(int i) {
            if (i > 2) {
                return 0;
            }
            int[][] thoughts = {thought[0].clone(), thought[1].clone(), thought[2].clone(), thought[3].clone()};
            kept[i] = new Object[] {holes.stream().mapToInt(hole -> hole[4]).toArray(), poundHole, poundOunces,
                thoughts, new HashMap<>(apart), new ArrayList<>(trials)};
            return 1;
        }

        @SuppressWarnings("unchecked")
        long again(int i) {
            if (i > 2 || kept[i] == null) {
                return 0;
            }
            int[] has = (int[]) kept[i][0];
            for (int h = 0; h < holes.size(); h++) {
                holes.get(h)[4] = h < has.length ? has[h] : 0;
            }
            poundHole = (Integer) kept[i][1];
            poundOunces = (Integer) kept[i][2];
            int[][] thoughts = (int[][]) kept[i][3];
            thought = new int[][] {thoughts[0].clone(), thoughts[1].clone(), thoughts[2].clone(), thoughts[3].clone()};
            apart = new HashMap<>((Map<Integer, int[]>) kept[i][4]);
            trials = new ArrayList<>((List<int[]>) kept[i][5]);
            return 1;
        }
    }
}
