import java.util.ArrayList;
import java.util.List;
import java.util.Random;
import java.util.regex.Matcher;
import java.util.regex.Pattern;

/**
 * Texts by a fixed seed, right ones and spoilt ones, against what a pattern says of them: how many LINES, or the
 * first sign behind which no right text can come any more; and what they told, if all could stand.
 */
public final class TextTest {
    private static final int TEXTS = 60000;
    private static final String SIGNED = "-?[0-9]{1,2}";
    private static final String LINE = "(h0?[01]," + SIGNED + "," + SIGNED + ",0?[0-9]|s0?[1-9],0?[0-9]|c[0-9]{1,2})";
    private static final Pattern TEXT = Pattern.compile(LINE + "(;" + LINE + ")*");
    private static final String[] USED = {"h", "s", "c", ",", ";", "-", "0", "1", "2", "9", " ", "H", "\u00b1", "x"};

    private final Random dice;
    private final StoneThatShakes stone = new StoneThatShakes();
    private final List<int[]> holes = new ArrayList<>();
    private final List<Integer> cogs = new ArrayList<>();
    private int speeds;

    private TextTest(int seed) {
        dice = new Random(31L * seed + 7);
    }

    public static void main(String[] args) {
        int wrong = 0;
        int[] ends = new int[4];
        int texts = 0;
        for (int seed = 0; texts < TEXTS && wrong < 5; seed++) {
            TextTest test = new TextTest(seed);
            for (int i = 0; i < 12; i++, texts++) {
                wrong += test.askOne(ends) ? 0 : 1;
            }
        }
        for (int kind = 0; kind < ends.length; kind++) {
            if (ends[kind] < 500) {
                wrong++;
                System.out.println("texts of kind " + kind + ": " + ends[kind] + ", the runs tell too little");
            }
        }
        System.out.println(wrong == 0 ? texts + " texts are read as due" : wrong + " texts are not read as due");
        if (wrong != 0) {
            System.exit(1);
        }
    }

    private boolean askOne(int[] ends) {
        String text = textByDice();
        int want = due(text);
        write(text);
        int got = stone.mill();
        ends[want >= 0 ? 0 : want == -61 ? 1 : want == -1 - text.length() ? 2 : 3]++;
        if (want > 0) {
            tell(text);
        }
        if (got == want && stone.count(8) == 0 && isAsTold()) {
            return true;
        }
        System.out.println("'" + text + "' answered " + got + ", due is " + want + "; holes " + stone.count(0)
                + " due " + holes.size() + ", speeds " + stone.count(1) + " due " + speeds + ", cogs "
                + stone.count(2) + " due " + cogs.size());
        return false;
    }

    private void write(String text) {
        for (int i = 0; i < text.length(); i += 4) {
            int v = 0;
            for (int j = i; j < i + 4; j++) {
                v = v << 8 | (j < text.length() ? text.charAt(j) : ';');
            }
            stone.sign(v);
        }
        stone.end(text.length());
    }

    // ---- texts

    private String textByDice() {
        StringBuilder text = new StringBuilder();
        int size = dice.nextInt(4) == 0 ? 57 + dice.nextInt(7) : dice.nextInt(70);
        while (text.length() < size) {
            text.append(text.length() == 0 ? "" : ";").append(lineByDice());
        }
        if (dice.nextInt(3) == 0) {
            text.setLength(Math.min(text.length(), size));
        }
        for (int spoilt = dice.nextInt(5) - 2; spoilt > 0; spoilt--) {
            spoil(text);
        }
        text.setLength(Math.min(80, text.length()));
        return text.toString();
    }

    private void spoil(StringBuilder text) {
        int at = dice.nextInt(text.length() + 1);
        String sign = USED[dice.nextInt(USED.length)];
        int way = dice.nextInt(3);
        if (way == 0 && at < text.length()) {
            text.deleteCharAt(at);
        } else if (way == 1 && at < text.length()) {
            text.setCharAt(at, sign.charAt(0));
        } else {
            text.insert(at, sign);
        }
    }

    private String lineByDice() {
        int kind = dice.nextInt(6);
        if (kind < 3) {
            return "h" + number(2) + "," + signed() + "," + signed() + "," + number(dice.nextInt(30) == 0 ? 12 : 10);
        }
        if (kind == 3) {
            return "s" + (dice.nextInt(30) == 0 ? "0" : "" + (1 + dice.nextInt(9))) + "," + number(10);
        }
        return "c" + number(100);
    }

    private String signed() {
        return (dice.nextBoolean() ? "-" : "") + number(dice.nextInt(60) == 0 ? 130 : 100);
    }

    private String number(int below) {
        int v = dice.nextInt(5) == 0 ? below - 1 : dice.nextInt(below);
        return (v < 10 && dice.nextInt(5) == 0 ? "0" : "") + v;
    }

    // ---- what is due

    private int due(String text) {
        if (text.isEmpty()) {
            return 0;
        }
        String read = text.substring(0, Math.min(60, text.length()));
        for (int p = 0; p < read.length(); p++) {
            if (!canGoOn(read.substring(0, p + 1))) {
                return -1 - lastDigitAt(read, p);
            }
            if (!hasRoomFor(read.substring(0, p + 1))) {
                return -1 - p;
            }
        }
        if (endsWithFactor0(read)) {
            return -read.length();
        }
        if (text.length() > 60 || !TEXT.matcher(read).matches()) {
            return -1 - read.length();
        }
        return read.split(";").length;
    }

    private static boolean canGoOn(String begin) {
        Matcher matcher = TEXT.matcher(begin);
        return matcher.matches() || matcher.hitEnd();
    }

    /** A NUMBER that is too great or too small is told by its last digit. */
    private static int lastDigitAt(String read, int p) {
        if (!isDigit(read, p)) {
            return endsWithFactor0(read.substring(0, p)) ? p - 1 : p;
        }
        boolean isFirst = p > 0 && "hsc,-".indexOf(read.charAt(p - 1)) >= 0;
        return isFirst && isDigit(read, p + 1) ? p + 1 : p;
    }

    private static boolean endsWithFactor0(String begin) {
        return begin.endsWith("s0");
    }

    private static boolean isDigit(String text, int p) {
        return p >= 0 && p < text.length() && text.charAt(p) >= '0' && text.charAt(p) <= '9';
    }

    private boolean hasRoomFor(String begin) {
        switch (begin.charAt(begin.length() - 1)) {
            case 'h': return holes.size() + letters(begin, 'h') <= 16;
            case 's': return speeds + letters(begin, 's') <= 6;
            case 'c': return cogs.size() + letters(begin, 'c') <= 8;
            default: return true;
        }
    }

    private static int letters(String text, char letter) {
        return (int) text.chars().filter(c -> c == letter).count();
    }

    private void tell(String text) {
        for (String line : text.split(";")) {
            String[] numbers = line.substring(1).split(",");
            switch (line.charAt(0)) {
                case 'h': {
                    int[] hole = new int[4];
                    for (int i = 0; i < 4; i++) {
                        hole[i] = Integer.parseInt(numbers[i]);
                    }
                    holes.add(hole);
                    break;
                }
                case 's': speeds++; break;
                default: cogs.add(Integer.parseInt(numbers[0])); break;
            }
        }
    }

    private boolean isAsTold() {
        if (stone.count(0) != holes.size() || stone.count(1) != speeds || stone.count(2) != cogs.size()) {
            return false;
        }
        for (int h = 0; h < holes.size(); h++) {
            for (int what = 0; what < 4; what++) {
                if (stone.hole(h, what) != holes.get(h)[what]) {
                    return false;
                }
            }
        }
        return stone.cogs() == cogsDue();
    }

    private long cogsDue() {
        if (cogs.isEmpty() || cogs.size() > holes.size()) {
            return -1;
        }
        long x = 0;
        long y = 0;
        for (int i = 0; i < cogs.size(); i++) {
            x += cogs.get(i) * holes.get(i)[1];
            y += cogs.get(i) * holes.get(i)[2];
        }
        return x * x + y * y;
    }
}
