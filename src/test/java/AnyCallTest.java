import java.lang.reflect.InvocationTargetException;
import java.lang.reflect.Method;
import java.lang.reflect.Modifier;
import java.util.Arrays;
import java.util.Comparator;
import java.util.NoSuchElementException;
import java.util.Random;

/**
 * Any calls, with any numbers, in any order, by a fixed seed: nothing is thrown but by hole() and row() what the
 * document names, what can be counted stays in its bounds, and a like object answers the same calls alike.
 */
public final class AnyCallTest {
    private static final int OBJECTS = 1500;
    // Fewer than the 512 of the document: what is seen of an object at its end is called too.
    private static final int CALLS = 400;
    private static final String[] LINES = {
        "h0,1,0,9", "h0,-99,99,9", "h1,0,0,0", "h0,7,-3,5", "h1,-2,8,3", "s1,0", "s9,9", "s2,5", "c0", "c99", "c7",
        "h2,0,0,0", "h0,100,1,1", "s0,0", "c", "x", "h0,1,1,1;", "h0,1,1,1;s3,3;c5", "c00000",
    };
    private static final long[] EDGES = {
        Long.MIN_VALUE, Long.MAX_VALUE, Integer.MIN_VALUE, Integer.MAX_VALUE, 1L << 31, 1L << 32, 65536, -65536,
        2000000000, 2000000001, 200000, 99999, 100000, -99999, -100000, 9999, 10000, -9999, 999, 1000, 512, 80, 61, 60,
        -60, -61, 20000100000L, 20002100003L, 200001, 39999999999L, 40000000000L,
    };

    private static long thrown = 0;

    public static void main(String[] args) throws Exception {
        Method[] calls = StoneThatShakes.class.getDeclaredMethods();
        calls = Arrays.stream(calls).filter(m -> Modifier.isPublic(m.getModifiers())).toArray(Method[]::new);
        Arrays.sort(calls, Comparator.comparing(Method::toString));
        int wrong = calls.length == 48 ? 0 : 1;
        for (int object = 0; object < OBJECTS && wrong == 0; object++) {
            String story = runOnce(object, calls);
            if (story != null) {
                wrong++;
                System.out.println("object " + object + ": " + story);
            }
        }
        if (thrown < OBJECTS) {
            wrong++;
            System.out.println("hole() and row() threw only " + thrown + " times: the runs tell too little");
        }
        System.out.println(wrong == 0 ? OBJECTS * CALLS + " calls of any kind end as due" : "not as due");
        if (wrong != 0) {
            System.exit(1);
        }
    }

    private static String runOnce(int object, Method[] calls) throws Exception {
        Random dice = new Random(104729L * object + 5);
        StoneThatShakes stone = new StoneThatShakes();
        StoneThatShakes like = new StoneThatShakes();
        int far = object % 3;
        for (int made = 0; made < CALLS;) {
            if (dice.nextInt(9) == 0) {
                String text = textByDice(dice);
                made += tell(stone, text);
                tell(like, text);
                continue;
            }
            Method call = calls[dice.nextInt(calls.length)];
            boolean isDear = call.getName().equals("enough") || call.getName().equals("next");
            if (isDear && dice.nextInt(4) > 0) {
                continue;
            }
            Object[] numbers = numbersByDice(call, dice, far);
            String name = call.getName() + Arrays.toString(numbers) + ", call " + made;
            Object answer = answerOf(stone, call, numbers);
            if (answer instanceof Throwable) {
                return name + " threw " + answer;
            }
            if (!answer.equals(answerOf(like, call, numbers))) {
                return name + " answered " + answer + ", a like object another";
            }
            made++;
        }
        return faultOf(stone);
    }

    /** What is thrown as promised is an answer too: a text. */
    private static Object answerOf(StoneThatShakes stone, Method call, Object[] numbers) throws Exception {
        try {
            return call.invoke(stone, numbers);
        } catch (InvocationTargetException e) {
            Throwable cause = e.getCause();
            boolean may = call.getName().equals("hole") || call.getName().equals("row");
            boolean isOwn = cause.getStackTrace()[0].getClassName().equals("StoneThatShakes");
            if (may && isOwn && cause.getClass() == NoSuchElementException.class) {
                thrown++;
                return "throws";
            }
            return cause;
        }
    }

    private static Object[] numbersByDice(Method call, Random dice, int far) {
        Class<?>[] types = call.getParameterTypes();
        Object[] numbers = new Object[types.length];
        for (int i = 0; i < types.length; i++) {
            long v = numberByDice(dice, far);
            numbers[i] = types[i] == long.class ? (Object) v : (Object) (int) v;
        }
        return numbers;
    }

    private static long numberByDice(Random dice, int far) {
        int kind = dice.nextInt(20);
        if (kind < 1 + far) {
            return EDGES[dice.nextInt(EDGES.length)] + dice.nextInt(3) - 1;
        }
        if (kind == 19 && far > 0) {
            return dice.nextLong();
        }
        return kind < 14 ? dice.nextInt(5) - 1 : kind < 17 ? dice.nextInt(24) - 4 : dice.nextInt(401) - 200;
    }

    private static String textByDice(Random dice) {
        StringBuilder text = new StringBuilder();
        for (int i = dice.nextInt(6); i >= 0; i--) {
            text.append(text.length() == 0 ? "" : ";").append(LINES[dice.nextInt(dice.nextInt(6) > 0 ? 11 : LINES.length)]);
        }
        if (dice.nextInt(8) == 0) {
            text.setCharAt(dice.nextInt(text.length()), (char) dice.nextInt(256));
        }
        return text.toString();
    }

    private static int tell(StoneThatShakes stone, String text) {
        for (int i = 0; i < text.length(); i += 4) {
            int v = 0;
            for (int j = i; j < i + 4; j++) {
                v = v << 8 | (j < text.length() ? text.charAt(j) : 0);
            }
            stone.sign(v);
        }
        stone.end(text.length());
        stone.mill();
        return (text.length() + 3) / 4 + 2;
    }

    private static String faultOf(StoneThatShakes stone) {
        int[] most = {16, 6, 8, 12, 144, 15, 20, 16, 80};
        for (int what = 0; what < most.length; what++) {
            int least = what == 5 ? -1 : 0;
            if (stone.count(what) < least || stone.count(what) > most[what]) {
                return "count(" + what + ") " + stone.count(what);
            }
        }
        for (int h = 0; h < stone.count(0); h++) {
            if (stone.hole(h, 4) < 0 || stone.hole(h, 4) > stone.hole(h, 3)) {
                return "HAS of HOLE " + h + " " + stone.hole(h, 4);
            }
        }
        for (int i = 0; i < stone.count(7); i++) {
            stone.row(i);
        }
        return null;
    }
}
