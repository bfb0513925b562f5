import java.lang.reflect.InvocationTargetException;
import java.lang.reflect.Method;
import java.util.Arrays;
import java.util.Map;
import java.util.Random;
import java.util.TreeMap;

/**
 * Promises 1 to 30 in runs of up to 512 calls, by chance (always the same ones): each answer is compared with
 * Twin's, and after each call what fault() tells. Calls of all kinds come between each other, texts and rows anew,
 * some of their codes and numbers wrong.
 */
public final class TwinTest {
    private static final int RUNS = 1200, CALLS = 512;
    private static final int[] FAR = {Integer.MIN_VALUE, Integer.MIN_VALUE + 1, -1000, -100, -10, -2, -1, 6, 7, 9, 10,
        19, 20, 21, 30, 31, 58, 59, 60, 61, 62, 63, 64, 65, 127, 128, 255, 256, 32767, 32768, 65536, 1 << 30,
        Integer.MAX_VALUE - 1, Integer.MAX_VALUE};
    private static final Map<String, Method> OF_CLASS = methods(SameTuesday.class);
    private static final Map<String, Method> OF_TWIN = methods(Twin.class);
    private static final Map<String, Integer> ANSWERED = new TreeMap<>();

    private final SameTuesday x = new SameTuesday();
    private final Twin twin = new Twin();
    private final Random chance;
    private final int seed;
    private int calls = 0;
    private boolean same = true;

    private TwinTest(int seed) {
        this.seed = seed;
        // Seeds that follow each other would begin alike.
        chance = new Random(seed * 0x9E3779B97F4A7C15L);
    }

    public static void main(String[] args) {
        for (int seed = 0; seed < RUNS; seed++) {
            new TwinTest(seed).run();
        }
        for (String name : OF_CLASS.keySet()) {
            boolean isNever = name.equals("trace") || name.equals("fault");
            Due.holds(name + " answered often", ANSWERED.getOrDefault(name, 0) > 500);
            Due.holds(name + " was refused often", isNever || ANSWERED.getOrDefault(name + " refused", 0) > 100);
        }
        Due.end();
    }

    private static Map<String, Method> methods(Class<?> of) {
        Map<String, Method> methods = new TreeMap<>();
        for (Method method : of.getDeclaredMethods()) {
            boolean isCall = Arrays.stream(method.getParameterTypes()).allMatch(type -> type == int.class);
            if (isCall && FaceTest.names().contains(method.getName())) {
                methods.put(method.getName(), method);
            }
        }
        return methods;
    }

    private void run() {
        if (chance.nextInt(4) == 0) {
            some(40);
        }
        // A run ends with the first wrong answer: what comes behind it tells nothing new.
        while (same && calls < CALLS) {
            text();
            some(chance.nextInt(20));
            int rows = chance.nextInt(6);
            for (int k = 0; k < rows; k++) {
                row();
                some(chance.nextInt(20));
            }
        }
    }

    /** Asks both, if the object may still be called. */
    private long ask(String name, int... numbers) {
        if (!same || calls + 2 > CALLS) {
            return 0;
        }
        Object[] given = Arrays.stream(numbers).boxed().toArray();
        String told = "run " + seed + ", call " + calls + ", " + name + Arrays.toString(numbers);
        long due = answer(OF_TWIN.get(name), twin, given);
        long got = answer(OF_CLASS.get(name), x, given);
        int fault = x.fault();
        calls += 2;
        Due.is(told, got, due);
        Due.is("fault() after " + told, fault, twin.fault());
        same = got == due && fault == twin.fault();
        boolean isRefused = due == SameTuesday.LOST || due < 0 && due != SameTuesday.NONE && !name.equals("cell");
        ANSWERED.merge(isRefused ? name + " refused" : name, 1, Integer::sum);
        return due;
    }

    private static long answer(Method method, Object of, Object[] given) {
        try {
            return ((Number) method.invoke(of, given)).longValue();
        } catch (IllegalAccessException | InvocationTargetException thrown) {
            Due.holds(method.getName() + Arrays.toString(given) + " threw " + thrown.getCause(), false);
            return Long.MAX_VALUE;
        }
    }

    /** A number below a bound, now and then any. */
    private int below(int bound) {
        return chance.nextInt(25) == 0 ? FAR[chance.nextInt(FAR.length)] : chance.nextInt(bound);
    }

    private int need() {
        return chance.nextInt(3) == 0 ? 6 : chance.nextInt(6);
    }

    private String someText() {
        StringBuilder text = new StringBuilder("s");
        int happenings = 1 + chance.nextInt(chance.nextInt(3) == 0 ? 6 : 3);
        int span = chance.nextBoolean() ? 60 : 12;
        for (int h = 0; h < happenings; h++) {
            int minute = chance.nextInt(span);
            text.append(';').append("hmc".charAt(chance.nextInt(3))).append(minute / 10).append(minute % 10);
            text.append(need()).append(chance.nextInt(6));
        }
        int deeds = Math.min(chance.nextInt(6), (60 - text.length()) / 5);
        for (int d = 0; d < deeds; d++) {
            text.append(',').append(need()).append(chance.nextInt(6)).append(chance.nextInt(7));
            text.append(1 + chance.nextInt(9));
        }
        return text.toString();
    }

    /** A text goes into a sheet, perhaps with cells around it, perhaps with a wrong code, and is taken. */
    private void text() {
        String text = someText();
        int sheet = chance.nextInt(4);
        int lane = chance.nextInt(3);
        int ahead = chance.nextInt(3) == 0 ? chance.nextInt(61 - text.length()) : 0;
        int behind = chance.nextInt(3) == 0 ? chance.nextInt(61 - text.length() - ahead) : 0;
        ask("sheet", sheet, lane, ahead + text.length() + behind);
        for (int i = 0; i < text.length(); i++) {
            ask("put", sheet, ahead + i, text.charAt(i));
        }
        if (chance.nextInt(4) == 0) {
            int code = chance.nextBoolean() ? "shmc;,0156789:".charAt(chance.nextInt(14)) : below(128);
            int place = chance.nextInt(text.length());
            ask("put", sheet, ahead + place, code);
            ask("tuesday", sheet, lane, ahead, text.length());
            ask("put", sheet, ahead + place, text.charAt(place));
        }
        if (chance.nextInt(4) == 0) {
            ask("tuesday", sheet, lane, ahead, chance.nextInt(text.length() + behind + 2));
        }
        ask("tuesday", sheet, lane, ahead, text.length());
    }

    /** A row goes into a sheet; days are lived by it, perhaps with the day made shorter between. */
    private void row() {
        int n = chance.nextInt(5) == 0 ? chance.nextInt(20) : chance.nextInt(5);
        int sheet = chance.nextInt(4);
        int lane = chance.nextInt(3);
        int ahead = chance.nextInt(3) == 0 ? chance.nextInt(61 - 2 * n) : 0;
        int deeds = (int) Math.max(1, twin.many(1));
        ask("sheet", sheet, lane, ahead + 2 * n);
        int minute = chance.nextInt(5);
        for (int p = 0; p < n; p++) {
            ask("put", sheet, ahead + 2 * p, chance.nextInt(40) == 0 ? below(60) : minute);
            ask("put", sheet, ahead + 2 * p + 1, below(deeds));
            minute = chance.nextInt(6) == 0 ? chance.nextInt(60) : Math.min(59, minute + chance.nextInt(12));
        }
        live(sheet, lane, ahead, n);
        if (chance.nextInt(3) == 0) {
            ask("minutes", 1 + chance.nextInt(60));
            live(sheet, lane, ahead, n);
            ask("shift", chance.nextInt(3), chance.nextInt(60));
            live(sheet, lane, ahead, n);
        }
    }

    private void live(int sheet, int lane, int i, int n) {
        ask("live", sheet, lane, i, n, 0);
        long ends = ask("live", sheet, lane, i, n, 1);
        ask("at", chance.nextInt(60), sheet, lane, i, n);
        ask("hangs", sheet, lane, i, n);
        int set = ends < 0 || chance.nextInt(3) == 0 ? chance.nextInt(64) : (int) ends;
        ask("odds", set & chance.nextInt(64), sheet, lane, i, n, chance.nextInt(2));
        ask("others", chance.nextBoolean() ? set : set ^ 1 << chance.nextInt(6), -1, sheet, lane, i, n);
        ask("others", set, chance.nextInt(40), sheet, lane, i, n);
    }

    /** Calls of any kind. */
    private void some(int count) {
        String[] names = OF_CLASS.keySet().toArray(new String[0]);
        for (int k = 0; k < count; k++) {
            String name = names[chance.nextInt(names.length)];
            if (!name.equals("tuesday") || chance.nextInt(3) == 0) {
                ask(name, numbers(name));
            }
        }
    }

    /** A sheet, perhaps of the lane of another one. */
    private int like(int sheet) {
        int other = below(4);
        return twin.lane(other) == twin.lane(sheet) || chance.nextInt(3) == 0 ? other : sheet;
    }

    private int[] numbers(String name) {
        int sheet = below(4);
        int lane = chance.nextInt(3) == 0 ? below(3) : twin.lane(sheet);
        switch (name) {
            case "ofHappening": return new int[] {below(6), below(4)};
            case "ofDeed": return new int[] {below(5), below(4)};
            case "minutes": return new int[] {below(61)};
            case "shift": return new int[] {below(6), below(60)};
            case "tuesday": return new int[] {sheet, lane, below(4), below(40)};
            case "live": return new int[] {sheet, lane, below(9), below(9), below(2)};
            case "at": return new int[] {below(60), sheet, lane, below(9), below(9)};
            case "hangs": return new int[] {sheet, lane, below(9), below(9)};
            case "can": return new int[] {below(60), below(64)};
            case "others": return new int[] {below(64), below(4) - 1, sheet, lane, below(9), below(5)};
            case "odds": return new int[] {below(64), sheet, lane, below(9), below(5), below(2)};
            case "sheet": return new int[] {sheet, lane, below(61)};
            case "put": return new int[] {sheet, below(30), chance.nextBoolean() ? below(60) : chance.nextInt()};
            case "cell": return new int[] {sheet, below(30), lane};
            case "copy": return new int[] {sheet, below(9), like(sheet), below(9), below(9)};
            case "as": return new int[] {below(6), below(3)};
            case "soonest": case "bar": return new int[] {chance.nextBoolean() ? below(64) : 1 << below(6)};
            case "day": return new int[] {below(64)};
            case "forget": case "next": return new int[] {below(2)};
            case "laws": return new int[] {below(66) - 2};
            case "tell": case "rhyme": return new int[] {below(6)};
            case "lose": case "many": return new int[] {below(4)};
            default: return new int[0];
        }
    }
}
