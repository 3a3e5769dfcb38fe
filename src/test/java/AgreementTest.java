import java.lang.reflect.InvocationTargetException;
import java.lang.reflect.Method;
import java.util.ArrayList;
import java.util.HashMap;
import java.util.List;
import java.util.Map;

/**
 * Long runs of calls, the same on the program and on the ReferenceMap, whose answers must agree.
 * The calls are picked by a fixed sequence of numbers, so that each run can be had again.
 */
public final class AgreementTest {
    private static final int RUNS = 1200;
    private static final int CALLS = 512;
    private static final int[] ODD = {-1, 6, 36, 99, 100, Integer.MIN_VALUE, Integer.MAX_VALUE};

    /** Which method of the ReferenceMap answers for one that finds the same in another way. */
    private static final Map<String, String> SAME = Map.of(
            "islandsByUnions", "islands",
            "basinSizeUpwards", "basinSize",
            "spillLevelByRounds", "spillLevel",
            "routeCostByRounds", "routeCost",
            "steepestStepByHalving", "steepestStep");

    /** Calls that are picked more often than the others, so that runs get somewhere. */
    private static final String[] OFTEN = {
        "setHeight", "setHeight", "setHeight", "setHeight", "setHeight", "setHeight", "setHeight", "addMoth",
        "addMoth", "passNight", "passNight", "passNight", "passNight", "passNight", "passNight", "pour", "pour", "pour"};

    private final Map<String, Method> program = new HashMap<>();
    private final Map<String, Method> reference = new HashMap<>();
    private final List<String> names = new ArrayList<>();
    private long number;

    private AgreementTest() {
        for (Method method : DustSheetMap.class.getDeclaredMethods()) {
            if (java.lang.reflect.Modifier.isPublic(method.getModifiers())) {
                program.put(method.getName(), method);
                names.add(method.getName());
            }
        }
        for (Method method : ReferenceMap.class.getDeclaredMethods()) {
            reference.putIfAbsent(method.getName(), method);
        }
        names.sort(null);
        for (String name : OFTEN) {
            names.add(name);
        }
    }

    public static void main(String[] args) {
        AgreementTest test = new AgreementTest();
        for (int run = 1; run <= RUNS; run++) {
            test.run(run);
        }
        Check.end();
    }

    private int below(int bound) {
        number = number * 6364136223846793005L + 1442695040888963407L;
        return (int) ((number >>> 33) % bound);
    }

    private void run(int run) {
        number = run * 7919L;
        DustSheetMap map = new DustSheetMap();
        ReferenceMap due = new ReferenceMap();
        int spread = run % 3 == 0 ? 3 : run % 3 == 1 ? 12 : 100;
        int call = 0;
        while (call < CALLS) {
            if (below(25) == 0) {
                String text = text(spread);
                for (int i = 0; i < text.length() && call < CALLS - 1; i++, call++) {
                    same(run, call, map, due, "feed", text.charAt(i));
                }
                same(run, call, map, due, "execute");
                call++;
            } else {
                String name = names.get(below(names.size()));
                same(run, call, map, due, name, arguments(name, spread));
                call++;
            }
        }
    }

    private void same(int run, int call, DustSheetMap map, ReferenceMap due, String name, Object... arguments) {
        String want = answer(reference.get(SAME.getOrDefault(name, name)), due, arguments);
        String got = answer(program.get(name), map, arguments);
        Check.same("run " + run + ", call " + call + ": " + name + java.util.Arrays.toString(arguments), want, got);
    }

    private static String answer(Method method, Object object, Object... arguments) {
        return Check.answerOf(() -> {
            try {
                return method.invoke(object, arguments);
            } catch (InvocationTargetException e) {
                throw (RuntimeException) e.getCause();
            } catch (IllegalAccessException e) {
                throw new AssertionError(e);
            }
        });
    }

    private Object[] arguments(String name, int spread) {
        int count = program.get(name).getParameterCount();
        Object[] arguments = new Object[count];
        for (int i = 0; i < count; i++) {
            arguments[i] = below(60) == 0 ? ODD[below(ODD.length)] : below(6);
        }
        boolean odd = below(60) == 0;
        switch (name) {
            case "setHeight" -> arguments[2] = odd ? ODD[below(ODD.length)] : height(spread);
            case "pour" -> arguments[2] = odd ? ODD[below(ODD.length)] : below(100);
            case "islands", "islandsByUnions" -> arguments[0] = odd ? ODD[below(ODD.length)] : height(spread);
            case "rowByHeight", "columnByHeight" -> arguments[0] = odd ? ODD[below(ODD.length)] : below(37);
            case "lineCharacter" -> arguments[0] = odd ? ODD[below(ODD.length)] : below(30);
            case "feed" -> arguments[0] = (char) below(odd ? 65536 : 128);
            default -> { }
        }
        return arguments;
    }

    private int height(int spread) {
        return spread == 100 ? below(100) : 50 - spread / 2 + below(spread);
    }

    private String text(int spread) {
        StringBuilder text = new StringBuilder();
        int commands = 1 + below(6);
        for (int i = 0; i < commands; i++) {
            text.append(i == 0 ? "" : ";").append(command(spread));
        }
        if (below(4) == 0) {
            text.setLength(below(text.length() + 1));
        }
        if (below(4) == 0 && text.length() > 0) {
            String signs = " =;0123456789abcdefghimnopqrstuwy";
            text.setCharAt(below(text.length()), signs.charAt(below(signs.length())));
        }
        return text.toString();
    }

    private String command(int spread) {
        String cell = "" + below(below(30) == 0 ? 10 : 6) + below(below(30) == 0 ? 10 : 6);
        switch (below(10)) {
            case 0: return "height " + cell + "=" + height(spread);
            case 1: return "peg " + cell;
            case 2: return "free " + cell;
            case 3: return "drape";
            case 4: return "pour " + cell + " " + below(100);
            case 5: return "settle";
            case 6: return "moth " + cell;
            case 7: return "swat " + below(4);
            case 8: return "night";
            default: return "patch " + cell;
        }
    }
}
