import java.lang.reflect.InvocationTargetException;
import java.lang.reflect.Method;
import java.lang.reflect.Modifier;
import java.util.ArrayList;
import java.util.Arrays;
import java.util.Comparator;
import java.util.List;

/**
 * Random runs of 512 calls on the program and on Model at once: each answer and each exception must
 * be the same. The numbers come from a fixed seed, so that a run can be had again; its arguments:
 * how many runs, and the number of the first.
 */
public final class ModelTests {
    private static final int CALLS = 512;

    private final int run;
    private long seed;
    private final LineBalls program = new LineBalls();
    private final Model model = new Model();
    private final List<String> told = new ArrayList<>();
    private final List<Method> methods;
    private final Method moving;
    private int calls = 0;
    private boolean same = true;

    private ModelTests(int run, List<Method> methods) {
        this.run = run;
        this.seed = run * 7919L + 17;
        this.methods = methods;
        this.moving = methods.stream().filter(m -> m.getName().equals("pulse")).findFirst().orElseThrow();
    }

    public static void main(String[] args) throws Exception {
        int runs = args.length > 0 ? Integer.parseInt(args[0]) : 300;
        int first = args.length > 1 ? Integer.parseInt(args[1]) : 0;
        List<Method> methods = new ArrayList<>();
        for (Method m : LineBalls.class.getDeclaredMethods()) {
            if (Modifier.isPublic(m.getModifiers())) {
                methods.add(m);
            }
        }
        methods.sort(Comparator.comparing(Method::getName));
        for (int run = first; run < first + runs; run++) {
            new ModelTests(run, methods).play();
        }
        Due.finish();
    }

    private int below(int bound) {
        seed = seed * 6364136223846793005L + 1442695040888963407L;
        return (int) ((seed >>> 33) % bound);
    }

    private boolean chance(int percent) {
        return below(100) < percent;
    }

    private void play() throws Exception {
        if (!chance(10)) {
            text();
            call("load");
        }
        while (calls < CALLS && same) {
            if (chance(1)) {
                text();
                call(chance(80) ? "load" : "find");
            } else if (chance(2)) {
                call("truncate", 0);
                feed("" + (char) ('a' + below(12)));
                call("find");
            } else {
                Method m = chosen();
                call(m.getName(), arguments(m));
                if (m.getName().startsWith("write") && same) {
                    readOutput();
                }
            }
        }
        Due.is("run " + run, same ? 1 : 0, 1);
        if (!same) {
            told.forEach(System.out::println);
        }
    }

    /** Calls that leave little to look at come less often, those that move the balls more often. */
    private Method chosen() {
        Method m = methods.get(below(methods.size()));
        if (chance(85) && List.of("stop", "removeBall", "truncate", "append", "find", "load", "restore").contains(m.getName())) {
            return chosen();
        }
        return chance(12) ? moving : m;
    }

    private void readOutput() throws Exception {
        int from = below(40);
        for (int i = from; i < from + 5 && calls < CALLS; i++) {
            call("outputByte", i);
        }
    }

    private Object[] arguments(Method m) {
        Class<?>[] types = m.getParameterTypes();
        Object[] arguments = new Object[types.length];
        for (int i = 0; i < types.length; i++) {
            arguments[i] = types[i] == boolean.class ? (Object) chance(50) : (Object) argument(m.getName(), i);
        }
        return arguments;
    }

    private int argument(String name, int i) {
        if (chance(2)) {
            return new int[] {Integer.MIN_VALUE, Integer.MAX_VALUE, -1, -2, -3, -100}[below(6)];
        }
        switch (name + i) {
            case "kick1":
            case "addBall1":
                return chance(40) ? new int[] {60, -60, 59, -59, 61, -61, 0}[below(7)] : below(123) - 61;
            case "place1":
            case "addBall0":
            case "at0":
                return below(chance(50) ? 12 : 202);
            case "addBall2":
            case "setWeight1":
                return below(22);
            case "pulse0":
                return chance(80) ? 1 + below(20) : below(602);
            case "tick0":
            case "cellIn1":
            case "speedIn1":
            case "hitsIn0":
            case "bouncesIn0":
            case "energyIn0":
            case "energyIf2":
                return chance(80) ? below(4) : below(52);
            case "setSteal1":
            case "bounced1":
            case "energyIf1":
                return chance(40) ? new int[] {0, 100, 101, 99, 1}[below(5)] : below(102);
            case "setSteal0":
                return below(7) - 3;
            case "keep0":
            case "restore0":
                return below(3);
            case "logged0":
                return chance(70) ? below(5) : below(42);
            case "outputByte0":
            case "truncate0":
                return below(60);
            default:
                return name.equals("append") ? below(256) << 24 | 0x3b2030 : below(9);
        }
    }

    // ---- texts ----

    private void text() throws Exception {
        call("truncate", 0);
        int cells = chance(30) ? 10 : 10 + below(chance(70) ? 30 : 191);
        String text = "box " + cells;
        if (chance(60)) {
            text += " steal " + below(101) + " " + (chance(50) ? 0 : below(101));
        }
        text += ";";
        int parts = below(11);
        int cell = below(3);
        for (int i = 0; i < parts && cell < cells; i++) {
            String part = chance(15)
                    ? "post " + cell + " steal " + (chance(50) ? 0 : below(101)) + ";"
                    : "ball " + name(i) + " at " + cell + " speed " + speed() + " weight " + weight() + ";";
            text += chance(10) ? " " + part.replace(" ", "\n ") : part;
            cell = chance(2) ? below(cells) : cell + 1 + below(chance(80) ? 3 : 12);
        }
        if (chance(20)) {
            text = spoilt(text);
        }
        feed(text);
    }

    private String name(int i) {
        String name = "" + (char) ('a' + (chance(98) ? i : below(26)));
        int letters = chance(95) ? below(2) : 5 + below(2);
        for (int k = 0; k < letters; k++) {
            name += (char) ('a' + below(26));
        }
        return name;
    }

    private int weight() {
        return chance(40) ? 1 : chance(20) ? 20 : 1 + below(20);
    }

    private String speed() {
        return (chance(50) ? "-" : "") + (chance(50) ? 60 : below(61));
    }

    private String spoilt(String text) {
        int at = below(text.length());
        switch (below(5)) {
            case 0:
                return text.substring(0, at);
            case 1:
                return text.substring(0, at) + text.substring(at + 1);
            case 2:
                return text.substring(0, at) + (char) below(256) + text.substring(at);
            case 3:
                return text.substring(0, at) + below(1000) + text.substring(at);
            default:
                return text.substring(0, at) + " " + new String[] {"box", "ball", "post", "-", ";", "at"}[below(6)]
                        + " " + text.substring(at);
        }
    }

    private void feed(String text) throws Exception {
        byte[] bytes = text.getBytes(java.nio.charset.StandardCharsets.ISO_8859_1);
        int length = Math.min(bytes.length, 400);
        for (int from = 0; from < length; from += 20) {
            Object[] five = Arrays.stream(Due.words(bytes, from)).boxed().toArray();
            call("append", five);
        }
        call("truncate", length);
    }

    // ---- one call on both ----

    private void call(String name, Object... arguments) throws Exception {
        if (calls >= CALLS || !same) {
            return;
        }
        calls++;
        String mine = answer(program, name, arguments);
        String due = answer(model, name, arguments);
        told.add(name + Arrays.toString(arguments) + " answered " + mine + ", due is " + due);
        same = mine.equals(due);
    }

    private static String answer(Object on, String name, Object[] arguments) throws Exception {
        Class<?>[] types = new Class<?>[arguments.length];
        for (int i = 0; i < types.length; i++) {
            types[i] = arguments[i] instanceof Boolean ? boolean.class : int.class;
        }
        Method m = on.getClass().getDeclaredMethod(name, types);
        try {
            return String.valueOf(m.invoke(on, arguments));
        } catch (InvocationTargetException e) {
            return "throws." + e.getCause().getClass().getName();
        }
    }
}
