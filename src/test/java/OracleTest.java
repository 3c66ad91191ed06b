import java.lang.reflect.InvocationTargetException;
import java.lang.reflect.Method;
import java.lang.reflect.Modifier;
import java.util.ArrayList;
import java.util.Arrays;
import java.util.Comparator;
import java.util.List;
import java.util.Random;

/** Every method of the face, asked in long runs of calls, against what the Oracle answers. */
public final class OracleTest {
    private static final int OBJECTS = 300, CALLS = 512;
    private static final List<Method> FACE = new ArrayList<>();

    private final Random random;
    private final CallRounds x = new CallRounds();
    private final Oracle oracle = new Oracle();
    private final List<String> said = new ArrayList<>();
    private boolean wrong = false;

    private OracleTest(long seed) {
        random = new Random(seed);
    }

    public static void main(String[] args) throws ReflectiveOperationException {
        for (Method m : CallRounds.class.getDeclaredMethods()) {
            if (Modifier.isPublic(m.getModifiers())) FACE.add(m);
        }
        FACE.sort(Comparator.comparing(Method::getName));
        for (int seed = 0; seed < OBJECTS; seed++) new OracleTest(seed).run();
        Check.finish();
    }

    private void run() throws ReflectiveOperationException {
        int style = random.nextInt(3);
        tellSomeNet();
        while (said.size() < CALLS && !wrong) {
            int dice = random.nextInt(100);
            if (dice < 4) tellSomeNet();
            else if (dice < (style == 0 ? 12 : 25)) ask("call", person(), person());
            else if (dice < 28) ask("back");
            else askAnything();
        }
    }

    private void askAnything() throws ReflectiveOperationException {
        Method m = FACE.get(random.nextInt(FACE.size()));
        int[] args = new int[m.getParameterCount()];
        for (int i = 0; i < args.length; i++) args[i] = number(m.getName(), i);
        // A net told at random all but never is one: it would only clear nothing.
        ask(m.getName(), args);
    }

    /** Mostly numbers that are as told, sometimes just beside them, seldom far off. */
    private int number(String name, int place) {
        int dice = random.nextInt(60);
        if (dice == 0) return random.nextInt();
        if (dice == 1) return random.nextBoolean() ? Integer.MAX_VALUE : Integer.MIN_VALUE;
        if (dice < 6) return random.nextInt(20) - 4;
        boolean cells = name.equals("copy") && place != 0 && place != 2 || name.equals("net") && place > 1
            || (name.equals("put") || name.equals("cell")) && place == 1 || name.equals("sheet") && place == 2;
        if (cells) return random.nextInt(random.nextBoolean() ? 8 : 64) - 1;
        if (name.equals("put") && place == 2) return random.nextInt(1 << 1 + random.nextInt(30)) - 200;
        if ((name.equals("bridge") || name.equals("mend") && place == 1)) return random.nextInt(14) - 1;
        return random.nextInt(4);
    }

    private int person() {
        return random.nextInt(30) == 0 ? random.nextInt(7) - 2 : random.nextInt(Math.max(1, x.many(0)));
    }

    private void tellSomeNet() throws ReflectiveOperationException {
        String text = random.nextInt(4) == 0 ? brokenText() : goodText();
        int sheet = random.nextInt(4), lane = random.nextInt(3), ahead = random.nextInt(3);
        ask("sheet", sheet, lane, Math.min(60, ahead + text.length() + random.nextInt(2)));
        for (int i = 0; i < text.length(); i++) ask("put", sheet, ahead + i, text.charAt(i));
        ask("net", sheet, lane, ahead, text.length());
        ask("many", 0);
        ask("many", 3);
    }

    private String goodText() {
        int persons = 1 + random.nextInt(8);
        if (persons > 4) persons = 4;
        int dense = 1 + random.nextInt(9);
        StringBuilder text = new StringBuilder();
        for (int p = 0; p < persons; p++) {
            if (p > 0) text.append(';');
            text.append('p');
            for (int k = 0; k < persons; k++) {
                int q = persons - 1 - k;
                if (q != p && random.nextInt(10) < dense) text.append(q);
            }
        }
        return text.toString();
    }

    private String brokenText() {
        StringBuilder text = new StringBuilder(goodText());
        int changes = 1 + random.nextInt(2);
        for (int c = 0; c < changes && text.length() > 0; c++) {
            int at = random.nextInt(text.length());
            char sign = "p;0123q4/:<o".charAt(random.nextInt(12));
            switch (random.nextInt(3)) {
                case 0: text.setCharAt(at, sign); break;
                case 1: text.insert(at, sign); break;
                default: text.deleteCharAt(at);
            }
        }
        return text.toString();
    }

    private void ask(String name, int... args) throws ReflectiveOperationException {
        if (wrong || said.size() >= CALLS) return;
        Class<?>[] types = new Class<?>[args.length];
        Object[] values = new Object[args.length];
        for (int i = 0; i < args.length; i++) {
            types[i] = int.class;
            values[i] = args[i];
        }
        String what = name + Arrays.toString(args);
        said.add(what);
        long want = ((Number) Oracle.class.getDeclaredMethod(name, types).invoke(oracle, values)).longValue();
        try {
            long got = ((Number) CallRounds.class.getMethod(name, types).invoke(x, values)).longValue();
            Check.due(what, got, want);
            wrong = got != want;
        } catch (InvocationTargetException thrown) {
            System.out.println(what + " threw " + thrown.getCause());
            Check.isTrue("no call throws", false);
            wrong = true;
        }
        if (wrong) System.out.println("  behind " + said);
    }
}
