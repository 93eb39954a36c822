import java.lang.reflect.InvocationTargetException;
import java.lang.reflect.Method;
import java.util.ArrayList;
import java.util.HashMap;
import java.util.List;
import java.util.Map;
import java.util.Random;

/** Runs of calls by fixed seeds, on the program and on the plain model: every answer must be the same. */
public final class ModelRuns {
    private static final String[] VALUES = {"helps", "guards", "fort", "worth", "home", "takes", "turns", "evening"};
    private static final Map<String, Method> OF_PROGRAM = byName(VillageBoard.class);
    private static final Map<String, Method> OF_MODEL = byName(PlainModel.class);
    private static int calls = 0;
    private static int wrong = 0;

    private ModelRuns() {
    }

    public static void main(String[] args) throws Exception {
        int runs = args.length > 0 ? Integer.parseInt(args[0]) : 400;
        int first = args.length > 1 ? Integer.parseInt(args[1]) : 1;
        for (int run = first; run < first + runs && wrong < 20; run++) {
            play(run);
        }
        System.out.println("ModelRuns: " + calls + " calls, " + wrong + " not as the model's");
        System.exit(wrong == 0 ? 0 : 1);
    }

    private static Map<String, Method> byName(Class<?> of) {
        Map<String, Method> all = new HashMap<>();
        for (Method m : of.getDeclaredMethods()) {
            if (java.lang.reflect.Modifier.isPublic(m.getModifiers())) {
                m.setAccessible(true);
                all.put(m.getName(), m);
            }
        }
        return all;
    }

    private static void play(int run) throws Exception {
        Random random = new Random(run);
        VillageBoard program = new VillageBoard();
        PlainModel model = new PlainModel();
        List<String> told = new ArrayList<>();
        List<String> names = new ArrayList<>(OF_PROGRAM.keySet());
        names.sort(null);
        int left = 512;
        while (left > 0 && wrong < 20) {
            String text = text(random);
            left -= tell(program, model, text, random, told);
            int some = 5 + random.nextInt(120);
            for (int i = 0; i < some && left > 0; i++, left--) {
                String name = names.get(random.nextInt(names.size()));
                if (random.nextInt(4) == 0) {
                    name = new String[] {"move", "play", "pass", "fly", "teach", "see"}[random.nextInt(6)];
                }
                if ((name.equals("board") || name.equals("feed")) && random.nextInt(20) > 0) {
                    continue;
                }
                both(program, model, name, arguments(name, program, random), told);
            }
        }
    }

    private static int tell(VillageBoard program, PlainModel model, String text, Random random,
            List<String> told) throws Exception {
        told.add("# " + text);
        int made = 2;
        if (program.count(11) > 0) {
            both(program, model, "board", new Object[] {0}, told);
            made++;
        }
        for (int i = 0; i < text.length(); i += 20) {
            Object[] five = new Object[5];
            for (int k = 0; k < 5; k++) {
                int number = 0;
                for (int b = 0; b < 4; b++) {
                    int at = i + 4 * k + b;
                    number = number << 8 | (at < text.length() ? text.charAt(at) : ' ');
                }
                five[k] = number;
            }
            both(program, model, "feed", five, told);
            made++;
        }
        both(program, model, "board", new Object[] {text.length()}, told);
        both(program, model, "fault", new Object[0], told);
        return made;
    }

    private static void both(VillageBoard program, PlainModel model, String name, Object[] args,
            List<String> told) throws Exception {
        String got = answer(OF_PROGRAM.get(name), program, args);
        String due = answer(OF_MODEL.get(name), model, args);
        calls++;
        told.add(name + java.util.Arrays.toString(args) + " -> " + got);
        if (!got.equals(due)) {
            wrong++;
            System.out.println("due is " + due + " at the end of");
            for (String s : told.subList(Math.max(0, told.size() - 60), told.size())) {
                System.out.println("  " + s);
            }
        }
    }

    private static String answer(Method method, Object of, Object[] args) throws Exception {
        try {
            return String.valueOf(method.invoke(of, args));
        } catch (InvocationTargetException e) {
            return e.getCause().getClass().getName();
        }
    }

    private static Object[] arguments(String name, VillageBoard program, Random random) {
        int villages = program.count(0);
        int styles = program.count(2);
        Class<?>[] types = OF_PROGRAM.get(name).getParameterTypes();
        Object[] all = new Object[types.length];
        for (int i = 0; i < all.length; i++) {
            all[i] = edged(random, Math.max(1, villages));
        }
        switch (name) {
            case "feed":
                for (int i = 0; i < 5; i++) {
                    all[i] = random.nextInt();
                }
                break;
            case "board": all[0] = random.nextInt(30) - 2; break;
            case "count": all[0] = edged(random, 15); break;
            case "village": all[1] = edged(random, 7); break;
            case "side": all[0] = edged(random, 2); all[1] = edged(random, 6); break;
            case "teach": all[0] = edged(random, 2); all[1] = random.nextInt(styles + 3) - 1; break;
            case "play": all[0] = random.nextInt(5) == 0 ? edged(random, 31) : 1 + random.nextInt(3); break;
            case "look": all[0] = random.nextInt(12) == 0 ? edged(random, 4) : random.nextInt(3);
                all[1] = edged(random, 2); break;
            case "played": all[0] = edged(random, 30); break;
            case "treasury": all[0] = edged(random, 2); all[1] = edged(random, 31); break;
            case "plant": all[1] = edged(random, 3); break;
            case "see": all[0] = edged(random, random.nextBoolean() ? 4 : 30); likely(all, program, random); break;
            case "styles": case "next": all[0] = edged(random, 2); break;
            case "game": all[0] = edged(random, styles); all[1] = edged(random, styles); all[2] = edged(random, 2); break;
            case "years": all[0] = random.nextInt(); all[1] = edged(random, 61); all[2] = edged(random, 3); break;
            case "owes": case "parts": case "key": all[0] = edged(random, 2); break;
            case "move": case "gift": case "regret": lawful(all, program, random); break;
            default: break;
        }
        return all;
    }

    /** Mostly 0 to n - 1, with the edges a little more often, and sometimes outside. */
    private static int edged(Random random, int n) {
        int r = random.nextInt(40);
        if (r == 0) {
            return -1;
        }
        if (r == 1) {
            return n;
        }
        if (r == 2) {
            return new int[] {Integer.MIN_VALUE, Integer.MAX_VALUE, -2, n + 1}[random.nextInt(4)];
        }
        return r == 3 ? Math.max(0, n - 1) : random.nextInt(Math.max(1, n));
    }

    private static void lawful(Object[] all, VillageBoard program, Random random) {
        int n = program.count(0);
        for (int tries = 0; tries < 60 && n > 0 && random.nextInt(20) > 0; tries++) {
            int from = random.nextInt(n);
            int to = random.nextInt(n);
            if (program.lawful(from, to) && program.village(from, 2) == program.count(4)) {
                all[0] = from;
                all[1] = to;
                return;
            }
        }
    }

    private static void likely(Object[] all, VillageBoard program, Random random) {
        int i = (Integer) all[0];
        if (i >= 0 && i < 30 && random.nextInt(3) > 0 && program.count(0) > 0) {
            int move = program.played(i);
            all[1] = move < 0 ? 0 : move / 100;
            all[2] = move < 0 ? 0 : move % 100;
        }
    }

    // ---- texts

    private static String text(Random random) {
        StringBuilder text = new StringBuilder();
        int villages = random.nextInt(8) == 0 ? random.nextInt(12) : 3 + random.nextInt(6);
        boolean poor = random.nextInt(4) == 0;
        for (int v = 0; v < villages; v++) {
            String stone = new String[] {"north", "south", "free"}[random.nextInt(3)];
            int worth = random.nextInt(poor ? 3 : 21);
            int fort = random.nextInt(3) == 0 ? random.nextInt(4) : 0;
            text.append(stone).append(' ').append(worth).append(' ').append(fort).append(';');
        }
        roads(text, villages, random);
        if (random.nextInt(2) > 0) {
            text.append("takes ").append(expr(random, 0)).append(';');
        }
        int styles = random.nextInt(6) == 0 ? random.nextInt(5) : 1 + random.nextInt(3);
        for (int s = 0; s < styles; s++) {
            text.append("style ").append(expr(random, 0)).append(';');
        }
        if (random.nextInt(6) == 0) {
            mutate(text, random);
        }
        if (text.length() > 690) {
            text.setLength(690);
        }
        return text.toString();
    }

    private static void roads(StringBuilder text, int villages, Random random) {
        int roads = random.nextInt(40);
        boolean[] known = new boolean[400];
        int told = 0;
        for (int r = 0; r < roads && villages > 1; r++) {
            int a = random.nextInt(villages);
            int b = random.nextInt(villages);
            boolean good = a != b && !known[20 * a + b] && told < 18;
            if (good || random.nextInt(300) == 0) {
                known[20 * a + b] = true;
                known[20 * b + a] = true;
                told++;
                text.append("road ").append(a).append(' ').append(b).append(';');
            }
        }
    }

    private static String expr(Random random, int depth) {
        return chain(random, depth, 0);
    }

    /** Mostly as the grammar says: or, and, tests, sums, products, parts. */
    private static String chain(Random random, int depth, int level) {
        String blank = random.nextInt(20) == 0 ? " \n " : " ";
        if (level == 5) {
            return part(random, depth);
        }
        String made = chain(random, depth, level + 1);
        int most = level < 2 ? 8 : 4;
        if (level == 2) {
            if (random.nextInt(4) == 0) {
                made += (random.nextBoolean() ? "<" : "=") + chain(random, depth, 3);
            }
            for (int nots = random.nextInt(8) == 0 ? 1 + random.nextInt(7) : 0; nots > 0; nots--) {
                made = "not" + blank + made;
            }
            return made;
        }
        while (random.nextInt(most) == 0) {
            String joint = level == 0 ? blank + "or" + blank : level == 1 ? blank + "and" + blank
                    : level == 3 ? random.nextBoolean() ? "+" : "-" : random.nextInt(4) == 0 ? "/" : "*";
            made += joint + chain(random, depth, level + 1);
        }
        return made;
    }

    private static String part(Random random, int depth) {
        int kind = random.nextInt(8);
        if (kind < 5) {
            return VALUES[random.nextInt(VALUES.length)];
        }
        if (kind == 5) {
            return String.valueOf(random.nextInt(random.nextInt(6) == 0 ? 10000 : 6));
        }
        return "(" + chain(random, depth + 1, 0) + ")";
    }

    private static void mutate(StringBuilder text, Random random) {
        int many = 1 + random.nextInt(2);
        String signs = " ;()+-*/<=019az\n\0Z";
        String[] words = {"not ", "or ", "takes ", "style ", "(((", "12345", "north 1 1;", "not not not ", "sun", "9"};
        for (int i = 0; i < many && text.length() > 0; i++) {
            int at = random.nextInt(text.length());
            switch (random.nextInt(4)) {
                case 0: text.deleteCharAt(at); break;
                case 1: text.setCharAt(at, signs.charAt(random.nextInt(signs.length()))); break;
                case 2: text.insert(at, words[random.nextInt(words.length)]); break;
                default: text.setLength(at); break;
            }
        }
    }
}
