import java.util.NoSuchElementException;

/** What the tests share: checks that are counted, texts that are told, calls that are refused. */
abstract class Checks {
    static final int NONE = VillageBoard.NONE;

    /** Village 2 is the south's, between the north's 3 and the free 1; 0 stands behind 3. */
    static final String SMALL = "north 3 0;free 1 0;south 5 0;north 2 0;"
            + "road 0 1;road 1 2;road 3 2;road 0 3;style takes*9+worth;style worth-guards;";

    /** A row of villages, with a stone at each end, and a free one off the row that has no road. */
    static final String ROW = "north 1 0;free 2 0;free 4 0;free 8 0;south 16 0;free 20 0;"
            + "road 0 1;road 1 2;road 2 3;road 3 4;";

    private static int checks = 0;
    private static int wrong = 0;
    private static String label = "";

    interface Call {
        Object run();
    }

    /** Says what the checks that follow are of. */
    static void label(String of) {
        label = of;
    }

    static void is(String what, Object got, Object due) {
        checks++;
        if (!String.valueOf(got).equals(String.valueOf(due))) {
            wrong++;
            System.out.println(label + what + " answered " + got + ", due is " + due);
        }
    }

    static void refusesElement(String what, Call call) {
        is(what, thrownBy(call), NoSuchElementException.class);
    }

    static void refusesArgument(String what, Call call) {
        is(what, thrownBy(call), IllegalArgumentException.class);
    }

    /** What the call throws, or else what it answers. */
    static Object thrownBy(Call call) {
        try {
            return call.run();
        } catch (RuntimeException e) {
            return e.getClass();
        }
    }

    static void feed(VillageBoard x, String text) {
        for (int i = 0; i < text.length(); i += 20) {
            int[] n = new int[5];
            for (int k = 0; k < 20; k++) {
                n[k / 4] = n[k / 4] << 8 | (i + k < text.length() ? text.charAt(i + k) : ' ');
            }
            x.feed(n[0], n[1], n[2], n[3], n[4]);
        }
    }

    static VillageBoard told(String text) {
        VillageBoard x = new VillageBoard();
        feed(x, text);
        is("board of " + text, x.board(text.length()), 0);
        return x;
    }

    static void fault(String text, int code, int place) {
        VillageBoard x = new VillageBoard();
        feed(x, text);
        is("board of " + text, x.board(text.length()), code);
        is("fault of " + text, x.fault(), place);
        is("refused texts", x.count(12), code == 0 ? 0 : 1);
    }

    static void takesGives(String expr, boolean more) {
        is(expr, told("north 7 0;south 5 3;road 0 1;takes " + expr + ";").lawful(0, 1), more);
    }

    static void gives(String expr, int due) {
        takesGives("(" + expr + ")=" + due, true);
    }

    static void pass(VillageBoard x, int many) {
        for (int i = 0; i < many; i++) {
            x.pass();
        }
    }

    /** Plays, then passes, so that few calls and few acts are needed. */
    static void passTo(VillageBoard x, int evening) {
        for (int i = x.count(3); i + 30 <= evening; i += 30) {
            x.play(30);
        }
        pass(x, evening - x.count(3));
        is("evening", x.count(3), evening);
    }

    static VillageBoard lateEvening(int evening) {
        VillageBoard x = told("north 0 0;free 0 0;south 0 0;free 0 0;road 0 1;road 2 3;style 0;");
        passTo(x, evening);
        return x;
    }

    static void finish(String name) {
        System.out.println(name + ": " + checks + " checks, " + wrong + " wrong");
        System.exit(wrong == 0 ? 0 : 1);
    }
}
