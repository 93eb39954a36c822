import java.util.NoSuchElementException;

/**
 * Boards alike in all, of which one is asked or refused something and the other is not:
 * whatever can be told of them must be alike then, too.
 */
abstract class Twins extends Sentences {
    static final String LIVELY = "north 3 0;free 1 0;south 5 0;north 2 0;free 4 1;"
            + "road 0 1;road 1 2;road 3 2;road 0 3;road 1 4;"
            + "style takes*9+worth;style worth-guards;style 1;";

    /** Beyond any row, and such as a shift by them or a sum with them would wrap around. */
    static final int[] FAR = {Integer.MIN_VALUE, Integer.MIN_VALUE + 1, -32, -2, 10, 16, 31, 32, 33, 64, 100,
        Integer.MAX_VALUE - 1, Integer.MAX_VALUE};

    interface OfNumber {
        Object run(VillageBoard x, int number);
    }

    interface Make {
        VillageBoard make();
    }

    interface On {
        Object run(VillageBoard x);
    }

    /** The south's turn: acts to undo, an image with others, things seen, half a text on the tape, one of each refused. */
    static VillageBoard lively() {
        VillageBoard x = told(LIVELY);
        feed(x, "free 1 1;road 0 0;");
        x.board(18);
        x.fly(1, 0);
        x.see(30, 0, 0);
        x.see(3, 3, 2);
        x.pass();
        x.pass();
        x.image();
        x.move(0, 1);
        x.teach(1, 2);
        x.fly(3, 4);
        x.see(0, 0, 0);
        feed(x, "free 7 2;free 0 0;road 0 0;");
        return x;
    }

    /** An act (status 1), something seen (status 2) is refused: the answer, one more refused, nothing else. */
    static void refuses(String what, Make make, On call, Object due, int status) {
        VillageBoard x = make.make();
        VillageBoard twin = make.make();
        is(what, call.run(x), due);
        for (int i = 0; i < 3; i++) {
            is(what + ": refused of " + i, x.count(12 + i), twin.count(12 + i) + (i == status ? 1 : 0));
        }
        is(what + ": all else", whole(x), whole(twin));
    }

    /** A call that throws, or one that only asks: nothing changes, nor is it counted. */
    static void leavesAll(String what, Make make, On call, Object due) {
        refuses(what, make, x -> thrownBy(() -> call.run(x)), due, NONE);
    }

    /** A call that only asks, whatever its answer is. */
    static void asks(String what, Make make, On call) {
        Object answer = thrownBy(() -> call.run(make.make()));
        leavesAll(what, make, x -> call.run(x).equals(answer) ? answer : "another answer", answer);
    }

    /** Asked for 0 to the most, it answers; for anything else it throws, and nothing changes. */
    static void bounds(String call, int most, OfNumber ask) {
        for (int what = 0; what <= most; what++) {
            int it = what;
            asks(call + " " + it, Twins::lively, x -> String.valueOf(ask.run(x, it)));
            is(call + " " + it, ask.run(lively(), it) instanceof Integer, true);
        }
        for (int what : FAR) {
            if (what < 0 || what > most) {
                leavesAll(call + " " + what, Twins::lively, x -> ask.run(x, what), NoSuchElementException.class);
            }
        }
        leavesAll(call + " below", Twins::lively, x -> ask.run(x, -1), NoSuchElementException.class);
        leavesAll(call + " above", Twins::lively, x -> ask.run(x, most + 1), NoSuchElementException.class);
    }

    /** Everything that a board tells; what can be undone, its image and its tape are used up for it. */
    static String whole(VillageBoard x) {
        StringBuilder all = new StringBuilder();
        for (int what = 0; what <= 11; what++) {
            all.append(x.count(what)).append(' ');
        }
        all.append("fault ").append(x.fault()).append(" villages");
        int villages = x.count(0);
        for (int village = 0; village < villages; village++) {
            for (int what = 0; what <= 6; what++) {
                all.append(' ').append(x.village(village, what));
            }
            for (int other = 0; other < village; other++) {
                all.append(x.road(village, other) ? " road" : "");
            }
        }
        for (int what = 0; what <= 5; what++) {
            all.append(" side ").append(x.side(0, what)).append(' ').append(x.side(1, what));
        }
        all.append(" seen ").append(x.styles(0)).append(' ').append(x.styles(1)).append(' ').append(x.next(0));
        all.append(undone(x));
        all.append(" image ").append(x.restore()).append(glance(x));
        all.append(" seen ").append(x.styles(0)).append(' ').append(x.styles(1)).append(' ').append(x.next(0));
        all.append(undone(x));
        all.append(" tape ").append(x.board(x.count(11))).append(' ').append(x.fault()).append(' ').append(x.count(0));
        return all.toString();
    }

    private static String undone(VillageBoard x) {
        StringBuilder all = new StringBuilder();
        int acts = x.count(9);
        for (int i = 0; i <= acts && i < 6; i++) {
            all.append(" undo ").append(x.undo()).append(glance(x));
        }
        return all.toString();
    }

    private static String glance(VillageBoard x) {
        StringBuilder all = new StringBuilder(":");
        for (int what = 3; what <= 10; what++) {
            all.append(' ').append(x.count(what));
        }
        for (int side = 0; side < 2; side++) {
            all.append(' ').append(x.side(side, 0)).append(' ').append(x.side(side, 1)).append(' ').append(x.owes(side));
        }
        int villages = x.count(0);
        for (int village = 0; village < villages && village < 4; village++) {
            all.append(' ').append(x.village(village, 5)).append(' ').append(x.village(village, 6));
        }
        return all.toString();
    }
}
