import java.util.NoSuchElementException;

/** The boundaries of what hangs on what, of what lies ahead, of what was seen, of games and years; promises 16 to 31. */
final class AheadBoundaries extends Twins {
    /** 0 and 9 at the ends of a row of ten villages, a stone in 0. */
    private static final String LONG_ROW = "north 0 0;" + "free 0 0;".repeat(9) + "road 0 1;road 1 2;road 2 3;road 3 4;"
            + "road 4 5;road 5 6;road 6 7;road 7 8;road 8 9;";

    /** 9 hangs on 0, for 8 may take it without 0. */
    private static final String HANGING = "north 0 0;" + "free 0 0;".repeat(7)
            + "south 0 0;north 0 0;road 0 9;road 8 9;";

    private static final String BESIDE = "north 2 0;south 5 0;road 0 1;takes ";

    /** The north's stone in 0 goes to 1 by style 0, to 2 by style 1 (both then back), and stays by style 2; so the south's. */
    private static final String TELLING = "north 5 0;free 1 0;free 2 0;south 5 0;free 1 0;free 2 0;"
            + "road 0 1;road 0 2;road 3 4;road 3 5;style worth=1 or worth=5;style worth=2 or worth=5;style 0;";

    private AheadBoundaries() {
    }

    static void run() {
        enPrise();
        pinned();
        hangs();
        hangingOnWhat();
        looksHowFar();
        looksAtWhat();
        lookRefused();
        leads();
        bestMoves();
        wins();
        noWin();
        journeys();
        journeyFromNowhere();
        playedWhen();
        playedMoves();
        turned();
        neverTurned();
        treasuries();
        treasuryRefused();
        gifts();
        noGift();
        noStyleForAGift();
        plants();
        odds();
        asparagus();
        plantRefused();
        seen();
        seenWhen();
        seenRefused();
        forgotten();
        stylesSeen();
        howManyStyles();
        stylesRefused();
        nextEvening();
        nextRefused();
        treaties();
        games();
        gains();
        resting();
        gameRefused();
        years();
        draws();
        seeds();
        yearsRefused();
    }

    // ---- 16

    private static void enPrise() {
        terms("EN PRISE are VILLAGES with a SIDE's STONES that the other SIDE might take by one MOVE now, were it its TURN.");
        is("takes gives 0", told(BESIDE + "0;").side(1, 2), 0);
        is("takes gives 1", told(BESIDE + "1;").side(1, 2), 2);
        VillageBoard x = told(BESIDE + "evening=1;");
        is("not yet", x.side(0, 2) + " " + x.side(1, 2), "0 0");
        x.pass();
        is("now, whosever turn", x.side(0, 2) + " " + x.side(1, 2), "1 2");
        x.pass();
        is("no more", x.side(0, 2) + " " + x.side(1, 2), "0 0");
        is("not by two moves", told("north 0 0;free 0 0;south 0 0;road 0 1;road 1 2;takes 1;").side(1, 2), 0);
    }

    private static void pinned() {
        terms("PINNED is a VILLAGE whose STONE, were it off the board, would let another STONE of its SIDE be EN PRISE"
                + " that isn't now.");
        is("one guard", told(HANGING).side(0, 3), 1);
        is("two guards", told(HANGING.replaceFirst("free", "north") + "road 1 9;").side(0, 3), 0);
        VillageBoard x = told(HANGING);
        x.fly(0, 1);
        is("no guard: it is already", x.side(0, 2) + " " + x.side(0, 3), "512 0");
        is("only another stone counts", told("north 0 0;south 0 0;road 0 1;").side(0, 3), 0);
        VillageBoard back = told("north 0 0;south 0 0;" + "free 0 0;".repeat(7) + "north 0 0;road 0 9;road 1 0;");
        is("the last village", back.side(0, 3), 512);
    }

    private static void hangs() {
        promise(16, "HANGS on a VILLAGE, as bits (0 without a STONE).");
        VillageBoard x = told(HANGING);
        is("the greatest bit", x.hangs(0), 512);
        is("nothing", x.hangs(9) + " " + x.hangs(8), "0 0");
        is("without a stone", x.hangs(1) + " " + x.hangs(7), "0 0");
        VillageBoard back = told("north 0 0;south 0 0;" + "free 0 0;".repeat(7) + "north 0 0;road 0 9;road 1 0;");
        is("the least bit", back.hangs(9), 1);
        VillageBoard star = told("north 0 0;".repeat(5) + "south 0 0;".repeat(4)
                + "road 0 1;road 0 2;road 0 3;road 0 4;road 5 1;road 6 2;road 7 3;road 8 4;");
        is("as many as are guarded", star.hangs(0), 30);
    }

    private static void hangingOnWhat() {
        terms("HANGS on a VILLAGE: which ones (those of its SIDE that would be EN PRISE then, and aren't now).");
        VillageBoard x = told(HANGING);
        is("it would be, and isn't", x.hangs(0), 512);
        x.fly(0, 2);
        is("it would be, and is", x.hangs(2) + " " + x.side(0, 2), "0 512");
        VillageBoard two = told(HANGING.replaceFirst("free", "north") + "road 1 9;");
        is("it wouldn't be", two.hangs(0) + " " + two.hangs(1), "0 0");
        // 0 blocks nothing of the other side's: only those of its own are asked for.
        VillageBoard other = told("north 0 0;south 0 0;south 0 0;north 0 0;road 1 2;road 2 3;takes guards=0;");
        is("2 hangs on 1, not on 0", other.hangs(0) + " " + other.hangs(1) + " " + other.hangs(3), "0 4 0");
    }

    // ---- 17

    private static void looksHowFar() {
        terms("LOOK so many EVENINGS (0 to 3) ahead");
        for (int evenings = 0; evenings <= 3; evenings++) {
            for (int what = 0; what < 2; what++) {
                int far = evenings;
                int it = what;
                asks("look " + far, Twins::lively, x -> x.look(far, it));
                is("look " + far, thrownBy(() -> lively().look(far, it)) instanceof Integer, true);
            }
        }
        // Who takes on evening 0, 1, 2, 3 is seen by looking 1, 2, 3, 4 evenings ahead.
        int[][] due = {{-3, 7, 7, 7}, {-3, -3, -7, -7}, {-3, -3, -3, 7}, {-3, -3, -3, -3}};
        for (int when = 0; when <= 3; when++) {
            VillageBoard x = told(BESIDE + "evening=" + when + ";");
            for (int far = 0; far <= 3; far++) {
                is("taken on " + when + ", looking " + far, x.look(far, 0), due[when][far]);
            }
        }
    }

    private static void looksAtWhat() {
        promise(17, "LOOK: WORTH (what 0), THE BEST MOVE (1; 100 by where from and where to; NONE: a PASS, no EVENINGS).");
        VillageBoard x = told("free 0 0;".repeat(8) + "free 5 0;north 0 0;road 8 9;");
        is("no evenings", x.look(0, 0) + " " + x.look(0, 1), "0 -1");
        is("one", x.look(1, 0) + " " + x.look(1, 1), "5 908");
        VillageBoard low = told("north 0 0;free 5 0;road 0 1;");
        is("from 0 to 1", low.look(1, 0) + " " + low.look(1, 1), "5 1");
        VillageBoard still = told("north 4 0;");
        is("a pass", still.look(1, 0) + " " + still.look(1, 1) + " " + still.look(3, 1), "4 -1 -1");
        VillageBoard most = told("north 20 0;".repeat(10));
        is("most", most.look(0, 0) + " " + most.look(3, 0), "200 200");
        most.pass();
        is("least", most.look(0, 0) + " " + most.look(3, 0), "-200 -200");
    }

    private static void lookRefused() {
        promise(17, "NoSuchElementException: another what. IllegalArgumentException (behind that): how far.");
        bounds("look 0", 1, (x, what) -> x.look(0, what));
        bounds("look 3", 1, (x, what) -> x.look(3, what));
        for (int far : FAR) {
            leavesAll("look " + far, Twins::lively, x -> x.look(far, 0), IllegalArgumentException.class);
            leavesAll("both", Twins::lively, x -> x.look(far, 2), NoSuchElementException.class);
        }
        for (int what = 0; what < 2; what++) {
            int it = what;
            leavesAll("below", Twins::lively, x -> x.look(-1, it), IllegalArgumentException.class);
            leavesAll("above", Twins::lively, x -> x.look(4, it), IllegalArgumentException.class);
        }
        leavesAll("both", Twins::lively, x -> x.look(-1, -1), NoSuchElementException.class);
        leavesAll("both", Twins::lively, x -> x.look(4, 2), NoSuchElementException.class);
    }

    private static void leads() {
        terms("WORTH of all VILLAGES with the FLAG of the SIDE whose TURN it is, less that of those with the other one's,"
                + " at their end, if both MOVE (or PASS) as is best for each, each for itself of just this");
        VillageBoard x = told("north 7 0;south 3 0;free 20 0;");
        is("the north's", x.look(0, 0), 4);
        x.pass();
        is("the south's", x.look(0, 0) + " " + x.look(3, 0), "-4 -4");
        // Both may go to 1: who comes first has it; then the other one takes it back, guarded by nobody.
        String middle = "north 4 0;free 3 0;south 4 0;road 0 1;road 1 2;";
        is("nobody, the north, the south, the north", told(middle + "takes 1;").look(0, 0) + " "
                + told(middle + "takes 1;").look(1, 0) + " " + told(middle + "takes 1;").look(2, 0) + " "
                + told(middle + "takes 1;").look(3, 0), "0 3 -3 3");
        is("it can't be taken", told(middle + "takes 0;").look(2, 0) + " " + told(middle + "takes 0;").look(3, 0), "3 3");
        VillageBoard fled = told(BESIDE + "evening=1;free 0 0;road 0 2;");
        is("a flag stays behind, and is taken", fled.look(2, 0), -7);
        // It goes to 1 on evening 0, and takes on evening 2; the other one, on evening 1, may not.
        VillageBoard caught = told("north 0 0;free 0 0;south 5 0;road 0 1;road 1 2;takes evening=2;");
        is("evening by evening, by moves", caught.look(1, 0) + " " + caught.look(2, 0) + " " + caught.look(3, 0) + " "
                + caught.look(3, 1), "-5 -5 5 1");
    }

    private static void bestMoves() {
        terms("THE BEST MOVE (of like ones by the least VILLAGE from which, then to which, a PASS last).");
        VillageBoard to = told("north 0 0;free 0 0;free 0 0;road 0 2;road 0 1;");
        is("to which", to.look(1, 1) + " " + to.look(2, 1) + " " + to.look(3, 1), "1 1 1");
        VillageBoard from = told("free 3 0;north 0 0;north 0 0;road 2 0;road 1 0;");
        is("from which", from.look(1, 1) + " " + from.look(2, 1) + " " + from.look(3, 1), "100 100 100");
        VillageBoard more = told("north 0 0;free 4 0;free 5 0;road 0 1;road 0 2;");
        is("one more is better", more.look(1, 1), 2);
        // Going away lets the other one in: the pass is as good by one evening, better by two.
        VillageBoard home = told("north 4 0;free 0 0;south 4 0;road 0 1;road 0 2;takes 0;");
        is("a pass last", home.look(1, 1), 1);
        is("a pass alone", home.look(2, 1) + " " + home.look(2, 0), "-1 0");
        VillageBoard flag = told("north 0 0;south 3 0;free 5 0;free 0 0;road 0 1;road 0 2;takes 0;");
        flag.fly(1, 3);
        is("3 that the other one has are 6", flag.look(1, 0) + " " + flag.look(1, 1), "3 1");
        // On evening 1 the other one takes it, wherever it is; on evening 0 or 2 it couldn't, and it would stay.
        VillageBoard next = told(BESIDE + "evening=1;free 0 0;road 0 2;");
        is("the answer is on the next evening", next.look(2, 1), 2);
        // Worth 8 makes up for the 4 lost and the 4 that the other one gains; 7 doesn't, 9 does more.
        for (int worth = 7; worth <= 9; worth++) {
            VillageBoard x = told("north 4 0;free " + worth + " 0;south 4 0;road 0 1;road 0 2;takes 0;");
            is("as good as a pass at 8: " + worth, x.look(2, 1), worth < 8 ? NONE : 1);
        }
    }

    // ---- 18, 19

    private static void wins() {
        terms("A WIN: the fewest EVENINGS (1 to 3) by which the SIDE whose TURN it is can, whatever the other one does,"
                + " leave it without STONES; none.");
        int[] due = {1, NONE, 3, NONE, NONE};
        for (int when = 0; when <= 4; when++) {
            is("taken on " + when, told(BESIDE + "evening=" + when + ";").win(), due[when]);
        }
        is("the fewest", told(BESIDE + "evening=0 or evening=2;").win(), 1);
        VillageBoard south = told(BESIDE + "evening=1 or evening=4;");
        south.pass();
        is("the south's", south.win(), 1);
        south.pass();
        is("the north's, on the third evening", south.win(), 3);
        String alternate = "takes evening=0 or evening=2;";
        String one = "north 0 0;south 0 0;road 0 1;";
        is("one stone", told(one + alternate).win(), 1);
        is("two", told(one + "north 0 0;south 0 0;road 2 3;" + alternate).win(), 3);
        is("three", told(one + "north 0 0;south 0 0;road 2 3;north 0 0;south 0 0;road 4 5;" + alternate).win(), NONE);
        is("it gets away", told(one + "free 0 0;road 1 2;takes evening=2;").win(), NONE);
        is("it can't", told(one + "free 0 0;road 1 2;road 0 2;takes evening=2;").win(), 3);
        is("it takes", told(one + "takes evening=1 or evening=2;").win(), NONE);
        String caught = "north 0 0;free 0 0;south 0 0;road 0 1;road 1 2;takes evening=";
        is("by a move first", told(caught + "2;").win(), 3);
        is("five are too many", told(caught + "4;").win(), NONE);
        is("it takes what comes", told(caught + "1 or evening=2;").win(), NONE);
        is("away from where it went", told("north 0 0;free 0 0;south 0 0;free 0 0;road 0 1;road 1 2;road 2 3;road 3 0;"
                + "takes evening=2;").win(), NONE);
        is("so from 3", told("free 0 0;south 0 0;free 0 0;north 0 0;road 0 1;road 1 2;road 2 3;road 3 0;"
                + "takes evening=2;").win(), NONE);
        is("with a help", told("north 0 0;south 0 1;north 0 0;road 0 1;road 2 1;").win(), 1);
        is("without one", told("north 0 0;south 0 1;north 0 0;road 0 1;").win(), NONE);
        // The south's 1 takes 0, without a help of its own, and is where it can't be taken then.
        is("it takes without a help", told("north 0 0;south 5 0;north 0 0;road 0 1;road 0 2;"
                + "takes helps=0 and evening=1 or evening=2 and worth=5;").win(), NONE);
        is("village 0 gets away", told("south 0 0;north 0 0;free 0 0;road 1 0;road 0 2;takes evening=2;").win(), NONE);
        is("wherever it goes", told("north 0 0;south 0 0;free 0 0;north 0 0;free 0 0;"
                + "road 0 1;road 1 2;road 1 4;road 3 2;road 3 4;takes evening=2;").win(), 3);
        is("away, and taken too late", told(one + "free 0 0;road 1 2;takes evening=2 or evening=4;").win(), NONE);
    }

    private static void noWin() {
        promise(18, "A WIN: how many EVENINGS; NONE: none (also if the other SIDE has no STONES now).");
        is("no stones of the other's", told("north 0 0;free 0 0;road 0 1;").win(), NONE);
        is("no stones of its own", told("south 0 0;free 0 0;road 0 1;").win(), NONE);
        is("no stones", told("free 0 0;").win() + " " + new VillageBoard().win(), "-1 -1");
        VillageBoard x = told(BESIDE + "1;");
        is("before", x.win(), 1);
        x.move(0, 1);
        is("the loser", x.win(), NONE);
        x.pass();
        is("the winner", x.win(), NONE);
    }

    private static void journeys() {
        terms("A JOURNEY of a STONE to a VILLAGE: the fewest MOVES of it along ROADS through VILLAGES without STONES"
                + " (the last one without, too), all else as it is; none.");
        VillageBoard x = told(LONG_ROW);
        for (int to = 0; to < 10; to++) {
            is("to " + to, x.journey(0, to), to);
        }
        String ring = LONG_ROW + "road 0 9;";
        int[] round = {0, 1, 2, 3, 4, 5, 4, 3, 2, 1};
        for (int to = 0; to < 10; to++) {
            is("in a ring to " + to, told(ring).journey(0, to), round[to]);
        }
        for (String stone : new String[] {"north", "south"}) {
            VillageBoard y = told(LONG_ROW.replaceFirst("(free 0 0;){4}", "free 0 0;free 0 0;free 0 0;" + stone + " 0 0;"));
            is("up to a stone", y.journey(0, 3) + " " + y.journey(0, 4) + " " + y.journey(0, 5), "3 -1 -1");
            is("from it", y.journey(4, 1) + " " + y.journey(4, 9) + " " + y.journey(4, 0), "3 5 -1");
        }
        is("without a road", told("north 0 0;free 0 0;").journey(0, 1), NONE);
    }

    private static void journeyFromNowhere() {
        promise(19, "A JOURNEY (0 where it is); NONE: none, no STONE there.");
        VillageBoard x = told("north 0 0;free 0 0;south 0 0;road 0 1;road 1 2;");
        is("where it is", x.journey(0, 0) + " " + x.journey(2, 2), "0 0");
        is("no stone there", x.journey(1, 1) + " " + x.journey(1, 0), "-1 -1");
        is("whosever turn", x.journey(2, 1), 1);
        is("none", x.journey(0, 2), NONE);
    }

    // ---- 20 to 22

    private static void playedWhen() {
        terms("PLAYED by STYLES from now on: the MOVE of the i-th EVENING (0 to 29)");
        promise(20, "NoSuchElementException: not 0 to 29.");
        bounds("played", 29, (x, i) -> x.played(i));
        VillageBoard empty = new VillageBoard();
        is("of no villages", empty.played(0) + " " + empty.played(29), "-1 -1");
        refusesElement("of no villages", () -> empty.played(30));
    }

    private static void playedMoves() {
        promise(20, "PLAYED: the MOVE (100 by where from and where to; NONE: a PASS).");
        for (int when = 0; when <= 30; when += 2) {
            VillageBoard x = told("north 1 0;free 1 0;road 0 1;style evening=" + when + ";");
            for (int i = 0; i < 30; i++) {
                is("on " + when + ": " + i, x.played(i), i == when ? 1 : NONE);
            }
        }
        VillageBoard last = told("free 0 0;".repeat(8) + "free 1 0;south 1 0;road 8 9;style evening=29;");
        is("the last evening, from 9 to 8", last.played(28) + " " + last.played(29), "-1 908");
        // Acts stop at evening 999; what is only foreseen goes on (see NOTES.md).
        VillageBoard late = told("north 1 0;free 1 0;road 0 1;style evening=1000 or evening=1028;");
        passTo(late, 999);
        is("beyond 999", late.played(0) + " " + late.played(1) + " " + late.played(29) + " " + late.turned(1) + " "
                + late.pass(), "-1 1 100 2 -1");
        last.pass();
        is("from now on", last.played(27) + " " + last.played(28) + " " + last.played(29), "-1 908 -1");
    }

    private static void turned() {
        terms("the first EVENING, of 30, by which a VILLAGE has another FLAG than now at its end (1 on)");
        for (int when = 0; when <= 32; when++) {
            String stone = when % 2 == 0 ? "north" : "south";
            VillageBoard x = told(stone + " 1 0;free 1 0;road 0 1;style evening=" + when + ";");
            is("on " + when, x.turned(1) + " " + x.turned(0), (when < 30 ? when + 1 : NONE) + " -1");
        }
        // The south takes 1 on evening 1, the north takes it back on evening 2: it is as now then, but was not.
        VillageBoard back = told("north 1 0;north 1 0;south 1 0;road 0 1;road 1 2;takes 1;style evening=2;style evening=1;");
        is("the first, though it is as now behind it", back.turned(1) + " " + back.turned(2), "2 -1");
    }

    private static void neverTurned() {
        promise(21, "PLAYED: the first EVENING by which a VILLAGE has another FLAG; NONE: none.");
        VillageBoard x = told("north 1 0;free 1 0;free 1 0;road 0 1;style 1;");
        is("at once, never, never", x.turned(1) + " " + x.turned(0) + " " + x.turned(2), "1 -1 -1");
        x.move(0, 1);
        is("than now", x.turned(1), NONE);
        is("without styles", told("north 1 0;free 1 0;road 0 1;").turned(1), NONE);
    }

    private static void treasuries() {
        terms("TREASURIES in so many EVENINGS (0 to 30).");
        VillageBoard x = told("north 3 0;south 4 0;");
        for (int evenings = 0; evenings <= 30; evenings++) {
            is("in " + evenings, x.treasury(0, evenings) + " " + x.treasury(1, evenings),
                    3 * evenings + " " + 4 * evenings);
        }
        x.pass();
        is("from now on", x.treasury(0, 0) + " " + x.treasury(1, 30), "3 124");
        VillageBoard last = told("south 1 0;free 5 0;road 0 1;style evening=29;");
        is("the last evening's", last.treasury(1, 29) + " " + last.treasury(1, 30), "29 35");
        VillageBoard rich = told("north 20 0;".repeat(10));
        pass(rich, 20);
        is("9999 at most", rich.treasury(0, 29) + " " + rich.treasury(0, 30), "9800 9999");
    }

    private static void treasuryRefused() {
        promise(22, "PLAYED: the TREASURY of a SIDE. IllegalArgumentException (behind NoSuchElementException): not 0 to 30.");
        for (int side = 0; side < 2; side++) {
            int it = side;
            is("0 and 30", thrownBy(() -> lively().treasury(it, 0)) instanceof Integer
                    && thrownBy(() -> lively().treasury(it, 30)) instanceof Integer, true);
            leavesAll("below", Twins::lively, x -> x.treasury(it, -1), IllegalArgumentException.class);
            leavesAll("above", Twins::lively, x -> x.treasury(it, 31), IllegalArgumentException.class);
        }
        leavesAll("far", Twins::lively, x -> x.treasury(0, Integer.MIN_VALUE), IllegalArgumentException.class);
        leavesAll("far", Twins::lively, x -> x.treasury(0, Integer.MAX_VALUE), IllegalArgumentException.class);
        leavesAll("both", Twins::lively, x -> x.treasury(2, 31), NoSuchElementException.class);
        leavesAll("both", Twins::lively, x -> x.treasury(-1, -1), NoSuchElementException.class);
    }

    // ---- 23, 24

    private static void gifts() {
        terms("A GIFT for a MOVE: the least that must be added to what the STYLE of the SIDE whose TURN it is gives for it,"
                + " so that it MOVES so (0, if it does already)");
        String land = "north 0 0;free 1 0;free 4 0;free 4 0;road 0 1;road 0 2;road 0 3;style ";
        VillageBoard x = told(land + "worth;");
        is("3 to be like it, and ahead; already; 1 more than it, behind", x.gift(0, 1) + " " + x.gift(0, 2) + " "
                + x.gift(0, 3), "3 0 1");
        VillageBoard y = told(land + "5-worth;");
        is("behind what gives more", y.gift(0, 1) + " " + y.gift(0, 2) + " " + y.gift(0, 3), "0 4 4");
        is("more than 0", told(land + "0;").gift(0, 1) + " " + told(land + "0;").gift(0, 3), "1 1");
        is("from -1", told(land + "0-1;").gift(0, 1), 2);
        is("after it is given, so it moves", told(land + "worth+3*(worth=1);").gift(0, 1) + " "
                + told(land + "worth+2*(worth=1);").gift(0, 1) + " " + told(land + "worth+2*(worth=1);").played(0), "0 1 2");
        VillageBoard high = told("free 1 0;" + "free 0 0;".repeat(7) + "free 4 0;north 0 0;road 9 0;road 9 8;style worth;");
        is("from 9 to 0, from 9 to 8", high.gift(9, 0) + " " + high.gift(9, 8), "3 0");
        VillageBoard south = told("south 0 0;free 1 0;road 0 1;style 0;style 0-6;");
        south.pass();
        is("the style of whose turn it is", south.gift(0, 1), 7);
    }

    private static void noGift() {
        terms("none, if it may not, or it is above 9999.");
        String land = "north 0 0;free 4 0;free 1 0;road 0 1;road 0 2;style ";
        int[] most = {9998, 9999};
        for (int n : most) {
            is("ahead", told(land + "(worth=1)*" + n + ";").gift(0, 1), n);
            is("behind", told(land + "(worth=4)*" + (n - 1) + ";").gift(0, 2), n);
            is("up to 1", told(land + "0-" + (n - 1) + ";").gift(0, 1), n);
        }
        is("10000, ahead", told(land + "(worth=1)*(9999+1);").gift(0, 1), NONE);
        is("10000, behind", told(land + "(worth=4)*9999;").gift(0, 2), NONE);
        is("10000, up to 1", told(land + "0-9999;").gift(0, 1), NONE);
        String least = "8*4096*4096*16";
        is("as far as ints go", told(land + "(worth=1)*(" + least + "-1)+(worth=4)*" + least + ";").gift(0, 1), NONE);
        is("from the least int", told(land + least + ";").gift(0, 1), NONE);
        is("between great ones", told(land + "9999*9999*21-(worth=4)*9999;").gift(0, 1), 9999);
        VillageBoard x = told(land + "1;");
        is("no road, itself, no stone", x.gift(1, 2) + " " + x.gift(0, 0) + " " + x.gift(1, 0), "-1 -1 -1");
        VillageBoard taking = told("north 0 0;south 0 1;road 0 1;style 1;");
        is("may not take", taking.gift(0, 1), NONE);
        is("not its turn", taking.gift(1, 0), NONE);
    }

    private static void noStyleForAGift() {
        promise(23, "A GIFT; NONE: none, no STYLE.");
        VillageBoard x = told("north 0 0;free 4 0;road 0 1;style 0-1;");
        is("with one", x.gift(0, 1), 2);
        x.teach(0, NONE);
        is("no style", x.gift(0, 1), NONE);
        is("no styles at all", told("north 0 0;free 4 0;road 0 1;").gift(0, 1), NONE);
    }

    private static void plants() {
        terms("TO PLANT in a VILLAGE with a STONE: ASPARAGUS yields 6, if it isn't taken on the other SIDE's next EVENING,"
                + " else nothing; BARLEY 2");
        promise(24, "TO PLANT: how many MOVES take it (what 0), of how many with a PASS (1), whether ASPARAGUS (2; 1 yes);"
                + " NONE: no STONE there.");
        VillageBoard x = told("north 0 0;free 0 0;south 0 0;road 0 1;road 0 2;takes 1;");
        is("the north's", x.plant(0, 0) + " " + x.plant(0, 1) + " " + x.plant(0, 2), "1 2 1");
        is("the south's", x.plant(2, 0) + " " + x.plant(2, 1) + " " + x.plant(2, 2), "1 3 1");
        is("no stone there", x.plant(1, 0) + " " + x.plant(1, 1) + " " + x.plant(1, 2), "-1 -1 -1");
        is("nobody to take it", told("north 0 0;").plant(0, 0) + " " + told("north 0 0;").plant(0, 1) + " "
                + told("north 0 0;").plant(0, 2), "0 1 1");
    }

    private static void odds() {
        terms("the odds that it is taken: of all MOVES that the other SIDE may do now, were it its TURN, and a PASS,"
                + " each as likely");
        // Nine takers at most, of ten with the pass.
        StringBuilder star = new StringBuilder("north 0 0;" + "south 0 0;".repeat(9));
        for (int v = 1; v < 10; v++) {
            star.append("road 0 ").append(v).append(';');
        }
        VillageBoard x = told(star + "takes 1;");
        is("nine of ten", x.plant(0, 0) + " " + x.plant(0, 1) + " " + x.plant(0, 2), "9 10 0");
        is("whosever turn", x.pass() + " " + x.plant(0, 0) + " " + x.plant(0, 1), "1 9 10");
        VillageBoard evening = told(BESIDE + "evening=1;");
        is("now, not then", evening.plant(0, 0) + " " + evening.plant(0, 1), "0 1");
        evening.pass();
        is("now", evening.plant(0, 0) + " " + evening.plant(0, 1), "1 2");
    }

    private static void asparagus() {
        terms("ASPARAGUS, if that yields more by these.");
        // So many takers (their moves and a pass), and free villages that one of them might go to.
        int[][] cases = {{1, 0, 1}, {2, 0, 0}, {2, 1, 1}, {3, 0, 0}, {3, 1, 1}, {4, 0, 0}, {4, 1, 0}, {4, 2, 1}};
        for (int[] n : cases) {
            StringBuilder text = new StringBuilder("south 0 0;");
            for (int v = 1; v <= n[0] + n[1]; v++) {
                boolean taker = v <= n[0];
                text.append(taker ? "north 0 0;" : "free 0 0;").append("road ").append(taker ? 0 : 1).append(' ')
                        .append(v).append(';');
            }
            VillageBoard x = told(text + "takes 1;");
            is("takers " + n[0], x.plant(0, 0), n[0]);
            is("of", x.plant(0, 1), n[0] + n[1] + 1);
            // 6 by those that don't take it, against 2 by all.
            is("yields", x.plant(0, 2), 6 * (n[1] + 1) > 2 * (n[0] + n[1] + 1) ? 1 : 0);
            is("as told", x.plant(0, 2), n[2]);
        }
    }

    private static void plantRefused() {
        promise(24, "NoSuchElementException: also another what.");
        bounds("plant", 2, (x, what) -> x.plant(1, what));
        bounds("plant without a stone", 2, (x, what) -> x.plant(0, what));
        leavesAll("both", Twins::lively, x -> x.plant(5, 3), NoSuchElementException.class);
    }

    // ---- 25 to 28

    private static VillageBoard seen(int many) {
        VillageBoard x = lively();
        x.forget();
        for (int i = 1; i <= many; i++) {
            is("seen", x.see(2 * i, 1, 0), i);
        }
        return x;
    }

    private static void seen() {
        terms("SEEN (at most 6)");
        promise(25, "SEEN: how much is.");
        for (int many = 0; many <= 6; many++) {
            is("seen", seen(many).count(10), many);
        }
        promise(25, "NONE (STATUS 2): there are 6, not 0 to 29.");
        refuses("the seventh", () -> seen(6), x -> x.see(0, 0, 0), NONE, 2);
        refuses("the seventh, and not 0 to 29", () -> seen(6), x -> x.see(30, 0, 0), NONE, 2);
        is("the sixth", seen(5).see(0, 0, 0), 6);
        for (int i : FAR) {
            if (i < 0 || i > 29) {
                refuses("far", Twins::lively, x -> x.see(i, 0, 0), NONE, 2);
            }
        }
        refuses("below", Twins::lively, x -> x.see(-1, 0, 1), NONE, 2);
        refuses("above", Twins::lively, x -> x.see(30, 0, 1), NONE, 2);
        is("0 and 29", lively().see(0, 0, 1) + " " + lively().see(29, 0, 1), "3 3");
    }

    private static void seenWhen() {
        terms("that on the i-th EVENING from now on (0 to 29) there was a MOVE from one VILLAGE to another one"
                + " (both alike: a PASS).");
        String first = "north 1 0;free 1 0;road 0 1;style evening=";
        String last = "south 1 0;free 1 0;road 0 1;style evening=";
        is("the first evening", one(told(first + "0;"), 0, 0, 1) + " " + one(told(first + "0;"), 0, 1, 0) + " "
                + one(told(first + "0;"), 0, 0, 0), "1 0 0");
        is("the last evening", one(told(last + "29;"), 29, 0, 1) + " " + one(told(last + "29;"), 29, 1, 0) + " "
                + one(told(last + "29;"), 29, 1, 1), "1 0 0");
        is("a pass, of whichever village", one(told(first + "0;"), 1, 0, 0) + " " + one(told(first + "0;"), 1, 1, 1)
                + " " + one(told(first + "0;"), 1, 0, 1), "1 1 0");
        VillageBoard late = told(first + "30;");
        is("beyond them", one(late, 29, 0, 1), 0);
        late.forget();
        pass(late, 2);
        is("from now on", one(late, 28, 0, 1), 1);
    }

    /** How many couples there are of one style, after this has been seen. */
    private static int one(VillageBoard x, int i, int from, int to) {
        x.see(i, from, to);
        return x.styles(0);
    }

    private static void seenRefused() {
        promise(25, "NoSuchElementException (ahead): no such VILLAGES.");
        leavesAll("ahead of the evening", Twins::lively, x -> x.see(30, 5, 0), NoSuchElementException.class);
        leavesAll("ahead of the evening", Twins::lively, x -> x.see(-1, 0, -1), NoSuchElementException.class);
        leavesAll("ahead of the six", () -> seen(6), x -> x.see(0, 0, 5), NoSuchElementException.class);
        leavesAll("of no villages", VillageBoard::new, x -> x.see(0, 0, 0), NoSuchElementException.class);
        is("the last village", lively().see(0, 4, 4), 3);
    }

    private static void forgotten() {
        promise(26, "All that is SEEN is forgotten.");
        for (int many = 0; many <= 6; many += 3) {
            VillageBoard x = seen(many);
            VillageBoard twin = seen(0);
            x.forget();
            is("of " + many, x.count(10) + " " + x.styles(0), "0 9");
            is("nothing else", whole(x), whole(twin));
        }
        VillageBoard empty = new VillageBoard();
        empty.forget();
        is("of nothing", empty.count(10), 0);
        VillageBoard again = seen(6);
        again.see(0, 0, 0);
        again.forget();
        is("status stays", again.count(14), 2);
        is("six anew", again.see(0, 0, 0) + " " + again.see(0, 0, 0), "1 2");
    }

    private static void stylesSeen() {
        terms("STYLES SEEN: couples of STYLES (of the north, of the south; none is no STYLE here) by which, both PLAYING so"
                + " from now on, all SEEN would be so");
        int[] couples = {0, 1, 4, 9};
        for (int many = 0; many <= 3; many++) {
            is(many + " styles", told("style 1;".repeat(many)).styles(0), couples[many]);
        }
        VillageBoard none = told("style 1;".repeat(2));
        none.teach(0, NONE);
        none.teach(1, NONE);
        is("none is no style here", none.styles(0) + " " + none.styles(1), "4 0");
        VillageBoard x = told(TELLING);
        x.see(0, 0, 1);
        x.see(0, 0, 1);
        is("seen twice", x.styles(0) + " " + x.styles(1), "3 0");
        x.see(0, 0, 2);
        is("both can't be", x.styles(0) + " " + x.styles(1), "0 -1");
    }

    private static void howManyStyles() {
        terms("how many; the first (10 by the north's and the south's).");
        promise(27, "STYLES SEEN: how many (what 0), the first (1; NONE: none).");
        int[][] ways = {{0, 1, 3, 4}, {0, 2, 3, 5}, {0, 0, 3, 3}};
        for (int north = 0; north < 3; north++) {
            for (int south = 0; south < 3; south++) {
                VillageBoard x = told(TELLING);
                is("all", x.styles(0) + " " + x.styles(1), "9 0");
                x.see(0, ways[north][0], ways[north][1]);
                is("of the north's", x.styles(0) + " " + x.styles(1), "3 " + 10 * north);
                x.see(1, ways[south][2], ways[south][3]);
                is("of both", x.styles(0) + " " + x.styles(1), "1 " + (10 * north + south));
                x.see(2, 3, 3);
                is("a pass, if the north stays", x.styles(0), north == 2 ? 1 : 0);
                x.see(29, 0, 3);
                is("none", x.styles(0) + " " + x.styles(1), "0 -1");
            }
        }
        is("no styles", told("north 0 0;").styles(0) + " " + told("north 0 0;").styles(1), "0 -1");
    }

    private static void stylesRefused() {
        promise(27, "NoSuchElementException: another what.");
        bounds("styles", 1, (x, what) -> x.styles(what));
        refusesElement("of no villages", () -> new VillageBoard().styles(2));
    }

    private static void nextEvening() {
        terms("THE NEXT EVENING: that (0 to 29, the first of like ones) whose MOVES by these couples are most unlike:"
                + " how many unlike ones (a PASS is one); none without any.");
        promise(28, "THE NEXT EVENING (what 0; NONE), how many (1; 0: none).");
        String north = "north 1 0;free 1 0;road 0 1;style 0;style evening=";
        String south = "south 1 0;free 1 0;road 0 1;style 0;style evening=";
        is("the first one", told(north + "0;").next(0) + " " + told(north + "0;").next(1), "0 2");
        is("the last but one", told(north + "28;").next(0) + " " + told(north + "28;").next(1), "28 2");
        is("the last one", told(south + "29;").next(0) + " " + told(south + "29;").next(1), "29 2");
        is("beyond it", told(north + "30;").next(0) + " " + told(north + "30;").next(1), "0 1");
        is("the first of like ones", told(north + "4 or evening=6;").next(0), 4);
        VillageBoard x = told(TELLING);
        is("two moves and a pass", x.next(0) + " " + x.next(1), "0 3");
        x.see(0, 0, 0);
        is("the south's", x.next(0) + " " + x.next(1), "1 3");
        x.see(1, 3, 3);
        is("one couple", x.styles(0) + " " + x.next(0) + " " + x.next(1), "1 0 1");
        x.see(29, 0, 1);
        is("without any", x.styles(0) + " " + x.next(0) + " " + x.next(1), "0 -1 0");
        VillageBoard none = told("north 1 0;free 1 0;road 0 1;");
        is("no styles", none.next(0) + " " + none.next(1), "-1 0");
        // On evening 2 three are unlike, on evening 0 two: more comes before sooner.
        VillageBoard more = told("north 5 0;free 1 0;free 2 0;road 0 1;road 0 2;"
                + "style evening=2 and worth=1;style evening=2 and worth=2;style evening=0 and worth=1;");
        is("most", more.next(0) + " " + more.next(1), "2 3");
    }

    private static void nextRefused() {
        promise(28, "NoSuchElementException: another what.");
        bounds("next", 1, (x, what) -> x.next(what));
        refusesElement("of no villages", () -> new VillageBoard().next(-1));
    }

    // ---- 29 to 31

    private static void treaties() {
        terms("A TREATY: whether nobody would leave it: for neither SIDE, were it its TURN, there is a MOVE by which LOOKING"
                + " 1 EVENING more (the other one's answer) it has more than by a PASS.");
        promise(29, "A TREATY.");
        is("of no villages", new VillageBoard().treaty(), true);
        is("no moves", told("north 4 0;south 4 0;road 0 1;takes 0;").treaty(), true);
        is("as much", told("north 4 0;free 0 0;road 0 1;").treaty(), true);
        is("one more", told("north 4 0;free 1 0;road 0 1;").treaty(), false);
        is("one more for the south", told("south 4 0;free 1 0;road 0 1;").treaty(), false);
        // Who goes to 1 loses 0, which is worth 1, to the other one.
        for (int worth = 1; worth <= 3; worth++) {
            String land = " 1 0;free " + worth + " 0;south 5 0;road 0 1;road 0 2;takes 0;";
            is("the answer costs 2, it has " + worth, told("north" + land).treaty(), worth <= 2);
            VillageBoard south = told("south" + land.replace("south", "north"));
            is("so for the south", south.treaty(), worth <= 2);
            south.pass();
            is("whosever turn", south.treaty(), worth <= 2);
        }
        // The third evening counts no more: going to 1 gains nothing yet.
        is("not two evenings more", told("north 0 0;free 0 0;free 9 0;road 0 1;road 1 2;").treaty(), true);
        // By a pass it is taken in 0, and has -7 then; by going to 2 it has what that is worth more.
        for (int worth = 0; worth <= 1; worth++) {
            is("a pass has an answer, too: " + worth, told(BESIDE + "evening=1;free " + worth + " 0;road 0 2;").treaty(),
                    worth == 0);
        }
        // What it has comes by its own move now, on this evening; the answer on the next one.
        is("taking now", told(BESIDE + "evening=0;").treaty(), false);
        is("taking on the next evening is done whether it moves or not", told(BESIDE + "evening=1;").treaty(), true);
    }

    /** Unlike choices help the south, like ones the north: both go to 1 or to 2; the south may go on to 0 from there. */
    private static final String PENNIES = "north 7 0;free 5 1;free 5 2;south 0 0;road 0 1;road 0 2;road 3 1;road 3 2;takes 0;"
            + "style fort=1 and evening<2 or evening=3 and worth=7;style fort=2 and evening<2 or evening=3 and worth=7;";

    private static void games() {
        terms("A GAME of two STYLES (unlike ones): each SIDE takes one of two told STYLES (0 the first one, 1 the second"
                + " one), and both PLAY so for 10 EVENINGS");
        for (int when = 7; when <= 11; when++) {
            String stone = when % 2 == 0 ? "north" : "south";
            VillageBoard x = told(stone + " 1 0;free 5 0;road 0 1;style 0;style evening=" + when + ";");
            // Within ten evenings it gains by style 1: only couples with it rest.
            is("on " + when, x.game(0, 1, 0), when < 10 ? 2 : 4);
        }
        VillageBoard late = told("north 1 0;free 5 0;road 0 1;style 0;style evening=10;");
        late.pass();
        is("from now on", late.game(0, 1, 0), 2);
        late.teach(0, NONE);
        late.teach(1, NONE);
        is("whatever styles they have", late.game(0, 1, 0) + " " + late.game(0, 1, 1), "2 10");
        is("the other way round", late.game(1, 0, 0) + " " + late.game(1, 0, 1), "2 0");
    }

    private static void gains() {
        terms("a SIDE gains what its TREASURY is more then than now.");
        String five = "north 20 0;".repeat(5) + "free 1 0;road 0 5;style 0;style turns;";
        VillageBoard x = told(five);
        pass(x, 80);
        is("from 8000 on", x.side(0, 0) + " " + x.game(0, 1, 0) + " " + x.game(0, 1, 1), "8000 2 10");
        pass(x, 9);
        is("9900 or 9909", x.side(0, 0) + " " + x.game(0, 1, 0), "8900 2");
        pass(x, 1);
        is("9999 at most, whether it goes or not", x.side(0, 0) + " " + x.game(0, 1, 0), "9000 4");
    }

    private static void resting() {
        terms("A couple RESTS, if neither gains more by the other STYLE: how many; the first (10 by the north's choice"
                + " and the south's).");
        promise(30, "A GAME: how many couples rest (what 0), the first (1; NONE: none).");
        VillageBoard none = told(PENNIES);
        is("none", none.game(0, 1, 0) + " " + none.game(0, 1, 1), "0 -1");
        VillageBoard one = told("north 1 0;free 5 0;south 1 0;free 5 0;road 0 1;road 2 3;style turns;style 0;");
        is("one", one.game(0, 1, 0) + " " + one.game(0, 1, 1), "1 0");
        is("one, the other way round", one.game(1, 0, 0) + " " + one.game(1, 0, 1), "1 11");
        VillageBoard two = told("north 1 0;free 5 0;south 1 0;road 0 1;style 0;style turns;");
        is("two", two.game(0, 1, 0) + " " + two.game(0, 1, 1), "2 10");
        VillageBoard south = told("south 1 0;free 5 0;north 1 0;road 0 1;style 0;style turns;");
        is("two by the south's", south.game(0, 1, 0) + " " + south.game(0, 1, 1), "2 1");
        VillageBoard all = told("style 1;".repeat(3));
        is("as much is no more: all", all.game(0, 2, 0) + " " + all.game(2, 1, 1), "4 0");
    }

    private static void gameRefused() {
        promise(30, "NoSuchElementException: no such STYLES, what. IllegalArgumentException (behind that): both are one.");
        bounds("game", 1, (x, what) -> x.game(0, 1, what));
        bounds("game", 1, (x, what) -> x.game(2, 0, what));
        for (int style : new int[] {-1, 3, Integer.MIN_VALUE, Integer.MAX_VALUE}) {
            leavesAll("the first", Twins::lively, x -> x.game(style, 0, 0), NoSuchElementException.class);
            leavesAll("the second", Twins::lively, x -> x.game(0, style, 1), NoSuchElementException.class);
            leavesAll("both, and one", Twins::lively, x -> x.game(style, style, 0), NoSuchElementException.class);
        }
        for (int style = 0; style < 3; style++) {
            int it = style;
            leavesAll("one", Twins::lively, x -> x.game(it, it, 0), IllegalArgumentException.class);
            leavesAll("one", Twins::lively, x -> x.game(it, it, 1), IllegalArgumentException.class);
            leavesAll("one, and another what", Twins::lively, x -> x.game(it, it, 2), NoSuchElementException.class);
            leavesAll("one, and another what", Twins::lively, x -> x.game(it, it, -1), NoSuchElementException.class);
        }
        refusesElement("one style alone", () -> told("style 1;").game(0, 1, 0));
        refusesArgument("one style alone", () -> told("style 1;").game(0, 0, 0));
    }

    private static void years() {
        terms("YEARS by a seed: n EVENINGS (0 to 60) from now on");
        VillageBoard x = told("north 3 0;south 2 0;");
        for (int n : new int[] {0, 1, 59, 60}) {
            is(n + " evenings", x.years(n, n, 0) + " " + x.years(n, n, 1) + " " + x.years(n, n, 2),
                    "2 " + 3 * n + " " + 2 * n);
        }
        x.pass();
        is("from now on", x.years(0, 0, 1) + " " + x.years(0, 60, 2), "3 122");
        terms("how many STONES are on the board at the end; TREASURY of the north, of the south.");
        VillageBoard take = told("north 3 0;south 2 0;road 0 1;takes 1;");
        is("taken by seed 0", take.years(0, 0, 0) + " " + take.years(0, 1, 0) + " " + take.years(0, 1, 1) + " "
                + take.years(0, 1, 2), "2 1 5 0");
        VillageBoard rich = told("north 20 0;".repeat(10));
        is("10 stones, 9999 at most", rich.years(1, 49, 1) + " " + rich.years(1, 50, 1) + " " + rich.years(1, 60, 0),
                "9800 9999 10");
    }

    private static void draws() {
        terms("on each a DRAW of all MOVES that may be done (by VILLAGES from which, then to which) and a PASS behind them");
        // From 1 to 2, from 1 to 4, from 3 to 0, a pass: 0 to 3 of four. Seeds give 0, 1817, 16838, 17747.
        VillageBoard x = told("free 1 0;north 0 0;free 2 0;north 0 0;free 4 0;road 3 0;road 1 4;road 1 2;");
        is("each of them", x.years(0, 1, 1) + " " + x.years(4, 1, 1) + " " + x.years(1, 1, 1) + " " + x.years(3, 1, 1),
                "2 4 1 0");
        // The south has no stones: a draw of one, its pass; the seed goes on by it. 16838, 5758, 10113 are 2, 1, 0 of 3.
        VillageBoard y = told("north 1 0;free 2 0;free 4 0;road 0 1;road 0 2;");
        is("a draw on each evening", y.years(1, 1, 1) + " " + y.years(1, 2, 1) + " " + y.years(1, 3, 1), "1 2 5");
        is("of no villages", new VillageBoard().years(1, 60, 0), 0);
    }

    private static void seeds() {
        terms("A seed becomes itself times 1103515245 and 12345 (an int that wraps)");
        terms("a DRAW of n is its bits 16 to 30 MOD n then.");
        // Of three: to 1 (3 then), to 2 (5), a pass (1).
        VillageBoard x = told("north 1 0;free 2 0;free 4 0;road 0 1;road 0 2;");
        int[] due = {3, 5, 1};
        // 0 becomes 12345: no bit above 15. 1 becomes 1103527590: 16838 is 2 of 3.
        is("seed 0", x.years(0, 1, 1), due[0]);
        is("seed 1", x.years(1, 1, 1), due[2]);
        // 2 becomes 2207042835, 7 becomes 7724619060 less 2^32, both beyond 2^31: without bit 31 908 and 19564.
        is("seed 2", x.years(2, 1, 1), due[908 % 3]);
        is("seed 7", x.years(7, 1, 1), due[19564 % 3]);
        is("seed 5", x.years(5, 1, 1), due[18655 % 3]);
        is("seed -1", x.years(-1, 1, 1), due[15929 % 3]);
        is("seed -2", x.years(-2, 1, 1), due[31859 % 3]);
        is("the least seed: as 0, but for bit 31", x.years(Integer.MIN_VALUE, 1, 1), due[0]);
        is("the greatest seed: as -1, but for bit 31", x.years(Integer.MAX_VALUE, 1, 1), due[15929 % 3]);
        for (int seed = -3; seed <= 3; seed++) {
            is("60 evenings of like bits", x.years(seed, 60, 1), x.years(seed ^ Integer.MIN_VALUE, 60, 1));
        }
    }

    private static void yearsRefused() {
        promise(31, "YEARS: STONES (what 0), the north's TREASURY (1), the south's (2).");
        VillageBoard x = told("north 3 0;south 4 0;south 5 0;");
        is("three, 6, 18", x.years(3, 2, 0) + " " + x.years(3, 2, 1) + " " + x.years(3, 2, 2), "3 6 18");
        promise(31, "NoSuchElementException: another what. IllegalArgumentException (behind that): n.");
        bounds("years 0", 2, (y, what) -> y.years(1, 0, what));
        bounds("years 60", 2, (y, what) -> y.years(1, 60, what));
        for (int n : new int[] {-1, 61, Integer.MIN_VALUE, Integer.MAX_VALUE}) {
            for (int what = 0; what <= 2; what++) {
                int it = what;
                leavesAll("years " + n, Twins::lively, y -> y.years(0, n, it), IllegalArgumentException.class);
            }
            leavesAll("both", Twins::lively, y -> y.years(0, n, 3), NoSuchElementException.class);
            leavesAll("both", Twins::lively, y -> y.years(0, n, -1), NoSuchElementException.class);
        }
    }
}
