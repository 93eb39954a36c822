/** The boundaries of debts, the front, of what is safe, guarded, forked or regretted, of images; promises 32 to 43. */
final class FrontierBoundaries extends Twins {
    /** Three of the north's, six of the south's, a road between each two: all 18 roads. */
    private static final String ALL_ROADS = "north 0 0;".repeat(3) + "south 0 0;".repeat(6)
            + "road 0 3;road 0 4;road 0 5;road 0 6;road 0 7;road 0 8;road 1 3;road 1 4;road 1 5;road 1 6;road 1 7;road 1 8;"
            + "road 2 3;road 2 4;road 2 5;road 2 6;road 2 7;road 2 8;";

    private FrontierBoundaries() {
    }

    static void run() {
        owes();
        front();
        parts();
        safe();
        safeWithoutAStone();
        reach();
        guards();
        fewestGuards();
        noGuard();
        keys();
        noKey();
        forks();
        noFork();
        regrets();
        noRegret();
        whose();
        ofNeither();
        status();
        images();
        inPlaceOfAnother();
        restored();
        noImage();
        none();
    }

    // ---- 32 to 36

    private static void owes() {
        terms("A SIDE OWES: of all VILLAGES with its FLAG the WORTH by the EVENINGS that THE BOOK has for the other SIDE,"
                + " together.");
        promise(32, "What a SIDE OWES.");
        VillageBoard x = told("south 20 0;free 0 0;north 0 0;");
        is("nothing yet", x.owes(0) + " " + x.owes(1), "0 0");
        x.pass();
        is("nothing of its own", x.owes(0) + " " + x.owes(1), "0 0");
        x.fly(0, 1);
        is("a flag without a stone is its own still", x.owes(0) + " " + x.owes(1), "0 0");
        x.fly(2, 0);
        is("20 by 1", x.owes(0) + " " + x.owes(1), "20 0");
        x.pass();
        is("it is no less by evenings of its own", x.owes(0), 20);
        VillageBoard most = told("south 20 0;".repeat(4) + "free 0 0;".repeat(4) + "north 20 0;north 0 0;");
        passTo(most, 999);
        for (int v = 0; v < 4; v++) {
            most.fly(v, v + 4);
        }
        is("nothing yet", most.owes(0), 0);
        most.fly(9, 0);
        most.fly(0, 1);
        most.fly(1, 2);
        is("three of 20 by 999, together", most.owes(0) + " " + most.owes(1), "59940 0");
        most.fly(8, 3);
        is("four of them", most.owes(0), 79920);
        most.fly(4, 8);
        is("both sides", most.owes(0) + " " + most.owes(1), "79920 19980");
    }

    private static void front() {
        terms("THE FRONT: ROADS between two VILLAGES of which one has the north's FLAG, the other one the south's.");
        promise(33, "THE FRONT: how many.");
        is("all 18", told(ALL_ROADS).front(), 18);
        is("none of no villages", new VillageBoard().front(), 0);
        is("none between its own", told(ALL_ROADS.replace("south", "north")).front(), 0);
        is("none with nobody's", told(ALL_ROADS.replace("south", "free")).front(), 0);
        VillageBoard x = told("north 0 0;free 0 0;south 0 0;road 0 1;road 1 2;");
        is("not yet", x.front(), 0);
        x.fly(0, 1);
        is("one", x.front(), 1);
        x.fly(1, 0);
        is("by flags, not by stones", x.front(), 1);
        x.fly(2, 1);
        is("the other one", x.front(), 1);
    }

    private static void parts() {
        terms("PARTS of a SIDE: into how many parts its VILLAGES (by FLAGS) fall, by ROADS between them.");
        promise(34, "PARTS of a SIDE.");
        is("none", told("south 0 0;".repeat(10)).parts(0), 0);
        is("ten", told("south 0 0;".repeat(10)).parts(1), 10);
        String row = "north 0 0;".repeat(10) + "road 9 8;road 8 7;road 7 6;road 6 5;road 5 4;road 4 3;road 3 2;road 2 1;road 1 0;";
        is("one, the longest row", told(row).parts(0), 1);
        is("a road less", told(row.replace("road 5 4;", "")).parts(0), 2);
        is("not through the other side's", told(row.replaceFirst("north", "south")).parts(0) + " "
                + told(row.replaceFirst("north", "south")).parts(1), "1 1");
        String middle = "north 0 0;free 0 0;north 0 0;south 0 0;road 0 1;road 1 2;";
        VillageBoard x = told(middle);
        is("not through nobody's", x.parts(0) + " " + x.parts(1), "2 1");
        x.fly(0, 1);
        is("by flags", x.parts(0) + " " + x.parts(1), "1 1");
        x.fly(1, 0);
        x.fly(3, 1);
        is("split by the other side's", x.parts(0) + " " + x.parts(1), "2 2");
        is("0 is no part of others without a road", told("north 0 0;north 0 0;north 0 0;road 1 2;").parts(0), 2);
        is("each three and six by itself", told(ALL_ROADS).parts(0) + " " + told(ALL_ROADS).parts(1), "3 6");
    }

    private static void safe() {
        terms("SAFE are VILLAGES to which the STONE of a VILLAGE might MOVE now, were it its SIDE's TURN, and would not be"
                + " EN PRISE there then.");
        // 0 may go to 1, beside the south's 2, or to 3, beside nobody.
        String land = "north 0 0;free 0 0;south 0 0;free 0 0;road 0 1;road 1 2;road 0 3;";
        is("takes gives 0, and 1", told(land + "takes 0;").safe(0) + " " + told(land + "takes 1;").safe(0), "10 8");
        is("the south's, whosever turn", told(land + "takes 0;").safe(2) + " " + told(land + "takes 1;").safe(2), "2 0");
        // Where it came from it guards no more; where it goes it takes away a stone that guarded or helped.
        VillageBoard lone = told("north 0 0;south 0 0;south 0 0;road 0 1;road 1 2;takes guards=0;");
        is("guarded, so it may not", lone.safe(0), 0);
        VillageBoard back = told("north 0 0;south 0 0;south 0 0;road 0 1;road 1 2;takes 1;");
        is("taken back", back.safe(0) + " " + back.safe(2), "0 0");
        VillageBoard held = told("north 0 0;south 0 0;south 0 0;north 0 0;road 0 1;road 1 2;road 1 3;takes guards<2;");
        is("held by 3", held.safe(0) + " " + held.lawful(0, 1), "0 true");
        VillageBoard alone = told("north 0 0;south 0 0;road 0 1;takes 1;");
        is("nobody is left to take it", alone.safe(0) + " " + alone.safe(1), "2 1");
        is("a stone is there then, to be taken", told(land + "takes takes;").safe(0), 8);
        // The move ends its evening: "then" is on the next one (see NOTES.md).
        is("then", told(land + "takes evening=0;").safe(0) + " " + told(land + "takes evening=1;").safe(0) + " "
                + told(land + "takes evening=2;").safe(0), "10 8 10");
    }

    private static void safeWithoutAStone() {
        promise(35, "SAFE, as bits (0 without a STONE).");
        StringBuilder star = new StringBuilder("north 0 0;" + "free 0 0;".repeat(9));
        for (int v = 1; v < 10; v++) {
            star.append("road 0 ").append(v).append(';');
        }
        VillageBoard x = told(star.toString());
        is("all there are", x.safe(0), 1022);
        is("without a stone", x.safe(1) + " " + x.safe(9), "0 0");
        x.fly(0, 9);
        is("the least bit", x.safe(9) + " " + x.safe(0), "1 0");
        is("nowhere to go", told("north 0 0;").safe(0), 0);
    }

    private static void reach() {
        terms("REACH of a STONE: VILLAGES without STONES to which there is a JOURNEY.");
        promise(36, "REACH, as bits (0 without a STONE).");
        String row = "north 0 0;" + "free 0 0;".repeat(9)
                + "road 0 1;road 1 2;road 2 3;road 3 4;road 4 5;road 5 6;road 6 7;road 7 8;road 8 9;";
        VillageBoard x = told(row);
        is("all but its own", x.reach(0), 1022);
        is("without a stone", x.reach(1) + " " + x.reach(9), "0 0");
        x.fly(0, 9);
        is("from the other end", x.reach(9), 511);
        VillageBoard y = told(row.replaceFirst("(free 0 0;){5}", "free 0 0;".repeat(4) + "south 0 0;"));
        is("up to a stone", y.reach(0) + " " + y.reach(5), "30 990");
        is("nowhere", told("north 0 0;north 0 0;road 0 1;").reach(0) + " " + told("north 0 0;free 0 0;").reach(0), "0 0");
        is("not to 0 without a road", told("free 0 0;north 0 0;free 0 0;road 1 2;").reach(1), 4);
        for (int v = 0; v < 10; v++) {
            is("as journeys are", (y.reach(0) >> v & 1) == 1, v > 0 && y.journey(0, v) != NONE);
        }
    }

    // ---- 37 to 41

    /** The south's 1 beside the north's 0, which free villages 3, 4, 5 have roads to, 2 and 6 have none. */
    private static final String BESET = "north 0 0;south 0 0;free 0 0;free 0 0;free 0 0;free 0 0;free 0 0;"
            + "road 0 1;road 0 3;road 0 4;road 0 5;";

    private static void guards() {
        terms("A GUARD for a VILLAGE with a STONE: the fewest VILLAGES without STONES, in which there must be one of its"
                + " SIDE besides (whatever FLAGS), so that it isn't EN PRISE");
        is("none needed", told(BESET + "takes 0;").guard(0), 0);
        is("one", told(BESET + "takes guards<1;").guard(0), 8);
        is("two", told(BESET + "takes guards<2;").guard(0), 24);
        is("three", told(BESET + "takes guards<3;").guard(0), 56);
        is("four there aren't", told(BESET + "takes guards<4;").guard(0), NONE);
        VillageBoard flags = told(BESET.replace("south 0 0;free", "south 0 0;south") + "takes guards<1;");
        flags.fly(2, 3);
        flags.fly(3, 2);
        is("whatever flags", flags.village(3, 3) + " " + flags.guard(0), "1 8");
        VillageBoard stones = told(BESET.replace("south 0 0;free", "south 0 0;south") + "takes guards<1;");
        stones.fly(2, 3);
        is("without stones", stones.guard(0), 16);
        is("the south's, not its turn", told(BESET + "road 1 2;takes guards<1;").guard(1), 4);
    }

    private static void fewestGuards() {
        terms("of as few the least as bits (0, if it isn't); none.");
        is("0, if it isn't", told(BESET + "takes not guards=0;").guard(0), 0);
        is("one does, three do: one", told(BESET + "takes guards=0 or guards=2;").guard(0), 8);
        is("two do, three don't", told(BESET + "takes not guards=2;").guard(0), 24);
        is("only all three do", told(BESET + "takes not guards=3;").guard(0), 56);
        String last = "north 0 0;south 0 0;" + "free 0 0;".repeat(8) + "road 0 1;road 0 9;";
        is("the greatest bit", told(last).guard(0), 512);
        String least = "free 0 0;" + "free 0 0;".repeat(7) + "south 0 0;north 0 0;road 8 9;road 0 9;road 7 9;";
        is("the least bit", told(least).guard(9), 1);
    }

    private static void noGuard() {
        promise(37, "A GUARD, as bits; NONE: none, no STONE there.");
        is("none", told(BESET + "takes 1;").guard(0), NONE);
        is("no stone there", told(BESET).guard(2) + " " + told(BESET).guard(3), "-1 -1");
        is("no free village", told("north 0 0;south 0 0;road 0 1;").guard(0), NONE);
        is("as bits", told(BESET).guard(0), 8);
    }

    private static void keys() {
        terms("THE KEY of a SIDE: the VILLAGE with its STONE on which most HANG (of like ones the least); none, if none"
                + " HANGS on any.");
        // On 0 hangs 1; on 2 hang 3, and with the last road 4.
        String land = "north 0 0;".repeat(5) + "south 0 0;".repeat(3) + "road 0 1;road 5 1;road 2 3;road 6 3;road 7 4;";
        is("of like ones the least", told(land).hangs(0) + " " + told(land).hangs(2) + " " + told(land).key(0), "2 8 0");
        is("most", told(land + "road 2 4;").hangs(2) + " " + told(land + "road 2 4;").key(0), "24 2");
        VillageBoard last = told("south 0 0;" + "free 0 0;".repeat(7) + "north 0 0;south 0 0;road 0 9;road 8 0;");
        is("the last village, the south's", last.key(1) + " " + last.key(0), "9 -1");
    }

    private static void noKey() {
        promise(38, "THE KEY; NONE: none.");
        is("no stones", new VillageBoard().key(0) + " " + told("free 0 0;").key(1), "-1 -1");
        is("nothing hangs", told("north 0 0;south 0 0;road 0 1;").key(0), NONE);
        is("1 hangs on 0", told("north 0 0;north 0 0;south 0 0;road 0 1;road 1 2;").key(0), 0);
    }

    private static void forks() {
        terms("A FORK: the MOVE of whose TURN it is by which most STONES of the other SIDE are EN PRISE then (of like ones"
                + " by the least VILLAGE from which, then to which), if there are two or more; none.");
        // From 0 to 1 or 2, each beside some of 3, 4, 5.
        String land = "north 0 0;free 0 0;free 0 0;south 0 0;south 0 0;south 0 0;road 0 1;road 0 2;";
        is("one isn't enough", told(land + "road 1 3;road 2 4;").fork(), NONE);
        is("two are", told(land + "road 2 3;road 2 4;").fork(), 2);
        is("of like ones the least to which", told(land + "road 1 3;road 1 4;road 2 3;road 2 4;").fork(), 1);
        is("three are more", told(land + "road 1 3;road 1 4;road 2 3;road 2 4;road 2 5;").fork(), 2);
        VillageBoard from = told("free 0 0;north 0 0;north 0 0;south 0 0;south 0 0;road 0 1;road 0 2;road 0 3;road 0 4;");
        is("the least from which", from.fork(), 100);
        from.pass();
        is("of whose turn it is", from.fork(), 300);
        VillageBoard high = told("south 0 0;south 0 0;" + "free 0 0;".repeat(7) + "north 0 0;road 9 8;road 8 0;road 8 1;");
        is("from 9 to 8", high.fork(), 908);
        VillageBoard left = told("south 0 0;south 0 0;" + "free 0 0;".repeat(7) + "north 0 0;road 9 8;road 9 0;road 8 1;");
        is("what it was beside before is not en prise then", left.fork(), NONE);
        String two = land + "road 2 3;road 2 4;takes evening=";
        // The move ends its evening: "then" is on the next one (see NOTES.md).
        is("then", told(two + "0;").fork() + " " + told(two + "1;").fork() + " " + told(two + "2;").fork(), "-1 2 -1");
    }

    private static void noFork() {
        promise(39, "A FORK: 100 by where from and where to; NONE: none.");
        is("no stones", new VillageBoard().fork() + " " + told("free 0 0;").fork(), "-1 -1");
        is("no moves", told("north 0 0;south 0 0;south 0 0;").fork(), NONE);
        // Two are en prise already, but no move leaves them so: the only one goes away.
        VillageBoard away = told("north 0 0;free 0 0;south 0 0;south 0 0;road 0 1;road 0 2;road 0 3;takes helps<1 and takes;");
        is("by a move", away.side(1, 2) + " " + away.fork(), "12 -1");
    }

    private static void regrets() {
        terms("REGRET of a MOVE of whose TURN it is: by how much more it would have LOOKING 2 EVENINGS ahead by THE BEST MOVE"
                + " than by this one (the other one's best answer to it); none, if it may not.");
        VillageBoard x = told("north 0 0;free 4 0;free 5 0;road 0 1;road 0 2;");
        is("the best, one less", x.regret(0, 2) + " " + x.regret(0, 1), "0 1");
        VillageBoard high = told("free 1 0;" + "free 0 0;".repeat(7) + "free 4 0;north 0 0;road 9 0;road 9 8;");
        is("from 9 to 0, from 9 to 8", high.regret(9, 0) + " " + high.regret(9, 8), "3 0");
        VillageBoard like = told("north 0 0;free 5 0;free 5 0;road 0 1;road 0 2;");
        is("of like ones none", like.regret(0, 1) + " " + like.regret(0, 2), "0 0");
        // A pass is best where the move gains 7 but loses 8 by the answer; at 8 it is as good.
        for (int worth = 7; worth <= 9; worth++) {
            VillageBoard y = told("north 4 0;free " + worth + " 0;south 4 0;road 0 1;road 0 2;takes 0;");
            is("the answer costs 8, it gains " + worth, y.regret(0, 1), Math.max(0, 8 - worth));
        }
        VillageBoard most = told("north 20 0;free 0 0;south 0 0;road 0 1;road 0 2;takes 0;");
        is("20 lost, 20 gained by the other one", most.regret(0, 1), 40);
        VillageBoard third = told("north 0 0;free 0 0;free 0 0;free 9 0;road 0 1;road 0 2;road 2 3;");
        is("two evenings, not three", third.regret(0, 1) + " " + third.regret(0, 2), "0 0");
    }

    private static void noRegret() {
        promise(40, "REGRET; NONE: none.");
        VillageBoard x = told("north 0 0;free 4 0;south 5 0;north 0 0;road 0 1;road 1 2;road 0 3;road 0 2;takes 0;");
        is("it may", x.regret(0, 1) >= 0, true);
        is("a stone of the other side's", x.regret(2, 1), NONE);
        is("no stone", x.regret(1, 0), NONE);
        is("to its own", x.regret(0, 3), NONE);
        is("may not take", x.regret(0, 2), NONE);
        is("itself", x.regret(0, 0), NONE);
        is("no road", x.regret(3, 1), NONE);
        x.pass();
        is("the other side's turn", x.regret(0, 1) + " " + (x.regret(2, 1) >= 0), "-1 true");
    }

    private static void whose() {
        terms("WHOSE a VILLAGE was: for whom THE BOOK has more EVENINGS of it; of neither, if as many.");
        VillageBoard x = told("north 0 0;free 0 0;south 0 0;free 0 0;");
        is("no evening yet", x.whose(0) + " " + x.whose(1) + " " + x.whose(2), "2 2 2");
        x.pass();
        is("one more", x.whose(0) + " " + x.whose(1) + " " + x.whose(2), "0 2 1");
        x.fly(0, 1);
        x.fly(2, 0);
        is("the book's, not the flag's", x.whose(0) + " " + x.village(0, 3), "0 1");
        x.pass();
        is("as many", x.whose(0), 2);
        x.pass();
        is("one more for the south", x.whose(0), 1);
        x.fly(0, 2);
        x.fly(1, 0);
        x.pass();
        is("as many again", x.whose(0) + " " + x.village(0, 5) + " " + x.village(0, 6), "2 2 2");
        x.pass();
        is("one more for the north", x.whose(0), 0);
    }

    private static void ofNeither() {
        promise(41, "WHOSE a VILLAGE was: 0, 1; 2: of neither.");
        VillageBoard x = told("north 0 0;south 0 0;free 0 0;");
        passTo(x, 999);
        is("999 evenings", x.whose(0) + " " + x.whose(1) + " " + x.whose(2), "0 1 2");
    }

    private static void status() {
        terms("STATUS: how many calls were refused: 0 of TEXTS with a FAULT, 1 of ACTS, 2 of what is SEEN.");
        VillageBoard x = told("north 0 0;free 0 0;road 0 1;style 1;");
        for (int i = 1; i <= 3; i++) {
            x.board(x.feed(0, 0, 0, 0, 0));
            is("texts", x.count(12) + " " + x.count(13) + " " + x.count(14), i + " 0 0");
        }
        int acts = 0;
        x.move(0, 0);
        is("a move", x.count(13), ++acts);
        x.fly(1, 0);
        is("a fly", x.count(13), ++acts);
        x.teach(0, 1);
        is("a style", x.count(13), ++acts);
        x.play(0);
        is("a play", x.count(13), ++acts);
        x.see(30, 0, 0);
        is("of what is seen", x.count(12) + " " + x.count(13) + " " + x.count(14), "3 4 1");
        // Neither what throws, nor what is none: only what the promises say.
        x.undo();
        x.restore();
        x.gift(1, 0);
        x.regret(1, 0);
        x.journey(1, 0);
        thrownBy(() -> x.move(0, 2));
        thrownBy(() -> x.see(0, 2, 0));
        thrownBy(() -> x.board(-1));
        is("of nothing else", x.count(12) + " " + x.count(13) + " " + x.count(14), "3 4 1");
        passTo(x, 999);
        x.pass();
        is("a pass", x.count(13), ++acts);
        x.restore();
        x.board(0);
        is("they stay", x.count(12) + " " + x.count(13) + " " + x.count(14), "3 5 1");
    }

    // ---- 42, 43

    private static void images() {
        promise(42, "STONES, FLAGS, TREASURIES, THE BOOK, the EVENING, the TURN, STYLES of both SIDES, ACTS and what is SEEN"
                + " are kept as an image");
        VillageBoard x = lively();
        x.image();
        x.undo();
        x.fly(2, 0);
        x.play(30);
        x.teach(0, NONE);
        x.teach(1, 0);
        x.forget();
        x.see(9, 0, 0);
        is("restored", x.restore(), true);
        VillageBoard twin = lively();
        twin.image();
        is("all as it was", whole(x), whole(twin));
        VillageBoard tape = lively();
        tape.image();
        tape.feed(0x20202020, 0x20202020, 0x20202020, 0x20202020, 0x20202020);
        tape.see(30, 0, 0);
        tape.play(0);
        tape.restore();
        is("not the tape, not the status", tape.count(11) + " " + tape.count(12) + " " + tape.count(13) + " "
                + tape.count(14), "60 1 2 2");
        leavesAll("to keep it changes nothing", FrontierBoundaries::imaged, y -> {
            y.image();
            return true;
        }, true);
    }

    private static VillageBoard imaged() {
        VillageBoard x = lively();
        x.image();
        return x;
    }

    private static void inPlaceOfAnother() {
        promise(42, ", in place of another one.");
        VillageBoard x = told("north 1 0;");
        x.image();
        x.pass();
        x.image();
        x.pass();
        is("the latest one", x.restore() + " " + x.count(3) + " " + x.count(9), "true 1 1");
        is("and again", x.restore() + " " + x.count(3), "true 1");
        x.undo();
        is("an undone act is none of the image's", x.count(3) + " " + x.restore() + " " + x.count(3), "0 true 1");
        VillageBoard full = told("north 1 0;");
        pass(full, 41);
        full.image();
        pass(full, 41);
        full.restore();
        is("40 acts are kept in it", full.count(9) + " " + full.count(3), "40 41");
        for (int i = 39; i >= 0; i--) {
            is("undo", full.undo() + " " + full.count(3), i + " " + (i + 1));
        }
        is("no more", full.undo(), NONE);
        full.see(0, 0, 0);
        full.image();
        for (int i = 2; i <= 6; i++) {
            full.see(i, 0, 0);
        }
        full.restore();
        is("one seen", full.count(10), 1);
    }

    private static void restored() {
        promise(43, "They are as the image again: true.");
        VillageBoard x = told("north 1 0;free 1 0;road 0 1;");
        x.image();
        is("at once", x.restore(), true);
        x.move(0, 1);
        is("again", x.restore() + " " + x.count(5) + " " + x.count(7) + " " + x.side(0, 0), "true 1 1 0");
        VillageBoard empty = new VillageBoard();
        empty.image();
        empty.play(30);
        is("of no villages", empty.restore() + " " + empty.count(3) + " " + empty.count(9), "true 0 0");
    }

    private static void noImage() {
        promise(43, "False: there is none.");
        leavesAll("a new one", VillageBoard::new, x -> x.restore(), false);
        leavesAll("a new board", FrontierBoundaries::newBoard, x -> x.restore(), false);
        VillageBoard x = imaged();
        feed(x, "?");
        is("a fault, and it stays", x.board(x.count(11)) + " " + x.restore(), "4 true");
        is("a board, and it is gone", x.board(0) + " " + x.restore(), "0 false");
    }

    private static VillageBoard newBoard() {
        VillageBoard x = told(LIVELY);
        x.pass();
        x.see(0, 0, 0);
        return x;
    }

    private static void none() {
        terms("The constants: `NONE = -1`: There is none.");
        is("NONE", VillageBoard.NONE, -1);
    }
}
