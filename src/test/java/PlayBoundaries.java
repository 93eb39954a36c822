import java.util.NoSuchElementException;

/** The boundaries of what there is, of moves, of evenings and of acts; promises 5 to 15. */
final class PlayBoundaries extends Twins {
    /** As much of all as there may be: 10 villages, 18 roads, 3 styles. */
    static final String FULL = "north 20 9;north 19 0;north 3 1;north 0 0;south 20 9;south 4 0;south 7 2;"
            + "free 1 0;free 20 3;free 5 9;"
            + "road 0 1;road 0 4;road 0 7;road 1 2;road 1 5;road 1 8;road 2 3;road 2 6;road 2 9;road 3 7;road 3 8;"
            + "road 4 5;road 4 9;road 5 6;road 5 7;road 6 8;road 7 9;road 8 9;"
            + "takes helps+1-guards-fort/5;style takes*30+worth-guards*3;style turns*5+home;style worth-evening;";

    private PlayBoundaries() {
    }

    static void run() {
        fullBoard();
        counts();
        countsOfBits();
        anotherCount();
        villages();
        noSuchVillage();
        anotherWhatOfVillages();
        sides();
        noSuchSide();
        anotherWhatOfSides();
        roads();
        lawful();
        beginning();
        stylesAtFirst();
        alongRoads();
        takesGivesMoreThanZero();
        withoutTakes();
        takenOffTheBoard();
        passAlways();
        treasuries();
        book();
        nextEvening();
        moving();
        mayNotMove();
        passing();
        above999();
        flying();
        mayNotFly();
        teaching();
        noSuchStyle();
        playing();
        mayNotPlay();
        actsKept();
        actsOfEachKind();
        undoing();
        nothingToUndo();
        byStyle();
        likeOnes();
        askingChangesNothing();
    }

    // ---- 5 to 9: what there is

    private static void fullBoard() {
        terms("VILLAGES 0, 1 .. (at most 10)");
        VillageBoard x = told(FULL);
        is("villages, roads, styles", x.count(0) + " " + x.count(1) + " " + x.count(2), "10 18 3");
        PlainModel model = new PlainModel();
        for (int i = 0; i < FULL.length(); i += 20) {
            int[] n = new int[5];
            for (int k = 0; k < 20; k++) {
                n[k / 4] = n[k / 4] << 8 | (i + k < FULL.length() ? FULL.charAt(i + k) : ' ');
            }
            model.feed(n[0], n[1], n[2], n[3], n[4]);
        }
        is("the model's", model.board(FULL.length()), 0);
        for (int round = 0; round < 4; round++) {
            for (int v = 0; v < 10; v++) {
                is("of " + v, x.hangs(v) + " " + x.turned(v) + " " + x.plant(v, 0) + " " + x.plant(v, 1) + " "
                        + x.safe(v) + " " + x.reach(v) + " " + x.guard(v) + " " + x.whose(v),
                        model.hangs(v) + " " + model.turned(v) + " " + model.plant(v, 0) + " " + model.plant(v, 1) + " "
                        + model.safe(v) + " " + model.reach(v) + " " + model.guard(v) + " " + model.whose(v));
            }
            is("ahead", x.look(3, 0) + " " + x.look(3, 1) + " " + x.win() + " " + x.next(0) + " " + x.next(1) + " "
                    + x.treaty() + " " + x.fork() + " " + x.years(round, 60, 1),
                    model.look(3, 0) + " " + model.look(3, 1) + " " + model.win() + " " + model.next(0) + " "
                    + model.next(1) + " " + model.treaty() + " " + model.fork() + " " + model.years(round, 60, 1));
            is("played", x.play(3), model.play(3));
        }
    }

    private static void counts() {
        promise(5, "0 VILLAGES, 1 ROADS, 2 STYLES, 3 the EVENING, 4 the TURN,");
        VillageBoard x = told(FULL);
        is("at first", x.count(3) + " " + x.count(4), "0 0");
        x.pass();
        is("the south's", x.count(3) + " " + x.count(4), "1 1");
        passTo(x, 999);
        is("the last one", x.count(3) + " " + x.count(4), "999 1");
        promise(5, "9 ACTS that are kept, 10 SEEN, 11 bytes of the tape, 12 to 14 STATUS 0 to 2.");
        is("acts", x.count(9), 40);
        for (int i = 0; i <= 6; i++) {
            is("seen", x.count(10), i);
            x.see(0, 0, 0);
        }
        is("seen", x.count(10) + " " + x.count(14), "6 1");
        feed(x, " ".repeat(700));
        is("bytes", x.count(11), 700);
        x.pass();
        x.pass();
        is("refused", x.count(12) + " " + x.count(13) + " " + x.count(14), "0 2 1");
        VillageBoard y = lively();
        is("tape", y.count(11), 40);
        y.board(27);
        is("refused", y.count(12) + " " + y.count(13) + " " + y.count(14), "2 1 1");
    }

    private static void countsOfBits() {
        promise(5, "5 VILLAGES with the north's STONES (bits), 6 with the south's, 7 with the north's FLAG,"
                + " 8 with the south's,");
        VillageBoard none = told("free 0 0;".repeat(10));
        VillageBoard all = told("north 0 0;".repeat(10));
        VillageBoard others = told("south 0 0;".repeat(10));
        for (int what = 5; what <= 8; what++) {
            is("none " + what, none.count(what), 0);
            is("all " + what, all.count(what), what % 2 == 1 ? 1023 : 0);
            is("others " + what, others.count(what), what % 2 == 0 ? 1023 : 0);
        }
        VillageBoard ends = told("north 0 0;" + "free 0 0;".repeat(8) + "south 0 0;");
        is("the least, the greatest", ends.count(5) + " " + ends.count(6) + " " + ends.count(7) + " " + ends.count(8),
                "1 512 1 512");
        ends.fly(0, 8);
        is("a flag without a stone", ends.count(5) + " " + ends.count(7), "256 257");
    }

    private static void anotherCount() {
        promise(5, "NoSuchElementException: another what.");
        bounds("count", 14, (x, what) -> x.count(what));
    }

    private static void villages() {
        promise(6, "Of a VILLAGE: 0 WORTH, 1 FORT, 2 STONE (2: none), 3 FLAG (2: of nobody), 4 how many ROADS,"
                + " 5 and 6 EVENINGS in THE BOOK for the north, the south.");
        VillageBoard x = told(FULL);
        is("the first", x.village(0, 0) + " " + x.village(0, 1) + " " + x.village(0, 2) + " " + x.village(0, 3) + " "
                + x.village(0, 4) + " " + x.village(0, 5) + " " + x.village(0, 6), "20 9 0 0 3 0 0");
        is("the last", x.village(9, 0) + " " + x.village(9, 1) + " " + x.village(9, 2) + " " + x.village(9, 3) + " "
                + x.village(9, 4) + " " + x.village(9, 5) + " " + x.village(9, 6), "5 9 2 2 4 0 0");
        StringBuilder star = new StringBuilder("north 0 0;".repeat(5) + "south 0 0;".repeat(5));
        for (int v = 0; v < 9; v++) {
            star.append("road ").append(v).append(" 9;");
        }
        VillageBoard y = told(star.toString());
        is("roads, most and fewest", y.village(9, 4) + " " + y.village(0, 4) + " " + told("free 0 0;").village(0, 4),
                "9 1 0");
        passTo(y, 999);
        is("as many evenings as there may be", y.village(0, 5) + " " + y.village(0, 6) + " " + y.village(9, 5) + " "
                + y.village(9, 6), "999 0 0 999");
    }

    private static void ofVillage(OfNumber ask) {
        VillageBoard full = told(FULL);
        is("the last one there is", thrownBy(() -> ask.run(full, 9)) != NoSuchElementException.class, true);
        refusesElement("one more", () -> ask.run(full, 10));
        VillageBoard empty = new VillageBoard();
        refusesElement("of none", () -> ask.run(empty, 0));
        leavesAll("below", Twins::lively, x -> ask.run(x, -1), NoSuchElementException.class);
        leavesAll("above", Twins::lively, x -> ask.run(x, 5), NoSuchElementException.class);
        for (int village : FAR) {
            leavesAll("far", Twins::lively, x -> ask.run(x, village), NoSuchElementException.class);
        }
    }

    private static void noSuchVillage() {
        promise(6, "NoSuchElementException: no such VILLAGE (as everywhere), what.");
        ofVillage((x, v) -> x.village(v, 0));
        ofVillage((x, v) -> x.hangs(v));
        ofVillage((x, v) -> x.turned(v));
        ofVillage((x, v) -> x.plant(v, 0));
        ofVillage((x, v) -> x.safe(v));
        ofVillage((x, v) -> x.reach(v));
        ofVillage((x, v) -> x.guard(v));
        ofVillage((x, v) -> x.whose(v));
        // Of two villages either one, or both.
        ofVillage((x, v) -> x.road(v, 0));
        ofVillage((x, v) -> x.road(0, v));
        ofVillage((x, v) -> x.road(v, v));
        ofVillage((x, v) -> x.lawful(v, 0));
        ofVillage((x, v) -> x.lawful(0, v));
        ofVillage((x, v) -> x.lawful(v, v));
        ofVillage((x, v) -> x.move(v, 0));
        ofVillage((x, v) -> x.move(0, v));
        ofVillage((x, v) -> x.move(v, v));
        ofVillage((x, v) -> x.fly(v, 0));
        ofVillage((x, v) -> x.fly(0, v));
        ofVillage((x, v) -> x.fly(v, v));
        ofVillage((x, v) -> x.journey(v, 0));
        ofVillage((x, v) -> x.journey(0, v));
        ofVillage((x, v) -> x.journey(v, v));
        ofVillage((x, v) -> x.gift(v, 0));
        ofVillage((x, v) -> x.gift(0, v));
        ofVillage((x, v) -> x.gift(v, v));
        ofVillage((x, v) -> x.see(0, v, 0));
        ofVillage((x, v) -> x.see(0, 0, v));
        ofVillage((x, v) -> x.see(0, v, v));
        ofVillage((x, v) -> x.regret(v, 0));
        ofVillage((x, v) -> x.regret(0, v));
        ofVillage((x, v) -> x.regret(v, v));
    }

    private static void anotherWhatOfVillages() {
        promise(6, ", what.");
        bounds("village 0", 6, (x, what) -> x.village(0, what));
        bounds("village 4", 6, (x, what) -> x.village(4, what));
        refusesElement("neither", () -> lively().village(5, 7));
    }

    private static void sides() {
        promise(7, "Of a SIDE: 0 its TREASURY, 1 its STYLE (NONE), 2 EN PRISE (bits), 3 PINNED (bits),"
                + " 4 how many MOVES it might do now, were it its TURN, 5 WORTH of all VILLAGES with its FLAG.");
        VillageBoard all = told("south 20 0;".repeat(10));
        is("most worth", all.side(0, 5) + " " + all.side(1, 5), "0 200");
        VillageBoard none = told("free 20 0;".repeat(10));
        for (int what = 0; what <= 5; what++) {
            is("nothing " + what, none.side(0, what) + " " + none.side(1, what), what == 1 ? "-1 -1" : "0 0");
        }
        // Three stones that may each go to six villages, or six that may each go to three: all 18 roads.
        String both = "north 0 0;".repeat(3) + "south 0 0;".repeat(6);
        StringBuilder roads = new StringBuilder();
        for (int road = 0; road < 18; road++) {
            roads.append("road ").append(road / 6).append(' ').append(3 + road % 6).append(';');
        }
        VillageBoard most = told(both + roads + "takes 1;");
        is("most moves", most.side(0, 4) + " " + most.side(1, 4), "18 18");
        is("most en prise", most.side(0, 2) + " " + most.side(1, 2), "7 504");
        // 0 guards 9 against 8: 9 hangs on it.
        VillageBoard last = told("north 0 0;" + "free 0 0;".repeat(7) + "south 0 0;north 0 0;road 0 9;road 8 9;");
        is("pinned", last.side(0, 3) + " " + last.side(1, 3) + " " + last.side(0, 2), "1 0 0");
        last.fly(0, 1);
        is("en prise, the last one", last.side(0, 2) + " " + last.side(0, 3), "512 0");
    }

    private static void ofSide(OfNumber ask) {
        for (int side = 0; side < 2; side++) {
            int it = side;
            is("a side", thrownBy(() -> ask.run(lively(), it)) instanceof Integer, true);
            is("of no villages", thrownBy(() -> ask.run(new VillageBoard(), it)) instanceof Integer, true);
        }
        leavesAll("below", Twins::lively, x -> ask.run(x, -1), NoSuchElementException.class);
        leavesAll("above", Twins::lively, x -> ask.run(x, 2), NoSuchElementException.class);
        for (int side : FAR) {
            leavesAll("far", Twins::lively, x -> ask.run(x, side), NoSuchElementException.class);
        }
    }

    private static void noSuchSide() {
        promise(7, "NoSuchElementException: no such SIDE (as everywhere), what.");
        ofSide((x, side) -> x.side(side, 0));
        ofSide((x, side) -> x.teach(side, NONE));
        ofSide((x, side) -> x.treasury(side, 0));
        ofSide((x, side) -> x.owes(side));
        ofSide((x, side) -> x.parts(side));
        ofSide((x, side) -> x.key(side));
    }

    private static void anotherWhatOfSides() {
        promise(7, ", what.");
        bounds("side 0", 5, (x, what) -> x.side(0, what));
        bounds("side 1", 5, (x, what) -> x.side(1, what));
        refusesElement("neither", () -> lively().side(2, 6));
    }

    private static void roads() {
        promise(8, "Whether there is a ROAD (false of one and itself).");
        VillageBoard x = told(FULL);
        int found = 0;
        for (int v = 0; v < 10; v++) {
            is("of one and itself", x.road(v, v), false);
            for (int other = 0; other < 10; other++) {
                is("both ways", x.road(v, other), x.road(other, v));
                found += x.road(v, other) ? 1 : 0;
            }
        }
        is("each twice", found, 36);
        VillageBoard none = told("free 0 0;free 0 0;");
        is("none", none.road(0, 1) + " " + none.road(1, 0) + " " + none.road(0, 0), "false false false");
    }

    private static void lawful() {
        promise(9, "Whether the STONE in a VILLAGE might MOVE to another one, were it its SIDE's TURN (false without one).");
        VillageBoard x = told("north 0 0;free 0 0;south 0 0;free 0 0;road 0 1;road 1 2;road 2 3;road 1 3;");
        is("of whose turn it is", x.lawful(0, 1), true);
        is("of whose turn it isn't", x.lawful(2, 1) + " " + x.lawful(2, 3), "true true");
        is("without one", x.lawful(1, 0) + " " + x.lawful(1, 3) + " " + x.lawful(3, 2), "false false false");
        is("one and itself", x.lawful(0, 0) + " " + x.lawful(1, 1), "false false");
        is("without a road", x.lawful(0, 3) + " " + x.lawful(0, 2), "false false");
        VillageBoard late = lateEvening(999);
        is("on the last evening, too", late.lawful(0, 1) + " " + late.lawful(2, 3), "true true");
    }

    // ---- how it begins, and what may be done

    private static void beginning() {
        terms("The EVENING is 0, the north's TURN, TREASURIES are 0");
        VillageBoard x = told(FULL);
        is("at first", x.count(3) + " " + x.count(4) + " " + x.side(0, 0) + " " + x.side(1, 0), "0 0 0 0");
        passTo(x, 31);
        feed(x, FULL);
        is("anew", x.board(FULL.length()), 0);
        is("at first again", x.count(3) + " " + x.count(4) + " " + x.side(0, 0) + " " + x.side(1, 0), "0 0 0 0");
    }

    private static void stylesAtFirst() {
        terms("the north has STYLE 0, the south STYLE 1, or 0, if there is no STYLE 1; none, if there is none.");
        String[] due = {"-1 -1", "0 0", "0 1", "0 1"};
        for (int many = 0; many <= 3; many++) {
            VillageBoard x = told("style 1;".repeat(many));
            is(many + " styles", x.side(0, 1) + " " + x.side(1, 1), due[many]);
        }
    }

    private static void alongRoads() {
        terms("A SIDE may MOVE a STONE of its own along a ROAD to a VILLAGE without a STONE");
        VillageBoard x = told("north 0 9;free 0 9;north 0 0;free 0 0;road 0 1;road 0 2;takes 0;");
        is("whatever fort and takes", x.lawful(0, 1), true);
        is("not to its own", x.lawful(0, 2) + " " + x.lawful(2, 0), "false false");
        is("not without a road", x.lawful(2, 1) + " " + x.lawful(0, 3), "false false");
        is("a stone of the other side's", told("south 0 0;free 0 0;road 0 1;").move(0, 1), NONE);
    }

    private static void takesGivesMoreThanZero() {
        terms("or to one with a STONE of the other SIDE, if TAKES gives more than 0");
        takesGives("0-1", false);
        takesGives("0", false);
        takesGives("1", true);
        takesGives("2", true);
        takesGives("8*4096*4096*16", false);
        takesGives("8*4096*4096*16-1", true);
    }

    private static void withoutTakes() {
        terms("(without one, if 'helps' is more than 'guards' and 'fort' less 1 together)");
        for (int helps = 0; helps <= 4; helps++) {
            for (int guards = 0; guards <= 4; guards++) {
                for (int fort = 0; fort <= 9; fort++) {
                    StringBuilder text = new StringBuilder("south 0 " + fort + ";north 0 0;road 0 1;");
                    for (int v = 2; v < 2 + helps + guards; v++) {
                        text.append(v < 2 + helps ? "north 0 9;" : "south 0 9;").append("road 0 ").append(v).append(';');
                    }
                    is(helps + " against " + guards + " and " + fort, told(text.toString()).lawful(1, 0),
                            helps > guards + fort - 1);
                }
            }
        }
    }

    private static void takenOffTheBoard() {
        terms("that is taken off the board. The FLAG is that of the STONE then; where it came from the FLAG stays.");
        VillageBoard x = told("north 0 0;south 0 0;free 0 0;road 0 1;road 1 2;takes 1;");
        is("taken", x.move(0, 1), 1);
        is("stones", x.count(5) + " " + x.count(6), "2 0");
        is("flags", x.count(7) + " " + x.count(8), "3 0");
        x.pass();
        is("on to a free one", x.move(1, 2) + " " + x.count(5) + " " + x.count(7), "0 4 7");
    }

    private static void passAlways() {
        terms("A PASS is allowed always.");
        is("of no villages", new VillageBoard().pass(), 1);
        is("where there are moves", told(FULL).pass(), 1);
        is("without stones", told("free 0 0;").pass(), 1);
        VillageBoard x = told("north 0 0;");
        is("both sides", x.pass() + " " + x.pass() + " " + x.pass(), "1 2 3");
    }

    private static void treasuries() {
        terms("At the end of each EVENING (a MOVE, a PASS) each VILLAGE pays its WORTH to the TREASURY of its FLAG"
                + " (9999 at most)");
        // 101 an evening: 99 of them are 9999.
        String north = "north 20 0;".repeat(5) + "north 1 0;free 0 0;south 2 0;";
        VillageBoard x = told(north);
        pass(x, 98);
        is("98 by 101", x.side(0, 0) + " " + x.side(1, 0), "9898 196");
        x.pass();
        is("99 by 101", x.side(0, 0), 9999);
        x.pass();
        is("no more", x.side(0, 0) + " " + x.side(1, 0), "9999 200");
        x.undo();
        x.undo();
        // Without the flag of village 5 it is 100 an evening.
        x.fly(5, 6);
        x.fly(7, 5);
        x.pass();
        is("one below", x.side(0, 0), 9998);
        x.pass();
        is("9998 and 100", x.side(0, 0), 9999);
        VillageBoard y = told("south 20 0;".repeat(5) + "north 0 0;free 0 0;road 5 6;");
        pass(y, 99);
        is("99 by 100", y.side(1, 0) + " " + y.side(0, 0), "9900 0");
        is("10000 is one above", y.pass() + " " + y.side(1, 0), "100 9999");
        VillageBoard z = told("north 3 0;free 4 0;south 5 0;road 0 1;");
        z.move(0, 1);
        is("a move's, by the flags at its end", z.side(0, 0) + " " + z.side(1, 0), "7 5");
        VillageBoard most = told("north 20 0;".repeat(10));
        is("foreseen and played", most.treasury(0, 30) + " " + most.play(30) + " " + most.side(0, 0), "6000 30 6000");
        is("foreseen and played", most.treasury(0, 19) + " " + most.treasury(0, 20) + " " + most.play(20) + " "
                + most.side(0, 0), "9800 9999 50 9999");
    }

    private static void book() {
        terms("and THE BOOK counts one EVENING more of it for this FLAG");
        VillageBoard x = told("north 3 0;free 4 0;south 5 0;road 0 1;road 1 2;");
        x.pass();
        is("the north's and nobody's", x.village(0, 5) + " " + x.village(0, 6) + " " + x.village(1, 5) + " "
                + x.village(1, 6), "1 0 0 0");
        is("the south's", x.village(2, 5) + " " + x.village(2, 6), "0 1");
        x.move(2, 1);
        is("the flag at its end", x.village(1, 5) + " " + x.village(1, 6) + " " + x.village(2, 6), "0 1 2");
        x.fly(1, 2);
        is("a fly counts none", x.village(1, 6) + " " + x.village(2, 6), "1 2");
        x.play(30);
        is("thirty more", x.village(0, 5) + " " + x.village(1, 6) + " " + x.village(2, 6), "32 31 32");
    }

    private static void nextEvening() {
        terms("the EVENING is one more, the TURN the other SIDE's.");
        VillageBoard x = told("north 0 0;free 0 0;south 0 0;free 0 0;road 0 1;road 2 3;");
        x.pass();
        is("a pass", x.count(3) + " " + x.count(4), "1 1");
        x.move(2, 3);
        is("a move", x.count(3) + " " + x.count(4), "2 0");
        x.play(1);
        is("one played", x.count(3) + " " + x.count(4), "3 1");
        x.play(2);
        is("two played", x.count(3) + " " + x.count(4), "5 1");
    }

    // ---- 10 to 15: acts

    private static void moving() {
        promise(10, "A MOVE: 1, if a STONE is taken, else 0.");
        VillageBoard x = told("north 0 0;south 0 0;free 0 0;road 0 1;road 0 2;takes 1;");
        is("to a free one", x.move(0, 2), 0);
        x.undo();
        is("taking", x.move(0, 1), 1);
    }

    private static void mayNotMove() {
        promise(10, "NONE (STATUS 1): it may not; no STONE of whose TURN it is.");
        // The south's turn: stones of the north's in 1 and 4, of the south's in 2; 1 may be taken only with a help.
        refuses("a taking that isn't lawful", PlayBoundaries::guarded, x -> x.move(2, 1), NONE, 1);
        refuses("without a road", Twins::lively, x -> x.move(2, 0), NONE, 1);
        refuses("to itself", Twins::lively, x -> x.move(2, 2), NONE, 1);
        refuses("of the other side", Twins::lively, x -> x.move(1, 0), NONE, 1);
        refuses("to where it just came from", Twins::lively, x -> x.move(4, 1), NONE, 1);
        refuses("no stone there", Twins::lively, x -> x.move(3, 2), NONE, 1);
        refuses("no stones at all", () -> told("free 0 0;free 0 0;road 0 1;"), x -> x.move(0, 1), NONE, 1);
        refuses("to an own one", () -> told("north 0 0;north 0 0;road 0 1;"), x -> x.move(0, 1), NONE, 1);
    }

    private static VillageBoard guarded() {
        VillageBoard x = told("north 3 0;north 1 0;south 5 0;road 0 1;road 1 2;");
        x.pass();
        return x;
    }

    private static void passing() {
        promise(11, "A PASS: the EVENING.");
        VillageBoard x = told(FULL);
        is("the first", x.pass() + " " + x.count(3) + " " + x.count(9), "1 1 1");
        is("the second", x.pass() + " " + x.count(3) + " " + x.count(9), "2 2 2");
    }

    private static void above999() {
        promise(11, "NONE (STATUS 1): it would be above 999 (a MOVE then, too).");
        is("one below", lateEvening(997).pass(), 998);
        is("999", lateEvening(998).pass(), 999);
        is("a move to 999", lateEvening(998).move(0, 1), 0);
        refuses("a pass to 1000", () -> lateEvening(999), x -> x.pass(), NONE, 1);
        refuses("a move to 1000", () -> lateEvening(999), x -> x.move(2, 3), NONE, 1);
        refuses("a move that may not", () -> lateEvening(999), x -> x.move(2, 0), NONE, 1);
        VillageBoard x = lateEvening(999);
        is("a fly is no evening", x.fly(0, 1) + " " + x.teach(0, NONE) + " " + x.count(3), "true 0 999");
        x.undo();
        x.undo();
        is("undone, and again", x.undo() + " " + x.pass() + " " + x.pass(), "37 999 -1");
    }

    private static void flying() {
        terms("a FLY brings a STONE to a VILLAGE without one (no EVENING goes by; FLAGS as by a MOVE)");
        promise(12, "A FLY: true.");
        VillageBoard x = told("north 3 0;" + "free 1 0;".repeat(8) + "south 5 0;");
        is("as far as can be", x.fly(9, 1), true);
        is("of whose turn it isn't", x.count(4) + " " + x.count(6) + " " + x.count(8), "0 2 514");
        is("no evening", x.count(3) + " " + x.side(0, 0) + " " + x.side(1, 0) + " " + x.village(9, 6), "0 0 0 0");
        is("to a flag of the other side's", x.fly(0, 9), true);
        is("flags", x.count(7) + " " + x.count(8) + " " + x.count(5), "513 2 512");
        is("each an act", x.count(9), 2);
    }

    private static void mayNotFly() {
        promise(12, "False (STATUS 1): no STONE there, there is one where it goes.");
        refuses("no stone there", Twins::lively, x -> x.fly(0, 3), false, 1);
        refuses("an own one where it goes", Twins::lively, x -> x.fly(1, 4), false, 1);
        refuses("another one where it goes", Twins::lively, x -> x.fly(1, 2), false, 1);
        refuses("both", Twins::lively, x -> x.fly(0, 1), false, 1);
        refuses("itself", Twins::lively, x -> x.fly(1, 1), false, 1);
        refuses("itself, without one", Twins::lively, x -> x.fly(0, 0), false, 1);
        refuses("a full board", () -> told("north 0 0;".repeat(10)), x -> x.fly(9, 0), false, 1);
        refuses("a board without stones", () -> told("free 0 0;".repeat(10)), x -> x.fly(9, 0), false, 1);
    }

    private static void teaching() {
        terms("a SIDE's STYLE becomes another, or none");
        promise(13, "A SIDE's STYLE (NONE: none): as it was.");
        VillageBoard x = told("style 1;".repeat(3));
        is("the north's", x.teach(0, 2) + " " + x.teach(0, NONE) + " " + x.teach(0, 0) + " " + x.side(0, 1), "0 2 -1 0");
        is("the south's", x.teach(1, NONE) + " " + x.teach(1, NONE) + " " + x.teach(1, 2) + " " + x.side(1, 1),
                "1 -1 -1 2");
        is("no evening, each an act", x.count(3) + " " + x.count(9), "0 6");
        is("undone", x.undo() + " " + x.side(1, 1) + " " + x.undo() + " " + x.undo() + " " + x.side(1, 1), "5 -1 4 3 1");
    }

    private static void noSuchStyle() {
        promise(13, "-2 (STATUS 1): there is no such one.");
        for (int style : FAR) {
            refuses("far", Twins::lively, x -> x.teach(0, style), -2, 1);
        }
        refuses("one above", Twins::lively, x -> x.teach(0, 3), -2, 1);
        refuses("one below none", Twins::lively, x -> x.teach(1, -2), -2, 1);
        refuses("of none", VillageBoard::new, x -> x.teach(1, 0), -2, 1);
        is("the last one", lively().teach(0, 2), 0);
        is("none of none", new VillageBoard().teach(1, NONE), NONE);
        leavesAll("no such side comes first", Twins::lively, x -> x.teach(2, 3), NoSuchElementException.class);
    }

    private static void playing() {
        terms("EVENINGS are PLAYED by STYLES (1 to 30).");
        promise(14, "EVENINGS are PLAYED: the EVENING.");
        VillageBoard x = told(FULL);
        is("1", x.play(1) + " " + x.count(3), "1 1");
        is("29", x.play(29) + " " + x.count(3), "30 30");
        is("30", x.play(30) + " " + x.count(3), "60 60");
        is("each one act", x.count(9), 3);
        is("undone at once", x.undo() + " " + x.count(3) + " " + x.undo() + " " + x.count(3), "2 30 1 1");
        is("of no villages", new VillageBoard().play(30), 30);
    }

    private static void mayNotPlay() {
        promise(14, "NONE (STATUS 1): not 1 to 30, it would be above 999.");
        for (int many : new int[] {0, -1, 31, 32, 999, Integer.MIN_VALUE, Integer.MAX_VALUE}) {
            refuses("play " + many, Twins::lively, x -> x.play(many), NONE, 1);
        }
        is("30 to 999", lateEvening(969).play(30), 999);
        refuses("30 to 1000", () -> lateEvening(970), x -> x.play(30), NONE, 1);
        is("29 to 999", lateEvening(970).play(29), 999);
        is("1 to 999", lateEvening(998).play(1), 999);
        refuses("2 to 1000", () -> lateEvening(998), x -> x.play(2), NONE, 1);
        refuses("1 to 1000", () -> lateEvening(999), x -> x.play(1), NONE, 1);
        refuses("0 at 999", () -> lateEvening(999), x -> x.play(0), NONE, 1);
    }

    private static void actsKept() {
        terms("ACTS (at most 40 are kept, the latest ones)");
        for (int many : new int[] {39, 40, 41, 80, 81}) {
            VillageBoard x = told("north 1 0;");
            pass(x, many);
            int kept = Math.min(many, 40);
            is(many + " acts", x.count(9), kept);
            for (int i = kept - 1; i >= 0; i--) {
                is("undo of " + many, x.undo() + " " + x.count(3), i + " " + (many - kept + i));
            }
            is("no more of " + many, x.undo() + " " + x.count(3) + " " + x.count(9), "-1 " + (many - kept) + " 0");
        }
        VillageBoard y = told("north 1 0;");
        pass(y, 45);
        for (int i = 0; i < 20; i++) {
            y.undo();
        }
        pass(y, 30);
        is("again beyond 40", y.count(9) + " " + y.count(3), "40 55");
        for (int i = 39; i >= 0; i--) {
            is("undo", y.undo() + " " + y.count(3) + " " + y.side(0, 0), i + " " + (15 + i) + " " + (15 + i));
        }
        is("no more", y.undo(), NONE);
    }

    private static void actsOfEachKind() {
        terms("a MOVE of whose TURN it is; a PASS");
        VillageBoard x = lively();
        is("two passes, a move, a style, a fly", x.count(9), 5);
        terms("They are UNDONE, the last one first.");
        is("the fly", x.undo() + " " + x.count(5) + " " + x.count(7), "4 10 11");
        is("the style", x.undo() + " " + x.side(1, 1) + " " + x.count(3), "3 1 3");
        is("the move", x.undo() + " " + x.count(5) + " " + x.count(7) + " " + x.count(3) + " " + x.count(4), "2 9 9 2 0");
        is("its treasuries", x.side(0, 0) + " " + x.side(1, 0), "10 10");
        is("a pass", x.undo() + " " + x.count(3) + " " + x.count(4) + " " + x.side(0, 0) + " " + x.side(1, 0) + " "
                + x.village(0, 5) + " " + x.village(2, 6), "1 1 1 5 5 1 1");
        is("the first one", x.undo() + " " + x.count(3) + " " + x.side(0, 0) + " " + x.side(1, 0) + " "
                + x.village(0, 5) + " " + x.village(2, 6), "0 0 0 0 0 0");
    }

    private static void undoing() {
        promise(15, "The last ACT is UNDONE: how many are left.");
        VillageBoard x = told(FULL);
        String first = whole(told(FULL));
        x.fly(0, 9);
        x.play(30);
        is("left", x.undo() + " " + x.undo(), "1 0");
        is("as it was", whole(x), first);
        VillageBoard taken = told("north 3 0;south 4 0;road 0 1;takes 1;style 1;");
        taken.play(30);
        is("a stone comes back", taken.count(6) + " " + taken.undo() + " " + taken.count(6) + " " + taken.count(8),
                "0 0 2 2");
        VillageBoard rich = told("north 20 0;".repeat(10));
        pass(rich, 50);
        rich.undo();
        is("from 9999 back to what it was", rich.side(0, 0), 9800);
    }

    private static void nothingToUndo() {
        promise(15, "NONE: there is none.");
        refuses("a new one", VillageBoard::new, x -> x.undo(), NONE, NONE);
        refuses("a new board", () -> told(FULL), x -> x.undo(), NONE, NONE);
        refuses("all are undone", PlayBoundaries::allUndone, x -> x.undo(), NONE, NONE);
        VillageBoard refused = told(FULL);
        refused.play(31);
        refused.fly(9, 0);
        refused.teach(0, 3);
        is("what was refused is no act", refused.undo() + " " + refused.count(13), "-1 3");
    }

    private static VillageBoard allUndone() {
        VillageBoard x = told(LIVELY);
        x.pass();
        x.fly(0, 4);
        x.undo();
        x.undo();
        return x;
    }

    private static void byStyle() {
        terms("BY STYLE a SIDE MOVES so that its STYLE gives most, if that is more than 0");
        String land = "north 0 0;free 4 0;free 5 0;road 0 1;road 0 2;style ";
        is("-1", told(land + "0-1;").played(0), NONE);
        is("0", told(land + "0;").played(0), NONE);
        is("1", told(land + "1;").played(0), 1);
        is("4 and 5", told(land + "worth;").played(0), 2);
        is("-1 and 0", told(land + "worth-5;").played(0), NONE);
        is("0 and 1", told(land + "worth-4;").played(0), 2);
        is("the greatest and the least int", told(land + "8*4096*4096*16-(worth=4);").played(0), 1);
    }

    private static void likeOnes() {
        terms("of like ones by the least VILLAGE from which, then to which; else it PASSES (without a STYLE always).");
        String land = "free 1 0;north 1 0;free 1 0;north 1 0;road 3 0;road 1 2;road 3 2;road 1 0;style ";
        VillageBoard x = told(land + "1;");
        is("from which, then to which", x.played(0), 100);
        x.fly(1, 2);
        is("then 2", x.played(0), 201);
        x.teach(0, NONE);
        is("without a style", x.played(0) + " " + x.play(2) + " " + x.count(5), "-1 2 12");
        is("no moves", told("north 1 0;style 1;").played(0), NONE);
        is("no stones", told("free 1 0;style 1;").played(0), NONE);
    }

    private static void askingChangesNothing() {
        of("Not promised", "Nothing is promised beyond the answers and state changes described above");
        On[] asked = {x -> x.fault(), x -> x.road(0, 1), x -> x.lawful(2, 1), x -> x.hangs(1), x -> x.look(3, 0),
            x -> x.look(3, 1), x -> x.win(), x -> x.journey(2, 3), x -> x.played(29), x -> x.turned(3),
            x -> x.treasury(0, 30), x -> x.gift(2, 3), x -> x.plant(1, 1), x -> x.styles(0), x -> x.next(0),
            x -> x.treaty(), x -> x.game(0, 2, 0), x -> x.years(9, 60, 0), x -> x.owes(0), x -> x.front(),
            x -> x.parts(0), x -> x.safe(2), x -> x.reach(2), x -> x.guard(1), x -> x.key(0), x -> x.fork(),
            x -> x.regret(2, 3), x -> x.whose(2)};
        for (int i = 0; i < asked.length; i++) {
            asks("asked " + i, Twins::lively, asked[i]);
        }
    }
}
