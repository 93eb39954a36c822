import java.util.NoSuchElementException;

/** For each promise of the document ordinary inputs, the edges it names, and wrong inputs; all answers by hand. */
public final class PromiseTests extends Checks {
    private PromiseTests() {
    }

    public static void main(String[] args) {
        newObject();
        tape();
        texts();
        faults();
        deepTexts();
        expressions();
        valuesOfMoves();
        countsAndVillages();
        sides();
        roadsAndLaw();
        moves();
        passes();
        flies();
        teaching();
        playing();
        undoing();
        hanging();
        looking();
        winning();
        journeys();
        played();
        turnedAndTreasury();
        gifts();
        planting();
        seeing();
        stylesSeen();
        nextEvening();
        treaties();
        games();
        years();
        owing();
        frontAndParts();
        safeAndReach();
        guarding();
        keys();
        forks();
        regrets();
        whose();
        images();
        status();
        finish("PromiseTests");
    }

    // ---- 1 to 4

    private static void newObject() {
        VillageBoard x = new VillageBoard();
        for (int what = 0; what <= 14; what++) {
            is("new count " + what, x.count(what), 0);
        }
        is("new fault", x.fault(), NONE);
        is("new style", x.side(0, 1), NONE);
        is("new treasury", x.side(1, 0), 0);
        is("no village", thrownBy(() -> x.village(0, 0)), NoSuchElementException.class);
        is("NONE", VillageBoard.NONE, -1);
    }

    private static void tape() {
        VillageBoard x = new VillageBoard();
        for (int i = 1; i <= 35; i++) {
            is("feed", x.feed(0x20202020, 0x20202020, 0x20202020, 0x20202020, 0x20202020), 20 * i);
        }
        is("feed beyond 700", x.feed(0, 0, 0, 0, 0), NONE);
        is("bytes", x.count(11), 700);
        is("700 blanks", x.board(700), 0);
        is("bytes", x.count(11), 0);
        is("feed anew", x.feed(0x66726565, 0x20372032, 0x3b202020, -1, 0x80ff0001), 20);
        is("first bytes alone", x.board(9), 0);
        is("the rest is gone", x.count(11), 0);
        is("highest byte first", x.village(0, 0) * 10 + x.village(0, 1), 72);
    }

    private static void texts() {
        VillageBoard x = told(SMALL);
        is("fault", x.fault(), NONE);
        refusesArgument("no tape", () -> x.board(1));
        refusesArgument("below 0", () -> x.board(-1));
        refusesArgument("far below 0", () -> x.board(Integer.MIN_VALUE));
        is("nothing changes", x.count(0), 4);
        is("nothing is counted", x.count(12), 0);
        x.pass();
        x.see(0, 0, 0);
        x.image();
        feed(x, "north;");
        refusesArgument("too many", () -> x.board(21));
        is("the tape stays", x.count(11), 20);
        is("a fault", x.board(6), 1);
        is("its place", x.fault(), 5);
        is("the tape is empty", x.count(11), 0);
        is("all stays", x.count(0) + " " + x.count(3) + " " + x.count(9) + " " + x.count(10), "4 1 1 1");
        is("the image stays", x.restore(), true);
        refusesArgument("no tape", () -> x.board(1));
        is("the fault's place stays", x.fault(), 5);
        is("an empty board", x.board(0), 0);
        is("no fault", x.fault(), NONE);
        is("all anew", x.count(0) + " " + x.count(3) + " " + x.count(9) + " " + x.count(10), "0 0 0 0");
        is("no image", x.restore(), false);
        is("status stays", x.count(12), 1);
        is("no styles", x.side(0, 1), NONE);
        VillageBoard y = told("style 1;");
        is("the south has it too", y.side(1, 1), 0);
        VillageBoard z = told("style 1;style 2;style 3;");
        is("styles of both", z.side(0, 1) + " " + z.side(1, 1), "0 1");
    }

    private static void faults() {
        fault("", 0, NONE);
        fault(" \n ", 0, NONE);
        fault("north3 0;", 0, NONE);
        fault("free\n20\n9\n;\n", 0, NONE);
        fault("free 0020 0009;", 0, NONE);
        fault("free 21 9;", 2, 5);
        fault("free 20 10;", 2, 8);
        fault("free 00020 9;", 2, 5);
        fault("free 12345 9;", 2, 5);
        fault("free 20 9 1;", 1, 10);
        fault("free 20 9", 1, 9);
        fault("free 20 9  ", 1, 11);
        fault("free 20", 1, 7);
        fault("free", 1, 4);
        fault("Free 1 1;", 1, 0);
        fault("freed 1 1;", 1, 0);
        fault(" ;", 1, 1);
        fault("7;", 1, 0);
        fault("123456;", 1, 0);
        fault("free 1 \t1;", 1, 7);
        fault("free 1 " + (char) 200 + ";", 1, 7);
        fault("free x 1;", 1, 5);
        fault("or 1;", 1, 0);
        String two = "free 0 0;free 0 0;";
        fault("road 0 1;", 3, 5);
        fault(two + "road 0 0;", 4, 25);
        fault(two + "road 0 1;road 0 1;", 4, 34);
        fault(two + "road 1 0;road 0 1;", 4, 34);
        fault(two + "road 2 2;", 3, 23);
        fault(two + "road 0 2;", 3, 25);
        fault(two + "road 0 9999;", 3, 25);
        fault(two + "road 0 00001;", 2, 25);
        fault(two + "road 99999 0;", 2, 23);
        fault(two + "road x 0;", 1, 23);
        fault(two + "road 0 x;", 1, 25);
        fault("road 0 0;" + two, 3, 5);
        fault("free 0 0;".repeat(10), 0, NONE);
        fault("free 0 0;".repeat(10) + " south x;", 2, 91);
        fault("style 1;style 1;style 1;style;", 2, 24);
        fault("takes 1;style 1;takes;", 5, 16);
        StringBuilder many = new StringBuilder("free 0 0;".repeat(7));
        int roads = 0;
        for (int a = 0; a < 7; a++) {
            for (int b = a + 1; b < 7 && roads < 18; b++, roads++) {
                many.append("road ").append(a).append(' ').append(b).append(';');
            }
        }
        fault(many.toString(), 0, NONE);
        fault(many + "road;", 2, many.length());
    }

    private static void deepTexts() {
        fault("takes (((((1)))));", 0, NONE);
        fault("takes ((((((1))))));", 2, 12);
        fault("takes ((((((sun", 2, 12);
        fault("takes ((((((not", 2, 12);
        fault("takes (((((((", 2, 12);
        fault("takes ((((((123456", 2, 12);
        fault("takes (((((()", 1, 12);
        fault("takes ((((((+", 1, 12);
        fault("takes ((((((", 1, 12);
        fault("takes ((((((?", 1, 12);
        fault("takes 1+(((((1)))))+(((((2)))));", 0, NONE);
        fault("takes not not not not not not 1;", 0, NONE);
        fault("takes not not not not not not not 1;", 2, 30);
        fault("takes not not not not not not (not 1);", 0, NONE);
        fault("takes not not not not not not 1 and not 1;", 0, NONE);
        fault("takes 1 + not 1;", 3, 10);
        fault("takes or 1;", 3, 6);
        fault("takes north;", 3, 6);
        fault("takes 1 or and;", 3, 11);
        fault("takes 1 north;", 1, 8);
        fault("takes 1 1;", 1, 8);
        fault("takes 1 12345;", 1, 8);
        fault("takes 1 < 2 < 3;", 1, 12);
        fault("takes 1 = 2 < 3;", 1, 12);
        fault("takes 1 < ;", 1, 10);
        fault("takes (1;", 1, 8);
        fault("takes 1);", 1, 7);
        fault("takes 12345;", 2, 6);
        fault("takes 9999;", 0, NONE);
        fault("takes -1;", 1, 6);
        fault("takes 1 !", 1, 8);
        fault("takes", 1, 5);
        fault("takes 1", 1, 7);
        fault("style helps guards;", 1, 12);
        fault("style helpsguards;", 3, 6);
        fault("style abcdefghijklmnopqrstuvwxyz;", 3, 6);
        fault("style a;", 3, 6);
        fault("style z;", 3, 6);
        fault("style `;", 1, 6);
        fault("style {;", 1, 6);
        fault("style 1helps;", 1, 7);
    }

    private static void expressions() {
        takesGives("1", true);
        takesGives("0", false);
        takesGives("0-1", false);
        gives("7-2-1", 4);
        gives("2+3*4", 14);
        gives("(2+3)*4", 20);
        gives("20/3/2", 3);
        gives("(0-7)/2+10", 7);
        gives("7/0", 0);
        gives("7/0+1", 1);
        gives("12/3*2", 8);
        gives("not 5", 0);
        gives("not 0", 1);
        gives("not not 5", 1);
        gives("not 1=2", 1);
        gives("5 and 7", 1);
        gives("5 and 0", 0);
        gives("0 or 7", 1);
        gives("0 or 0", 0);
        gives("1 or 0 and 0", 1);
        gives("not 0 and 0", 0);
        gives("1<2", 1);
        gives("2<2", 0);
        gives("3=3", 1);
        gives("1+1<3 and 2=1+1", 1);
        gives("0-3<0", 1);
        // 9999 * 9999 is 99980001; by 22 it wraps below 0, by 43 it is above 0 again.
        takesGives("9999*9999*21", true);
        takesGives("9999*9999*22", false);
        takesGives("9999*9999*43", true);
        // 8 * 4096 * 4096 * 16 wraps to the least int, which less 1 is the greatest.
        takesGives("8*4096*4096*16", false);
        takesGives("8*4096*4096*16-1", true);
        takesGives("8*4096*4096*16/(0-1)=8*4096*4096*16", true);
    }

    private static void valuesOfMoves() {
        // 0 moves to 1: 2 helps (3 has no road to 1), 4 guards, 5 doesn't.
        String land = "north 7 1;south 5 3;north 2 0;north 1 0;south 4 0;south 6 0;free 9 2;"
                + "road 0 1;road 1 2;road 4 1;road 0 6;road 0 3;road 5 6;";
        String rule = "helps=1 and guards=1 and fort=3 and worth=5 and home=7 and takes=1 and turns=1 and evening=2";
        VillageBoard x = told(land + "takes " + rule + ";");
        is("not on evening 0", x.lawful(0, 1), false);
        pass(x, 2);
        is("on evening 2", x.lawful(0, 1), true);
        is("from 2 it's another home", x.lawful(2, 1), false);
        VillageBoard free = told(land
                + "style helps=0 and guards=1 and fort=2 and worth=9 and home=7 and takes=0 and turns=1;"
                + "style 0;");
        is("a free village", free.played(0), 6);
        VillageBoard back = told("north 1 0;free 0 0;road 0 1;style 1-turns;");
        is("turns of nobody's flag", back.played(0), NONE);
        back.move(0, 1);
        back.pass();
        is("turns not its own flag", back.played(0), 100);
        VillageBoard plain = told("north 1 0;south 1 1;north 1 0;road 0 1;road 1 2;");
        is("without takes: 1 is more than 0 and 1 less 1", plain.lawful(0, 1), true);
        VillageBoard fort = told("north 1 0;south 1 2;north 1 0;road 0 1;road 1 2;");
        is("without takes: 1 isn't more than 0 and 2 less 1", fort.lawful(0, 1), false);
        VillageBoard guarded = told("north 1 0;south 1 0;south 1 0;road 0 1;road 1 2;");
        is("without takes: 0 isn't more than 1 and 0 less 1", guarded.lawful(0, 1), false);
    }

    // ---- 5 to 9

    private static void countsAndVillages() {
        VillageBoard x = told("north 3 4;free 1 0;south 5 9;north 20 0;road 0 1;road 1 2;road 3 1;style 1;");
        is("counts", x.count(0) + " " + x.count(1) + " " + x.count(2), "4 3 1");
        is("stones and flags", x.count(5) + " " + x.count(6) + " " + x.count(7) + " " + x.count(8), "9 4 9 4");
        is("move", x.move(0, 1), 0);
        is("evening and turn", x.count(3) + " " + x.count(4), "1 1");
        is("stones and flags", x.count(5) + " " + x.count(6) + " " + x.count(7) + " " + x.count(8), "10 4 11 4");
        is("acts", x.count(9), 1);
        x.see(0, 0, 0);
        is("seen", x.count(10), 1);
        is("worth and fort", x.village(2, 0) + " " + x.village(2, 1) + " " + x.village(3, 0), "5 9 20");
        is("stones", x.village(0, 2) + " " + x.village(1, 2) + " " + x.village(2, 2), "2 0 1");
        is("flags", x.village(0, 3) + " " + x.village(1, 3) + " " + x.village(2, 3), "0 0 1");
        is("roads", x.village(1, 4) + " " + x.village(0, 4), "3 1");
        is("book", x.village(1, 5) + " " + x.village(1, 6) + " " + x.village(2, 6), "1 0 1");
        is("free flags", told("free 0 0;").village(0, 3), 2);
        refusesElement("count", () -> x.count(15));
        refusesElement("count", () -> x.count(-1));
        refusesElement("village", () -> x.village(4, 0));
        refusesElement("village", () -> x.village(-1, 0));
        refusesElement("village", () -> x.village(0, 7));
        refusesElement("village", () -> x.village(0, -1));
    }

    private static void sides() {
        VillageBoard x = told(SMALL);
        is("en prise", x.side(0, 2) + " " + x.side(1, 2), "0 4");
        is("pinned", x.side(0, 3) + " " + x.side(1, 3), "1 0");
        is("moves", x.side(0, 4) + " " + x.side(1, 4), "2 1");
        is("worth", x.side(0, 5) + " " + x.side(1, 5), "5 5");
        x.pass();
        x.teach(0, NONE);
        is("treasuries", x.side(0, 0) + " " + x.side(1, 0), "5 5");
        is("styles", x.side(0, 1) + " " + x.side(1, 1), "-1 1");
        refusesElement("side", () -> x.side(2, 0));
        refusesElement("side", () -> x.side(-1, 0));
        refusesElement("side", () -> x.side(0, 6));
        refusesElement("side", () -> x.side(0, -1));
        VillageBoard rich = told("north 20 0;north 20 0;north 20 0;north 20 0;north 20 0;north 20 0;north 20 0;"
                + "north 20 0;north 20 0;north 20 0;");
        pass(rich, 49);
        is("a treasury", rich.side(0, 0), 9800);
        rich.pass();
        is("at most 9999", rich.side(0, 0), 9999);
        rich.pass();
        is("and no more", rich.side(0, 0), 9999);
        is("foreseen, too", rich.treasury(0, 30), 9999);
    }

    private static void roadsAndLaw() {
        VillageBoard x = told(SMALL);
        is("road", x.road(0, 1) && x.road(1, 0) && x.road(2, 3), true);
        is("no road", x.road(0, 2) || x.road(1, 3), false);
        is("of one and itself", x.road(0, 0), false);
        refusesElement("road", () -> x.road(0, 4));
        refusesElement("road", () -> x.road(-1, 0));
        is("to a free one", x.lawful(0, 1), true);
        is("to an own one", x.lawful(0, 3), false);
        is("taking", x.lawful(3, 2), true);
        is("not its turn", x.lawful(2, 1), true);
        is("guarded", x.lawful(2, 3), false);
        is("without a stone", x.lawful(1, 0), false);
        is("no road", x.lawful(0, 2), false);
        is("itself", x.lawful(0, 0), false);
        refusesElement("lawful", () -> x.lawful(4, 0));
        refusesElement("lawful", () -> x.lawful(0, -1));
    }

    // ---- 10 to 15

    private static void moves() {
        VillageBoard x = told(SMALL);
        is("taking", x.move(3, 2), 1);
        is("stones", x.count(5) + " " + x.count(6), "5 0");
        is("flags", x.count(7) + " " + x.count(8), "13 0");
        is("taxes", x.side(0, 0) + " " + x.side(1, 0), "10 0");
        is("book", x.village(2, 5) + " " + x.village(2, 6) + " " + x.village(1, 5), "1 0 0");
        is("not its turn", x.move(0, 1), NONE);
        is("no stone", x.move(3, 2), NONE);
        is("itself", x.move(0, 0), NONE);
        is("refused", x.count(13), 3);
        is("nothing changes", x.count(3) + " " + x.count(9), "1 1");
        refusesElement("move", () -> x.move(0, 4));
        refusesElement("move", () -> x.move(4, 0));
        refusesElement("move", () -> x.move(-1, -1));
        is("not refused so", x.count(13), 3);
        VillageBoard y = told(SMALL);
        is("not lawful", y.move(0, 3), NONE);
        is("to a free one", y.move(0, 1), 0);
        is("where it came from the flag stays", y.village(0, 3) + " " + y.village(0, 2), "0 2");
        is("the south moves", y.move(2, 3), 1);
        is("flags", y.count(7) + " " + y.count(8), "3 12");
        is("taxes", y.side(0, 0) + " " + y.side(1, 0), "10 12");
    }

    private static void passes() {
        VillageBoard x = told(SMALL);
        is("pass", x.pass(), 1);
        is("pass", x.pass(), 2);
        is("turn", x.count(4), 0);
        is("book of both", x.village(2, 6) + " " + x.village(0, 5), "2 2");
        VillageBoard late = lateEvening(998);
        is("play to 1000", late.play(2), NONE);
        is("play to 999", late.play(1), 999);
        late.undo();
        is("a move to 999", late.move(0, 1), 0);
        is("pass to 1000", late.pass(), NONE);
        is("play to 1000", late.play(1), NONE);
        is("refused", late.count(13), 3);
        is("undo", late.undo() >= 0 && late.pass() == 999, true);
        VillageBoard last = lateEvening(999);
        is("a move to 1000", last.lawful(2, 3) + " " + last.count(4) + " " + last.move(2, 3), "true 1 -1");
        is("refused", last.count(13), 1);
        is("a fly is no evening", last.fly(0, 1), true);
        is("what lies ahead goes on", last.treasury(0, 30), 0);
        is("book", last.village(0, 5), 999);
    }

    private static void flies() {
        VillageBoard x = told(SMALL);
        is("of whose turn it isn't, far away", x.fly(2, 1), true);
        is("flags", x.village(1, 3) + " " + x.village(2, 3), "1 1");
        is("stones", x.count(5) + " " + x.count(6), "9 2");
        is("no evening", x.count(3) + " " + x.side(0, 0), "0 0");
        is("no stone", x.fly(2, 1), false);
        is("there is one", x.fly(0, 3), false);
        is("itself", x.fly(0, 0), false);
        is("without a road", x.fly(0, 2), true);
        is("its flag", x.village(2, 3) + " " + x.village(0, 3), "0 0");
        is("acts and refused", x.count(9) + " " + x.count(13), "2 3");
        refusesElement("fly", () -> x.fly(0, 4));
        refusesElement("fly", () -> x.fly(-1, 0));
    }

    private static void teaching() {
        VillageBoard x = told(SMALL);
        is("as it was", x.teach(1, NONE), 1);
        is("as it was", x.teach(1, 0), NONE);
        is("as it was", x.teach(1, 0), 0);
        is("acts", x.count(9), 3);
        is("no such style", x.teach(1, 2), -2);
        is("no such style", x.teach(1, -2), -2);
        is("as it is", x.side(1, 1), 0);
        is("refused", x.count(13), 2);
        refusesElement("teach", () -> x.teach(2, 0));
        refusesElement("ahead of the style", () -> x.teach(-1, 5));
        is("not refused so", x.count(13), 2);
        VillageBoard none = new VillageBoard();
        is("no styles at all", none.teach(0, 0) + " " + none.teach(0, NONE), "-2 -1");
    }

    private static void playing() {
        VillageBoard x = told(SMALL);
        is("0", x.play(0), NONE);
        is("31", x.play(31), NONE);
        is("below 0", x.play(-1), NONE);
        is("far above", x.play(Integer.MAX_VALUE), NONE);
        is("refused", x.count(13), 4);
        is("5", x.play(5), 5);
        is("one act", x.count(9), 1);
        // 3 takes 2, 0 goes to 3, 3 back to 0: see played().
        is("stones", x.count(5) + " " + x.count(6), "5 0");
        is("30", x.play(30), 35);
        is("undo", x.undo() + " " + x.count(3), "1 5");
        VillageBoard passing = told("north 1 0;free 1 0;road 0 1;style 0;");
        passing.play(2);
        is("0 isn't more than 0", passing.count(5), 1);
    }

    private static void undoing() {
        VillageBoard x = told(SMALL);
        is("none", x.undo(), NONE);
        is("that isn't refused", x.count(13), 0);
        x.move(3, 2);
        x.play(3);
        x.fly(3, 1);
        x.teach(0, 1);
        x.see(0, 0, 0);
        is("teach", x.undo() + " " + x.side(0, 1), "3 0");
        is("fly", x.undo() + " " + x.village(1, 3) + x.village(1, 2), "2 22");
        is("play", x.undo() + " " + x.count(3) + " " + x.side(0, 0), "1 1 10");
        is("move", x.undo() + " " + x.count(3) + " " + x.side(0, 0) + " " + x.village(2, 3)
                + x.village(2, 2) + x.village(2, 5), "0 0 0 110");
        is("what is seen stays", x.count(10), 1);
        for (int i = 0; i < 45; i++) {
            x.pass();
        }
        is("40 are kept", x.count(9), 40);
        for (int i = 39; i >= 0; i--) {
            is("undo", x.undo(), i);
        }
        is("the first ones are for good", x.undo() + " " + x.count(3), "-1 5");
        is("book", x.village(2, 6), 5);
    }

    // ---- 16 to 19

    private static void hanging() {
        VillageBoard x = told(SMALL);
        is("3 hangs on 0", x.hangs(0), 8);
        is("nothing on 3", x.hangs(3), 0);
        is("what is en prise anyway", x.hangs(2), 0);
        is("no stone", x.hangs(1), 0);
        refusesElement("hangs", () -> x.hangs(4));
        // 0 guards 1, 2 and 3, each of which has one foe at it.
        VillageBoard star = told("north 0 0;north 0 0;north 0 0;north 0 0;south 0 0;south 0 0;south 0 0;"
                + "road 0 1;road 0 2;road 0 3;road 1 4;road 2 5;road 3 6;");
        is("all hang on 0", star.hangs(0), 14);
        is("pinned", star.side(0, 3), 1);
        is("the foes are en prise, nothing hangs on them", star.hangs(4) + " " + star.side(1, 2), "0 112");
    }

    private static void looking() {
        VillageBoard x = told(SMALL);
        is("0", x.look(0, 0) + " " + x.look(0, 1), "0 -1");
        is("1", x.look(1, 0) + " " + x.look(1, 1), "10 302");
        is("2", x.look(2, 0) + " " + x.look(2, 1), "10 302");
        is("3", x.look(3, 0) + " " + x.look(3, 1), "11 302");
        x.pass();
        is("the south's", x.look(1, 0) + " " + x.look(1, 1), "1 201");
        refusesElement("look", () -> x.look(1, 2));
        refusesElement("look", () -> x.look(1, -1));
        refusesElement("ahead of how far", () -> x.look(4, 2));
        refusesArgument("look", () -> x.look(4, 0));
        refusesArgument("look", () -> x.look(-1, 1));
        VillageBoard trap = told("north 9 0;south 1 0;south 9 0;road 0 1;road 1 2;takes 1;style 1;");
        is("taken", trap.look(1, 0) + " " + trap.look(1, 1), "1 1");
        is("and taken back", trap.look(2, 0) + " " + trap.look(2, 1), "-1 1");
        VillageBoard like = told("north 0 0;free 0 0;free 0 0;road 0 2;road 0 1;");
        is("of like ones the least, a pass last", like.look(1, 1) + " " + like.look(3, 1), "1 1");
        VillageBoard still = told("north 4 0;");
        is("only a pass", still.look(2, 0) + " " + still.look(2, 1), "4 -1");
        // On evening 1 all may be taken, else nothing: the south gets 1 whether it is free or not.
        VillageBoard evening = told("north 2 0;free 1 0;south 5 0;road 0 1;road 1 2;takes evening=1;");
        is("a pass is as good, and last", evening.look(2, 0) + " " + evening.look(2, 1), "-4 1");
        // The south takes on evening 1 alone, the north on evening 2 alone.
        String beside = "north 2 0;south 5 0;road 0 1;takes ";
        is("on the next evening", told(beside + "evening=1;").look(2, 0), -7);
        is("not on that one", told(beside + "evening=2;").look(2, 0), -3);
        is("on the third one", told(beside + "evening=2;").look(3, 0), 7);
        is("not on the fourth", told(beside + "evening=3;").look(3, 0), -3);
        String away = "north 2 0;south 5 0;free 0 0;road 0 1;road 0 2;takes ";
        is("nothing there by then", told(away + "evening=1;").look(2, 0) + " " + told(away + "evening=1;").look(2, 1),
                "-7 2");
        VillageBoard behind = told("north 2 0;free 0 0;south 5 0;free 3 0;road 0 1;road 1 2;road 0 3;takes evening=1;");
        is("away", behind.look(1, 1), 3);
    }

    private static void winning() {
        is("at once", told(SMALL).win(), 1);
        is("no stones", told("north 1 0;").win(), NONE);
        is("none at all", new VillageBoard().win(), NONE);
        is("too far", told(ROW).win(), NONE);
        // The stone in 2 can't go anywhere once there is one in 1, nor take it on evening 1.
        VillageBoard caught = told("north 0 0;free 0 0;south 0 0;road 0 1;road 1 2;takes evening=2;");
        is("in three", caught.win(), 3);
        String beside = "north 0 0;south 0 0;road 0 1;takes ";
        is("by a pass first", told(beside + "evening=2;").win(), 3);
        is("four are too many", told(beside + "evening=4;").win(), NONE);
        is("not if it is taken", told(beside + "evening=1 or evening=2;").win(), NONE);
        is("wherever it goes", told("north 0 0;south 0 0;free 0 0;north 0 0;free 0 0;"
                + "road 0 1;road 1 2;road 1 4;road 3 2;road 3 4;takes evening=2;").win(), 3);
        is("unless it gets away", told("north 0 0;south 0 0;free 0 0;north 0 0;free 0 0;"
                + "road 0 1;road 1 2;road 2 3;road 1 4;takes evening=2;").win(), NONE);
        VillageBoard two = told("north 0 0;south 0 0;south 0 0;road 0 1;road 1 2;takes 1;");
        is("the second one takes back", two.win(), NONE);
        VillageBoard both = told("north 0 0;south 0 0;south 0 0;north 0 0;road 0 1;road 3 2;takes 1;");
        // 0 takes 1; then 2 takes 3, and from 1 there is no road to 3.
        is("the other one gets away", both.win(), NONE);
        VillageBoard helpless = told("north 0 0;south 0 0;south 0 0;north 0 0;road 0 1;road 3 2;takes home=0 and evening<9"
                + " and (evening=0 or evening=2);");
        is("two in three evenings", helpless.win(), 3);
        helpless.pass();
        is("the south's, never on its evenings", helpless.win(), NONE);
        VillageBoard lost = told("south 1 0;free 0 0;");
        is("without own stones", lost.win(), NONE);
    }

    private static void journeys() {
        VillageBoard x = told(ROW);
        is("along the row", x.journey(0, 3) + " " + x.journey(0, 1), "3 1");
        is("where it is", x.journey(0, 0), 0);
        is("where a stone is", x.journey(0, 4), NONE);
        is("without a road", x.journey(0, 5), NONE);
        is("the other way, not its turn", x.journey(4, 1), 3);
        is("no stone there", x.journey(1, 2) + " " + x.journey(1, 1), "-1 -1");
        VillageBoard y = told("north 0 0;north 0 0;free 0 0;road 0 1;road 1 2;");
        is("not through an own one", y.journey(0, 2), NONE);
        refusesElement("journey", () -> x.journey(0, 6));
        refusesElement("journey", () -> x.journey(-1, 0));
        StringBuilder longRow = new StringBuilder("north 0 0;" + "free 0 0;".repeat(9));
        for (int i = 0; i < 9; i++) {
            longRow.append("road ").append(i).append(' ').append(i + 1).append(';');
        }
        is("the longest one", told(longRow.toString()).journey(0, 9), 9);
    }

    // ---- 20 to 24

    private static void played() {
        VillageBoard x = told(SMALL);
        is("played", x.played(0) + " " + x.played(1) + " " + x.played(2) + " " + x.played(4), "302 -1 3 300");
        is("nothing is done", x.count(3), 0);
        refusesElement("played", () -> x.played(30));
        refusesElement("played", () -> x.played(-1));
        x.teach(0, NONE);
        is("without a style, and the south's gives no more than 0", x.played(0) + " " + x.played(1), "-1 -1");
        is("the last one", told("north 1 0;free 1 0;road 0 1;style evening=28;").played(28), 1);
        is("behind it", told("north 1 0;free 1 0;road 0 1;style evening=28;").played(29), NONE);
        VillageBoard like = told("free 1 0;north 1 0;free 1 0;north 1 0;road 3 0;road 1 2;road 1 0;style 1;");
        is("of like ones the least", like.played(0), 100);
    }

    private static void turnedAndTreasury() {
        VillageBoard x = told(SMALL);
        is("turned", x.turned(2) + " " + x.turned(3) + " " + x.turned(1), "1 -1 -1");
        is("treasuries", x.treasury(0, 0) + " " + x.treasury(0, 1) + " " + x.treasury(0, 2) + " "
                + x.treasury(1, 5), "0 10 20 0");
        refusesElement("turned", () -> x.turned(4));
        refusesElement("treasury", () -> x.treasury(2, 0));
        refusesElement("ahead of the evenings", () -> x.treasury(2, 31));
        refusesArgument("treasury", () -> x.treasury(0, 31));
        refusesArgument("treasury", () -> x.treasury(0, -1));
        VillageBoard late = told("north 1 0;free 1 0;road 0 1;style evening=28;");
        is("in 29 evenings", late.turned(1) + " " + late.treasury(0, 28) + " " + late.treasury(0, 30), "29 28 32");
        VillageBoard later = told("north 1 0;free 1 0;road 0 1;style evening=30;");
        is("not in 30", later.turned(1), NONE);
        later.pass();
        later.pass();
        is("in 29 from then on", later.turned(1), 29);
        VillageBoard last = told("south 1 0;free 1 0;road 0 1;style evening=29;");
        is("in 30", last.turned(1), 30);
    }

    private static void gifts() {
        VillageBoard x = told(SMALL);
        is("already", x.gift(3, 2), 0);
        is("a like one ahead", x.gift(0, 1), 13);
        is("may not", x.gift(0, 3), NONE);
        is("not its turn", x.gift(2, 1), NONE);
        is("itself", x.gift(0, 0), NONE);
        refusesElement("gift", () -> x.gift(0, 4));
        refusesElement("gift", () -> x.gift(-1, 0));
        x.teach(0, NONE);
        is("no style", x.gift(3, 2), NONE);
        String land = "north 0 0;free 1 0;free 4 0;free 4 0;road 0 1;road 0 2;road 0 3;";
        VillageBoard y = told(land + "style worth;");
        is("4 ahead", y.gift(0, 3), 1);
        is("of like ones the first", y.gift(0, 2), 0);
        is("behind it", y.gift(0, 1), 3);
        VillageBoard poor = told(land + "style 0-worth;");
        is("more than 0 at least", poor.gift(0, 1) + " " + poor.gift(0, 2), "2 5");
        VillageBoard dear = told(land + "style (worth=1)*9999-(worth=4)*0;");
        is("9999 more, and 1, for it is behind", dear.gift(0, 2), NONE);
        VillageBoard most = told("north 0 0;free 4 0;free 1 0;road 0 1;road 0 2;style (worth=1)*9999;");
        is("9999, for it is ahead", most.gift(0, 1), 9999);
        // For village 2 the greatest int is given, for village 1 the least one.
        VillageBoard wide = told("north 0 0;free 4 0;free 1 0;road 0 1;road 0 2;"
                + "style (8*4096*4096*16-1)*(worth=1)+8*4096*4096*16*(worth=4);");
        is("as far as can be", wide.gift(0, 1) + " " + wide.gift(0, 2), "-1 0");
    }

    private static void planting() {
        VillageBoard x = told(SMALL);
        is("of 3 moves 1", x.plant(2, 0) + " " + x.plant(2, 1) + " " + x.plant(2, 2), "1 3 1");
        is("safe", x.plant(0, 0) + " " + x.plant(0, 1) + " " + x.plant(0, 2), "0 2 1");
        is("no stone", x.plant(1, 0) + " " + x.plant(1, 2), "-1 -1");
        refusesElement("plant", () -> x.plant(0, 3));
        refusesElement("plant", () -> x.plant(0, -1));
        refusesElement("without a stone, too", () -> x.plant(1, 3));
        refusesElement("plant", () -> x.plant(4, 0));
        // Two of three: 6 by 1 in 3 is 2, which isn't more than 2.
        VillageBoard two = told("south 0 0;north 0 0;north 0 0;road 0 1;road 0 2;takes 1;");
        is("as much", two.plant(0, 0) + " " + two.plant(0, 1) + " " + two.plant(0, 2), "2 3 0");
        VillageBoard one = told("south 0 0;north 0 0;road 0 1;takes 1;");
        is("of two one: 3 are more than 2", one.plant(0, 0) + " " + one.plant(0, 1) + " " + one.plant(0, 2), "1 2 1");
        is("nobody there", told("south 0 0;").plant(0, 1), 1);
    }

    // ---- 25 to 28

    private static void seeing() {
        VillageBoard x = told(SMALL);
        is("29", x.see(29, 0, 1), 1);
        is("30", x.see(30, 0, 1), NONE);
        is("below 0", x.see(-1, 0, 1), NONE);
        is("refused", x.count(14), 2);
        refusesElement("see", () -> x.see(0, 4, 0));
        refusesElement("ahead of the evening", () -> x.see(30, 0, -1));
        is("not refused so", x.count(14), 2);
        for (int i = 2; i <= 6; i++) {
            is("see", x.see(0, 3, 3), i);
        }
        is("there are 6", x.see(0, 3, 3), NONE);
        is("counts", x.count(10) + " " + x.count(14) + " " + x.count(13), "6 3 0");
        x.forget();
        is("forgotten", x.count(10) + " " + x.count(14) + " " + x.count(9), "0 3 0");
        is("see", x.see(0, 3, 3), 1);
    }

    /** The north's stone in 0 goes to 1 by style 0, to 2 by style 1 (both then back), and stays by style 2. */
    private static final String TELLING = "north 5 0;free 1 0;free 2 0;south 5 0;free 1 0;free 2 0;"
            + "road 0 1;road 0 2;road 3 4;road 3 5;style worth=1 or worth=5;style worth=2 or worth=5;style 0;";

    private static void stylesSeen() {
        VillageBoard x = told(TELLING);
        is("all, if nothing is seen", x.styles(0) + " " + x.styles(1), "9 0");
        x.see(0, 0, 2);
        is("the north's is 1", x.styles(0) + " " + x.styles(1), "3 10");
        x.see(1, 5, 5);
        is("the south's is 2", x.styles(0) + " " + x.styles(1), "1 12");
        x.see(3, 3, 4);
        is("none", x.styles(0) + " " + x.styles(1), "0 -1");
        x.forget();
        x.pass();
        x.see(0, 3, 5);
        is("from now on: the south's is 1", x.styles(0) + " " + x.styles(1), "3 1");
        x.teach(0, NONE);
        is("whatever they have", x.styles(0), 3);
        refusesElement("styles", () -> x.styles(2));
        refusesElement("styles", () -> x.styles(-1));
        VillageBoard none = new VillageBoard();
        is("no styles", none.styles(0) + " " + none.styles(1), "0 -1");
    }

    private static void nextEvening() {
        VillageBoard x = told(TELLING);
        is("three unlike ones on the first", x.next(0) + " " + x.next(1), "0 3");
        x.see(0, 0, 2);
        is("then the south's first", x.next(0) + " " + x.next(1), "1 3");
        x.see(1, 3, 3);
        is("one couple", x.next(0) + " " + x.next(1), "0 1");
        x.see(2, 0, 1);
        is("none", x.next(0) + " " + x.next(1), "-1 0");
        refusesElement("next", () -> x.next(2));
        refusesElement("next", () -> x.next(-1));
        VillageBoard late = told("north 1 0;free 1 0;road 0 1;style evening=28;style 0;");
        is("the only one that tells", late.next(0) + " " + late.next(1), "28 2");
    }

    // ---- 29 to 31

    private static void treaties() {
        is("nobody there", new VillageBoard().treaty(), true);
        is("taking", told(SMALL).treaty(), false);
        VillageBoard still = told("north 4 0;south 4 0;road 0 1;takes 0;");
        is("neither can", still.treaty(), true);
        VillageBoard south = told("north 4 0;south 4 0;free 1 0;road 1 2;");
        is("the south would", south.treaty(), false);
        VillageBoard worthless = told("north 4 0;south 4 0;free 0 0;road 1 2;");
        is("for nothing", worthless.treaty(), true);
        // Who goes to 1 is taken there at once, and has less then.
        VillageBoard wait = told("north 4 0;free 1 0;south 4 0;road 0 1;road 1 2;");
        is("a move to the middle is answered there", wait.treaty(), true);
    }

    private static void games() {
        // Style 0 goes to the free village beside it, style 1 stays; both gain by going, and hurt nobody.
        VillageBoard x = told("north 1 0;free 5 0;south 1 0;free 5 0;road 0 1;road 2 3;style turns;style 0;");
        is("both go", x.game(0, 1, 0) + " " + x.game(0, 1, 1), "1 0");
        is("the other way round", x.game(1, 0, 0) + " " + x.game(1, 0, 1), "1 11");
        VillageBoard like = told("north 1 0;style 1;style 2;style 3;");
        is("all alike", like.game(2, 0, 0) + " " + like.game(2, 0, 1), "4 0");
        VillageBoard mixed = told("north 1 0;free 5 0;south 1 0;road 0 1;style turns;style 0;");
        is("only the north can go", mixed.game(1, 0, 0) + " " + mixed.game(1, 0, 1), "2 10");
        refusesElement("game", () -> like.game(3, 0, 0));
        refusesElement("game", () -> like.game(0, -1, 0));
        refusesElement("game", () -> like.game(0, 1, 2));
        refusesElement("ahead of both alike", () -> like.game(1, 1, 2));
        refusesElement("ahead of both alike", () -> like.game(3, 3, 0));
        refusesArgument("game", () -> like.game(1, 1, 0));
        // What each gains is told from now on: 9999 is full, so nothing is gained.
        VillageBoard full = told("north 20 0;".repeat(9) + "free 1 0;road 0 9;style turns;style 0;");
        pass(full, 60);
        is("nothing to gain", full.side(0, 0) + " " + full.game(0, 1, 0), "9999 4");
        VillageBoard some = told("north 1 0;free 5 0;road 0 1;style evening=9;style 0;");
        is("10 evenings: not the tenth of the north's", some.game(0, 1, 0), 4);
        VillageBoard tenth = told("south 1 0;free 5 0;road 0 1;style evening=9;style 0;");
        is("the tenth of the south's", tenth.game(0, 1, 0) + " " + tenth.game(0, 1, 1), "2 0");
        VillageBoard eleventh = told("north 1 0;free 5 0;road 0 1;style evening=10;style 0;");
        is("not the eleventh", eleventh.game(0, 1, 0), 4);
        VillageBoard eight = told("north 1 0;free 5 0;road 0 1;style evening=8;style 0;");
        is("but the ninth", eight.game(0, 1, 0), 2);
    }

    private static void years() {
        VillageBoard x = told(ROW + "style 1;");
        is("0 evenings", x.years(5, 0, 0) + " " + x.years(5, 0, 1) + " " + x.years(5, 0, 2), "2 0 0");
        // Seed 0 becomes 12345: bits 16 to 30 are 0, of a move and a pass the first: 0 to 1.
        is("seed 0", x.years(0, 1, 1) + " " + x.years(0, 1, 2), "3 16");
        // Seed 5 becomes 5517576225 + 12345 = 5517588570, wrapped 1222621274: by 65536 18655, odd: a pass.
        is("seed 5", x.years(5, 1, 1) + " " + x.years(5, 1, 2), "1 16");
        is("nothing is done", x.count(3), 0);
        refusesElement("years", () -> x.years(0, 0, 3));
        refusesElement("years", () -> x.years(0, 0, -1));
        refusesElement("ahead of n", () -> x.years(0, 61, 3));
        refusesArgument("years", () -> x.years(0, 61, 0));
        refusesArgument("years", () -> x.years(0, -1, 0));
        VillageBoard still = told("north 3 0;south 2 0;");
        is("60 evenings of passes", still.years(-1, 60, 1) + " " + still.years(-1, 60, 2), "180 120");
        VillageBoard take = told("north 3 0;south 2 0;road 0 1;takes 1;");
        is("taken", take.years(0, 1, 0) + " " + take.years(0, 1, 1) + " " + take.years(0, 1, 2), "1 5 0");
    }

    // ---- 32 to 36

    private static void owing() {
        VillageBoard x = told(SMALL);
        is("nothing yet", x.owes(0) + " " + x.owes(1), "0 0");
        pass(x, 2);
        is("of its own nothing", x.owes(0) + " " + x.owes(1), "0 0");
        x.move(3, 2);
        is("5 by 2 evenings of the south's", x.owes(0) + " " + x.owes(1), "10 0");
        refusesElement("owes", () -> x.owes(2));
        refusesElement("owes", () -> x.owes(-1));
    }

    private static void frontAndParts() {
        VillageBoard x = told(SMALL);
        is("one road", x.front(), 1);
        is("parts", x.parts(0) + " " + x.parts(1), "1 1");
        x.fly(2, 1);
        is("the flag stays behind", x.front() + " " + x.parts(1), "2 1");
        VillageBoard y = told(ROW);
        is("no front", y.front() + " " + y.parts(0), "0 1");
        y.fly(0, 2);
        is("two parts", y.parts(0), 2);
        y.fly(2, 5);
        is("three parts", y.parts(0), 3);
        y.fly(5, 1);
        is("joined by 1", y.parts(0) + " " + y.parts(1), "2 1");
        is("no flags", told("free 0 0;").parts(0), 0);
        refusesElement("parts", () -> y.parts(2));
        refusesElement("parts", () -> y.parts(-1));
    }

    private static void safeAndReach() {
        VillageBoard x = told(SMALL);
        is("safe", x.safe(0) + " " + x.safe(3) + " " + x.safe(2) + " " + x.safe(1), "0 4 0 0");
        is("reach", x.reach(0) + " " + x.reach(3) + " " + x.reach(2) + " " + x.reach(1), "2 0 2 0");
        VillageBoard y = told(ROW);
        is("safe on the row", y.safe(0) + " " + y.safe(4), "2 8");
        is("the row", y.reach(0) + " " + y.reach(4), "14 14");
        VillageBoard evening = told("north 0 0;free 0 0;south 0 0;road 0 1;road 1 2;takes evening=1;");
        is("the other one's next evening", evening.safe(0), 0);
        evening.pass();
        is("not on evening 2", evening.safe(0), 2);
        refusesElement("safe", () -> x.safe(4));
        refusesElement("reach", () -> x.reach(-1));
    }

    // ---- 37 to 41

    private static void guarding() {
        VillageBoard x = told(SMALL);
        is("guard", x.guard(2) + " " + x.guard(0) + " " + x.guard(1), "2 0 -1");
        refusesElement("guard", () -> x.guard(4));
        String star = "north 0 0;south 0 0;free 0 0;free 0 0;free 0 0;free 0 0;road 0 1;road 0 3;road 0 4;road 0 5;";
        is("one, the least", told(star).guard(0), 8);
        is("two", told(star + "takes guards<2;").guard(0), 24);
        is("all three", told(star + "takes not guards=3;").guard(0), 56);
        is("none", told(star + "takes guards<4;").guard(0), NONE);
        is("not so many", told(star + "takes guards=0 or guards=2;").guard(0), 8);
        VillageBoard flags = told(star);
        flags.fly(1, 2);
        is("not en prise", flags.guard(0), 0);
    }

    private static void keys() {
        VillageBoard x = told(SMALL);
        is("key", x.key(0) + " " + x.key(1), "0 -1");
        refusesElement("key", () -> x.key(2));
        refusesElement("key", () -> x.key(-1));
        // 1 hangs on 0; 3 and 4 hang on 2.
        VillageBoard most = told("north 0 0;north 0 0;north 0 0;north 0 0;north 0 0;south 0 0;south 0 0;south 0 0;"
                + "road 0 1;road 2 3;road 2 4;road 5 1;road 6 3;road 7 4;");
        is("on which most hang", most.hangs(0) + " " + most.hangs(2) + " " + most.key(0), "2 24 2");
        VillageBoard like = told("north 0 0;north 0 0;north 0 0;north 0 0;south 0 0;south 0 0;"
                + "road 0 1;road 2 3;road 4 1;road 5 3;");
        is("of like ones the least", like.key(0), 0);
    }

    private static void forks() {
        is("one isn't enough", told(SMALL).fork(), NONE);
        String land = "north 0 0;free 0 0;free 0 0;south 0 0;south 0 0;south 0 0;"
                + "road 0 2;road 0 1;road 1 3;road 1 4;road 2 3;road 2 4;";
        VillageBoard x = told(land);
        is("of like ones the least", x.fork(), 1);
        is("most", told(land + "road 2 5;").fork(), 2);
        x.pass();
        is("of whose turn it is", x.fork(), NONE);
        VillageBoard evening = told(land + "takes evening=1;");
        is("then, when the evening is one more", evening.fork(), 1);
        is("not then", told(land + "takes evening=0;").fork(), NONE);
        VillageBoard anyway = told("north 0 0;free 0 0;south 0 0;south 0 0;north 0 0;north 0 0;"
                + "road 0 1;road 4 2;road 5 3;");
        is("en prise anyway", anyway.fork(), 1);
    }

    private static void regrets() {
        VillageBoard x = told(SMALL);
        is("regret", x.regret(0, 1) + " " + x.regret(3, 2), "13 0");
        is("may not", x.regret(0, 3) + " " + x.regret(2, 1) + " " + x.regret(1, 0) + " " + x.regret(0, 0),
                "-1 -1 -1 -1");
        refusesElement("regret", () -> x.regret(0, 4));
        refusesElement("regret", () -> x.regret(-1, 0));
        // Going away from 0 lets 2 in: -1 then; by a pass it stays 4 - 4, and 2 gets nothing.
        VillageBoard home = told("north 4 0;free 0 0;south 4 0;free 1 0;road 0 1;road 0 2;road 0 3;takes 0;");
        is("the pass is best", home.look(2, 1) + " " + home.look(2, 0), "-1 0");
        is("4 lost and 4 gained by the other one", home.regret(0, 1), 8);
        is("less by 1", home.regret(0, 3), 7);
    }

    private static void whose() {
        VillageBoard x = told(SMALL);
        is("of neither", x.whose(2), 2);
        x.pass();
        is("of the south, of the north, of nobody", x.whose(2) + " " + x.whose(0) + " " + x.whose(1), "1 0 2");
        x.pass();
        x.move(3, 2);
        is("still of the south", x.whose(2), 1);
        x.pass();
        is("as many", x.whose(2), 2);
        x.pass();
        is("of the north", x.whose(2), 0);
        refusesElement("whose", () -> x.whose(4));
        refusesElement("whose", () -> x.whose(-1));
    }

    // ---- 42, 43

    private static void images() {
        VillageBoard x = told(SMALL);
        is("none", x.restore(), false);
        x.move(0, 1);
        x.teach(1, NONE);
        x.see(3, 0, 0);
        x.image();
        x.undo();
        x.undo();
        x.forget();
        x.play(7);
        x.see(30, 0, 0);
        is("restore", x.restore(), true);
        is("stones and flags", x.count(5) + " " + x.count(6) + " " + x.count(7) + " " + x.count(8), "10 4 11 4");
        is("evening, turn, acts, seen", x.count(3) + " " + x.count(4) + " " + x.count(9) + " " + x.count(10),
                "1 1 2 1");
        is("treasury, style, book", x.side(0, 0) + " " + x.side(1, 1) + " " + x.village(1, 5), "6 -1 1");
        is("status stays", x.count(14), 1);
        is("its acts can be undone", x.undo() + " " + x.undo() + " " + x.count(5), "1 0 9");
        is("and restored again", x.restore() + " " + x.count(9), "true 2");
        x.pass();
        x.image();
        x.pass();
        is("in place of another one", x.restore() + " " + x.count(3), "true 2");
        feed(x, "free 1 1;");
        is("a board", x.board(9), 0);
        is("the image is gone", x.restore(), false);
        VillageBoard empty = new VillageBoard();
        empty.image();
        empty.pass();
        is("of no villages", empty.restore() + " " + empty.count(3), "true 0");
        VillageBoard many = told(SMALL);
        pass(many, 44);
        many.image();
        pass(many, 30);
        many.restore();
        for (int i = 39; i >= 0; i--) {
            is("undo", many.undo() + " " + many.count(3), i + " " + (4 + i));
        }
    }

    private static void status() {
        VillageBoard x = told(SMALL);
        feed(x, "x");
        x.board(1);
        x.move(0, 2);
        x.fly(1, 0);
        x.teach(0, 9);
        x.play(0);
        x.see(99, 0, 0);
        is("status", x.count(12) + " " + x.count(13) + " " + x.count(14), "1 4 1");
        x.board(0);
        is("status stays", x.count(12) + " " + x.count(13) + " " + x.count(14), "1 4 1");
    }
}
