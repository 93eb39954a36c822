/** The boundaries of the tape, of a text and its faults, of expressions and values; promises 1 to 4. */
final class TextBoundaries extends Twins {
    private static final String TWO = "free 0 0;free 0 0;";
    private static final String[] VALUES = {"helps", "guards", "fort", "worth", "home", "takes", "turns", "evening"};

    /** Ints can't be told beyond 9999: this one wraps to the least of them. */
    private static final String LEAST = "8*4096*4096*16";

    private TextBoundaries() {
    }

    static void run() {
        calls();
        noVillages();
        twentyBytes();
        tapeIsFull();
        firstBytes();
        boardIsAllAnew();
        allStaysAtAFault();
        whatBoardForgets();
        tapeHasNotSoMany();
        placeOfTheFault();
        mostVillages();
        worths();
        forts();
        stonesAndFlags();
        mostRoads();
        mostStyles();
        stylesOfSides();
        oneRuleOfTaking();
        longestText();
        words();
        numbers();
        signs();
        blanks();
        notation();
        lines();
        oneLine();
        orsAndAnds();
        notsAndTests();
        sumsAndProducts();
        parts();
        fromTheLeft();
        wraps();
        divisions();
        truths();
        valuesOfBoth();
        helps();
        guards();
        fortWorthHome();
        takes();
        turns();
        evenings();
        firstFault();
        firstByte();
        leastFault();
        cannotStand();
        endsTooSoon();
        longNumbers();
        firstTokens();
        withinSixOthers();
        seventhNot();
        unknownWords();
        villagesNotToldAhead();
        badRoads();
        secondTakes();
    }

    // ---- what it is; promises 1 to 4

    private static void calls() {
        of("What it is", "An object is used for at most 512 calls after it has been made; what later calls answer is free.");
        VillageBoard x = new VillageBoard();
        for (int i = 1; i <= 511; i++) {
            is("call " + i, x.pass(), i);
        }
        is("call 512", x.count(3), 511);
        VillageBoard y = new VillageBoard();
        pass(y, 470);
        for (int i = 39; i >= 0; i--) {
            is("undo", y.undo(), i);
        }
        is("call 511", y.undo(), NONE);
        is("call 512", y.pass(), 431);
    }

    private static void noVillages() {
        promise(1, "No VILLAGES.");
        VillageBoard x = new VillageBoard();
        for (int what = 0; what <= 14; what++) {
            is("count " + what, x.count(what), 0);
        }
        for (int village = -1; village <= 10; village++) {
            int none = village;
            refusesElement("village " + none, () -> x.village(none, 0));
            refusesElement("whose " + none, () -> x.whose(none));
        }
        for (int what = 0; what <= 5; what++) {
            is("side " + what, x.side(0, what) + " " + x.side(1, what), what == 1 ? "-1 -1" : "0 0");
        }
        for (int evenings = 0; evenings <= 3; evenings++) {
            is("look " + evenings, x.look(evenings, 0) + " " + x.look(evenings, 1), "0 -1");
        }
        is("fault, win, fork", x.fault() + " " + x.win() + " " + x.fork(), "-1 -1 -1");
        is("played", x.played(0) + " " + x.played(29) + " " + x.treasury(0, 30) + " " + x.treasury(1, 0), "-1 -1 0 0");
        is("styles, next", x.styles(0) + " " + x.styles(1) + " " + x.next(0) + " " + x.next(1), "0 -1 -1 0");
        refusesElement("game", () -> x.game(0, 1, 0));
        is("treaty, front", x.treaty() + " " + x.front(), "true 0");
        is("years", x.years(7, 60, 0) + " " + x.years(7, 60, 1) + " " + x.years(7, 60, 2), "0 0 0");
        is("owes, parts, key", x.owes(0) + " " + x.parts(1) + " " + x.key(0), "0 0 -1");
        is("undo, restore", x.undo() + " " + x.restore(), "-1 false");
        is("acts", x.teach(0, NONE) + " " + x.play(30) + " " + x.pass() + " " + x.count(9), "-1 30 31 3");
        VillageBoard undone = new VillageBoard();
        is("undone", undone.pass() + " " + undone.undo() + " " + undone.count(3), "1 0 0");
        is("as a board of no lines", whole(new VillageBoard()), whole(told("")));
    }

    private static void twentyBytes() {
        promise(2, "Twenty bytes come behind the tape, of each number the highest first: how many it has");
        String text = "free 1 2;road 0 0;xy";
        for (int place = 0; place < 20; place++) {
            // A byte that is no token, with its highest bit set: the fault tells where it came.
            StringBuilder at = new StringBuilder(" ".repeat(20));
            at.setCharAt(place, (char) 255);
            VillageBoard x = new VillageBoard();
            feed(x, at.toString());
            is("byte " + place, x.count(11) + " " + x.board(20) + " " + x.fault(), "20 1 " + place);
            VillageBoard y = new VillageBoard();
            feed(y, " ".repeat(20) + at);
            is("byte " + (20 + place), y.count(11) + " " + y.board(40) + " " + y.fault(), "40 1 " + (20 + place));
        }
        VillageBoard z = new VillageBoard();
        is("20", z.feed(0x66726565, 0x20312032, 0x3b667265, 0x65203320, 0x343b2020), 20);
        is("40", z.feed(0x20202020, 0x736f7574, 0x68203520, 0x363b2020, 0x20202020), 40);
        is("all of them", z.board(40) + " " + z.count(0), "0 3");
        is("in their order", z.village(0, 0) + " " + z.village(0, 1) + " " + z.village(1, 0) + " " + z.village(1, 1)
                + " " + z.village(2, 0) + " " + z.village(2, 1) + " " + z.village(2, 2), "1 2 3 4 5 6 1");
        fault(text, 4, 16);
    }

    private static void tapeIsFull() {
        promise(2, "NONE, and none come, if it would have more than 700.");
        VillageBoard x = new VillageBoard();
        for (int i = 1; i <= 34; i++) {
            is("below 700", x.feed(0x20202020, 0x20202020, 0x20202020, 0x20202020, 0x20202020), 20 * i);
        }
        is("680 and 20", x.feed(0x20202020, 0x20202020, 0x20202020, 0x20202020, 0x2020203f), 700);
        is("700 and 20", x.feed(-1, -1, -1, -1, -1), NONE);
        is("and again", x.feed(-1, -1, -1, -1, -1), NONE);
        is("none come", x.count(11), 700);
        is("refused of nothing", x.count(12) + " " + x.count(13) + " " + x.count(14), "0 0 0");
        is("the last byte is the 700th", x.board(700) + " " + x.fault(), "1 699");
        is("feed anew", x.feed(0, 0, 0, 0, 0) + " " + x.count(11), "20 20");
        refuses("a full tape", TextBoundaries::livelyWithAFullTape, y -> y.feed(0, 0, 0, 0, 0), NONE, NONE);
    }

    private static VillageBoard livelyWithAFullTape() {
        VillageBoard x = lively();
        feed(x, " ".repeat(700 - x.count(11)));
        is("bytes", x.count(11), 700);
        return x;
    }

    private static void firstBytes() {
        promise(3, "The tape's first n bytes (it is empty then) are a BOARD");
        String text = "free 1 2;free 3 4;";
        for (int n = 0; n <= 20; n++) {
            // Two whole lines, one, or none; and between them a text that ends too soon.
            boolean whole = n == 0 || n == 9 || n >= 18;
            VillageBoard x = new VillageBoard();
            feed(x, text);
            is("first " + n, x.board(n), whole ? 0 : 1);
            is("villages of " + n, x.count(0), !whole || n == 0 ? 0 : n == 9 ? 1 : 2);
            is("it is empty then", x.count(11), 0);
            refusesArgument("none are left", () -> x.board(1));
            is("an empty one", x.board(0), 0);
        }
    }

    private static void boardIsAllAnew() {
        promise(3, ", all anew: 0");
        VillageBoard x = lively();
        x.board(0);
        feed(x, SMALL);
        is("again", x.board(SMALL.length()), 0);
        is("as a new one", whole(x), whole(told(SMALL)));
        String[] texts = {PlayBoundaries.FULL, "", "south 4 0;", SMALL, "takes 1;" + SMALL};
        for (String first : texts) {
            for (String second : texts) {
                for (String third : texts) {
                    VillageBoard y = told(first);
                    passTo(y, 31);
                    feed(y, second);
                    y.board(second.length());
                    feed(y, third);
                    is("the third one", y.board(third.length()), 0);
                    is("as a new one", whole(y), whole(told(third)));
                }
            }
        }
        String longOne = "north 0 0;south 0 0;road 0 1;takes  330=1" + "+1".repeat(329) + ";";
        VillageBoard z = new VillageBoard();
        for (int i = 0; i < 12; i++) {
            feed(z, longOne);
            is("as long as can be, and again", z.board(700) + " " + z.lawful(0, 1), "0 true");
        }
    }

    private static void allStaysAtAFault() {
        promise(3, ", or the FAULT (all stays).");
        VillageBoard x = lively();
        VillageBoard twin = lively();
        is("a fault", x.board(27), 4);
        is("its place", x.fault() + " " + twin.fault(), "25 16");
        is("one more refused", x.count(12) + " " + twin.count(12), "2 1");
        is("the tape is empty", x.count(11), 0);
        feed(x, "free 7 2;free 0 0;road 0 0;");
        // What a text tells is wholly read before any of it counts: the villages of this one don't.
        is("all else", whole(x).replace("fault 25", "fault 16"), whole(twin));
        String[] texts = {"north 9 9;?", "north 9 9;free 21 0;", "north 9 9;takes x;", "free 0 0;road 0 0;",
            "takes 1;style 1;takes 1;", "style 1;".repeat(4), "north 9 9;".repeat(11), roads(19)};
        int[] codes = {1, 2, 3, 4, 5, 2, 2, 2};
        for (int i = 0; i < texts.length; i++) {
            VillageBoard y = told(LIVELY);
            y.move(0, 1);
            feed(y, texts[i]);
            is("fault of " + texts[i], y.board(texts[i].length()), codes[i]);
            String place = "fault " + y.fault() + " ";
            VillageBoard like = told(LIVELY);
            like.move(0, 1);
            is("all else, of " + texts[i], whole(y).replace(place, "fault -1 "), whole(like));
        }
    }

    private static void whatBoardForgets() {
        promise(3, "ACTS, what is SEEN, the image are gone (STATUS stays).");
        VillageBoard x = lively();
        is("before", x.count(9) + " " + x.count(10) + " " + x.count(12) + " " + x.count(13) + " " + x.count(14),
                "5 2 1 1 1");
        is("an empty board", x.board(0), 0);
        is("acts, seen", x.count(9) + " " + x.count(10) + " " + x.undo(), "0 0 -1");
        is("the image", x.restore(), false);
        is("status", x.count(12) + " " + x.count(13) + " " + x.count(14), "1 1 1");
    }

    private static void tapeHasNotSoMany() {
        promise(3, "IllegalArgumentException: the tape has not so many, n below 0 (nothing changes).");
        for (int n : new int[] {-1, 41, 60, 700, 701, Integer.MIN_VALUE, Integer.MAX_VALUE}) {
            leavesAll("board " + n, Twins::lively, x -> x.board(n), IllegalArgumentException.class);
        }
        VillageBoard empty = new VillageBoard();
        refusesArgument("1 of an empty tape", () -> empty.board(1));
        is("0 of an empty tape", empty.board(0), 0);
        VillageBoard all = new VillageBoard();
        feed(all, "free 1 2;");
        refusesArgument("21 of 20", () -> all.board(21));
        is("20 of 20", all.board(20) + " " + all.count(0), "0 1");
        VillageBoard full = new VillageBoard();
        feed(full, " ".repeat(700));
        refusesArgument("701 of 700", () -> full.board(701));
        is("700 of 700", full.board(700), 0);
    }

    private static void placeOfTheFault() {
        promise(4, "The place of the latest board()'s FAULT; NONE without.");
        VillageBoard x = new VillageBoard();
        is("no board yet", x.fault(), NONE);
        feed(x, "?");
        x.board(1);
        is("the first place", x.fault(), 0);
        feed(x, " ".repeat(699) + "?");
        x.board(699);
        is("no fault", x.fault(), NONE);
        feed(x, " ".repeat(699) + "?");
        x.board(700);
        is("the last place", x.fault(), 699);
        refusesArgument("no board at all", () -> x.board(1));
        is("it stays", x.fault(), 699);
        feed(x, " ".repeat(696) + "free");
        x.board(700);
        is("the longest text's length", x.fault(), 700);
        feed(x, "free 1 1;");
        x.board(4);
        is("the text's length, not the tape's", x.fault(), 4);
        x.board(0);
        is("a board without", x.fault(), NONE);
    }

    // ---- how much there may be

    private static void mostVillages() {
        terms("VILLAGES 0, 1 .. (at most 10)");
        for (int n = 0; n <= 10; n++) {
            int many = n;
            VillageBoard x = told("free 0 0;".repeat(n));
            is("villages", x.count(0), n);
            for (int v = 0; v < n; v++) {
                is("village " + v + " of " + n, x.village(v, 2), 2);
            }
            refusesElement("one more", () -> x.village(many, 2));
            refusesElement("one below", () -> x.village(-1, 2));
        }
        fault("free 0 0;".repeat(11), 2, 90);
    }

    private static void worths() {
        terms("WORTH (0 to 20)");
        for (int worth = 0; worth <= 20; worth++) {
            is("worth", told("free " + worth + " 0;").village(0, 0), worth);
        }
        fault("free 21 0;", 2, 5);
        fault("north 21 0;", 2, 6);
        fault("south 9999 0;", 2, 6);
        fault("free 0021 0;", 2, 5);
        fault("free -1 0;", 1, 5);
    }

    private static void forts() {
        terms("FORT (0 to 9)");
        for (int fort = 0; fort <= 9; fort++) {
            is("fort", told("free 0 " + fort + ";").village(0, 1), fort);
        }
        fault("free 0 10;", 2, 7);
        fault("north 0 0010;", 2, 8);
        fault("south 20 9999;", 2, 9);
        fault("free 0 -1;", 1, 7);
    }

    private static void stonesAndFlags() {
        terms("a STONE (0 of the north's, 1 of the south's, 2 none), a FLAG (0, 1, 2 of nobody): that of its STONE at first.");
        VillageBoard x = told("north 0 0;south 0 0;free 0 0;");
        for (int v = 0; v < 3; v++) {
            is("stone and flag of " + v, x.village(v, 2) + " " + x.village(v, 3), v + " " + v);
        }
    }

    /** Seven villages have 21 couples: so many of them as roads. */
    private static String roads(int many) {
        StringBuilder text = new StringBuilder("free 0 0;".repeat(7));
        int left = many;
        for (int a = 0; a < 7; a++) {
            for (int b = a + 1; b < 7 && left > 0; b++, left--) {
                text.append("road ").append(a).append(' ').append(b).append(';');
            }
        }
        return text.toString();
    }

    private static void mostRoads() {
        terms("ROADS (at most 18): two VILLAGES.");
        for (int many : new int[] {0, 1, 17, 18}) {
            is("roads", told(roads(many)).count(1), many);
        }
        fault(roads(19), 2, roads(18).length());
        VillageBoard x = told(roads(18));
        // The 18th is from 3 to 6; then come 4 and 5, 4 and 6, 5 and 6.
        is("the last one, the next ones", x.road(3, 6) + " " + x.road(4, 5) + " " + x.road(5, 6), "true false false");
    }

    private static void mostStyles() {
        terms("STYLES 0, 1 .. (at most 3): rules");
        for (int many = 0; many <= 3; many++) {
            VillageBoard x = told("style 1;".repeat(many));
            is("styles", x.count(2), many);
            is("the last one, the next one", x.teach(0, many - 1) + " " + x.teach(0, many),
                    (many == 0 ? NONE : 0) + " -2");
        }
        fault("style 1;".repeat(4), 2, 24);
    }

    private static void stylesOfSides() {
        terms("a SIDE (0 north, 1 south) has one of them, or none.");
        VillageBoard x = told("style 1;".repeat(3));
        for (int side = 0; side < 2; side++) {
            for (int style = NONE; style < 3; style++) {
                x.teach(side, style);
                is("style", x.side(side, 1), style);
            }
        }
    }

    private static void oneRuleOfTaking() {
        terms("TAKES: a rule.");
        String land = "north 0 0;south 0 9;road 0 1;";
        is("without one", told(land).lawful(0, 1), false);
        is("with one", told(land + "takes 1;").lawful(0, 1), true);
        is("ahead of all", told("takes 1;" + land).lawful(0, 1), true);
        fault(land + "takes 1;takes 1;", 5, 37);
    }

    private static void longestText() {
        terms("A TEXT of at most 700 bytes tells it.");
        String start = "north 0 0;south 0 0;road 0 1;takes  330=1";
        String text = start + "+1".repeat(329) + ";";
        is("its length", text.length(), 700);
        is("330 ones", told(text).lawful(0, 1), true);
        is("not 331", told(text.replace("330", "331")).lawful(0, 1), false);
        fault(text.substring(0, 699), 1, 699);
        fault(text.substring(0, 699) + "+", 1, 700);
        fault(text.substring(0, 699) + "?", 1, 699);
        fault(text.substring(0, 698) + ";;", 1, 698);
        VillageBoard x = new VillageBoard();
        feed(x, text + ";");
        is("nothing beyond", x.count(11) + " " + x.board(700), "700 0");
    }

    // ---- tokens

    private static void words() {
        terms("TOKENS: words (a .. z, the longest row)");
        for (char c = 0; c < 256; c++) {
            String text = "takes " + c + ";";
            if (c >= 'a' && c <= 'z') {
                fault(text, 3, 6);
                fault("takes fort" + c + ";", 3, 6);
                fault("takes " + c + "fort;", 3, 6);
                fault("free" + c + " 0 0;", 1, 0);
            } else if (c >= '0' && c <= '9') {
                fault(text, 0, NONE);
            } else {
                fault(text, 1, c == '(' || c == ' ' || c == '\n' ? 7 : 6);
            }
        }
        fault("takes notnot 1;", 3, 6);
        fault("takes 1 oror 1;", 1, 8);
        fault("no rth 0 0;", 1, 0);
        fault("takes wor th;", 3, 6);
        fault("TAKES 1;", 1, 0);
        fault("takes Fort;", 1, 6);
        fault("takes foRt;", 3, 6);
        fault("takes z" + "a".repeat(692) + ";", 3, 6);
    }

    private static void numbers() {
        terms("NUMBERS (1 to 4 digits)");
        for (char c = '0'; c <= '9'; c++) {
            gives("" + c, c - '0');
            gives(c + "0" + c, 101 * (c - '0'));
        }
        gives("0000", 0);
        gives("0012", 12);
        gives("9999", 9999);
        gives("9998+1", 9999);
        fault("takes 00000;", 2, 6);
        fault("takes 10000;", 2, 6);
        fault("takes 1 2;", 1, 8);
        fault("takes 1:;", 1, 7);
        fault("free 0019 0009;", 0, NONE);
        fault("free 00019 0;", 2, 5);
        fault(TWO + "road 0000 0001;", 0, NONE);
        fault("takes " + "1".repeat(693) + ";", 2, 6);
    }

    private static void signs() {
        terms("signs ; ( ) + - * / < = ;");
        for (char c = 0; c < 256; c++) {
            String joined = "takes 1" + c + "1;";
            if ("+-*/<=".indexOf(c) >= 0 || c >= '0' && c <= '9') {
                fault(joined, 0, NONE);
            } else {
                fault(joined, 1, c == ';' || c == ' ' || c == '\n' ? 8 : 7);
            }
            String behind = "free 0 1" + c + ";";
            if (c == ' ' || c == '\n') {
                fault(behind, 0, NONE);
            } else if (c >= '0' && c <= '9') {
                fault(behind, 2, 7);
            } else {
                fault(behind, 1, c == ';' ? 9 : 8);
            }
        }
        fault("takes (1)+1;", 0, NONE);
        fault("takes 1<=2;", 1, 8);
    }

    private static void blanks() {
        terms("blanks (32, 10) between them count for nothing.");
        fault(" ", 0, NONE);
        fault("\n", 0, NONE);
        fault(" ".repeat(700), 0, NONE);
        fault("\n".repeat(700), 0, NONE);
        fault(" ".repeat(350) + "free 0 0;" + "\n".repeat(341), 0, NONE);
        fault("\n free \n 20\n\n9 ; \n", 0, NONE);
        fault("free20 9;road 0 0;", 4, 16);
        fault("takes1;style not1;", 0, NONE);
        fault("takes 1or 0and 1;", 0, NONE);
        fault("takes ( 1 + 2 ) ;", 0, NONE);
        fault("free 0 0 ;", 0, NONE);
        fault("free 0" + (char) 9 + "0;", 1, 6);
        fault("free 0" + (char) 11 + "0;", 1, 6);
        fault("free 0" + (char) 13 + "0;", 1, 6);
        fault("free 0" + (char) 31 + "0;", 1, 6);
        fault("free 0" + (char) 33 + "0;", 1, 6);
        fault("free 0" + (char) 0 + "0;", 1, 6);
        fault("free 0" + (char) 160 + "0;", 1, 6);
    }

    // ---- what a text is made of

    private static void notation() {
        terms("In quotes is what stands there, [ ] perhaps, * any number of times, | one of some.");
        gives("1", 1);
        gives("1<2", 1);
        fault("takes 1<2<3;", 1, 9);
        gives("0 or 0", 0);
        gives("0" + " or 0".repeat(120) + " or 1", 1);
        fault("north south 0 0;", 1, 6);
    }

    private static void lines() {
        terms("BOARD: LINE*.");
        is("none", told("").count(0), 0);
        is("one", told("free 0 0;").count(0), 1);
        VillageBoard x = told("style 1;free 3 0;south 4 0;takes 1;road 1 0;style 0;free 5 0;road 2 0;style 2;");
        is("in any order", x.count(0) + " " + x.count(1) + " " + x.count(2), "3 2 3");
        fault(";", 1, 0);
        fault("free 0 0;;", 1, 9);
        fault("free 0 0;x", 1, 9);
    }

    private static void oneLine() {
        terms("LINE: (('north' | 'south' | 'free') WORTH FORT | 'road' VILLAGE VILLAGE | 'takes' EXPR | 'style' EXPR) ';',"
                + " all in capitals but EXPR being NUMBERS ('north' a VILLAGE with the north's STONE).");
        for (String kind : new String[] {"north", "south", "free"}) {
            int n = kind.length();
            fault(kind + " 0 0;", 0, NONE);
            fault(kind + ";", 1, n);
            fault(kind + " 0;", 1, n + 2);
            fault(kind + " 0 0 0;", 1, n + 5);
            fault(kind + " 0 0 " + kind + ";", 1, n + 5);
            fault(kind + " fort 0;", 1, n + 1);
            fault(kind + " (0) 0;", 1, n + 1);
            fault(kind + " 0 (0);", 1, n + 3);
        }
        fault(TWO + "road 0 1;", 0, NONE);
        fault(TWO + "road;", 1, 22);
        fault(TWO + "road 0;", 1, 24);
        fault(TWO + "road 0 1 1;", 1, 27);
        fault(TWO + "road (0) 1;", 1, 23);
        fault(TWO + "road 0 free;", 1, 25);
        for (String kind : new String[] {"takes", "style"}) {
            fault(kind + " 1;", 0, NONE);
            fault(kind + ";", 1, 5);
            fault(kind + " 1 1;", 1, 8);
            fault(kind + " 1 style 1;", 1, 8);
        }
        for (String word : new String[] {"helps", "fort", "worth", "home", "turns", "evening", "or", "and", "not", "x"}) {
            fault(word + " 0 0;", 1, 0);
        }
        for (String sign : new String[] {"(", ")", "+", "-", "*", "/", "<", "=", "0", "12345", "?"}) {
            fault(sign + " 0 0;", 1, 0);
        }
        VillageBoard x = told("north 1 2;south 3 4;free 5 6;");
        is("whose stones", x.count(5) + " " + x.count(6), "1 2");
    }

    private static void orsAndAnds() {
        terms("EXPR: AND ('or' AND)*. AND: NOT ('and' NOT)*.");
        for (int bits = 0; bits < 8; bits++) {
            int a = bits >> 2;
            int b = bits >> 1 & 1;
            int c = bits & 1;
            gives(a + " or " + b + " or " + c, a | b | c);
            gives(a + " and " + b + " and " + c, a & b & c);
            gives(a + " or " + b + " and " + c, a | b & c);
            gives(a + " and " + b + " or " + c, a & b | c);
            gives("(" + a + " or " + b + ") and " + c, (a | b) & c);
        }
        gives("1" + " and 1".repeat(100), 1);
        gives("1" + " and 1".repeat(100) + " and 0", 0);
        fault("takes 1 or;", 1, 10);
        fault("takes 1 and;", 1, 11);
    }

    private static void notsAndTests() {
        terms("NOT: 'not' NOT | SUM [('<' | '=') SUM].");
        gives("1<2", 1);
        gives("2<2", 0);
        gives("3<2", 0);
        gives("1=2", 0);
        gives("2=2", 1);
        gives("3=2", 0);
        gives("1+1<1*3", 1);
        gives("not 2<1", 1);
        gives("not 0=0", 0);
        gives("not 0 and 0", 0);
        gives("not 1 or 1", 1);
        fault("takes 1<2=3;", 1, 9);
        fault("takes 1=2=3;", 1, 9);
        fault("takes 1<not 2;", 3, 8);
        gives("(1<2)<3", 1);
        fault("takes not;", 1, 9);
    }

    private static void sumsAndProducts() {
        terms("SUM: PRODUCT (('+' | '-') PRODUCT)*. PRODUCT: PART (('*' | '/') PART)*.");
        gives("7", 7);
        gives("7+2", 9);
        gives("7-2", 5);
        gives("7*2", 14);
        gives("7/2", 3);
        gives("1+2*3", 7);
        gives("8-6/2", 5);
        gives("(1+2)*3", 9);
        gives("0" + "+1".repeat(150), 150);
        gives("1" + "*1".repeat(150), 1);
        for (String sign : new String[] {"+", "-", "*", "/"}) {
            fault("takes " + sign + "1;", 1, 6);
            fault("takes 1" + sign + ";", 1, 8);
            fault("takes 1" + sign + sign + "1;", 1, 8);
        }
    }

    private static void parts() {
        terms("PART: NUMBER | VALUE | '(' EXPR ')'.");
        for (String value : VALUES) {
            fault("takes " + value + ";", 0, NONE);
            fault("style (" + value + ")*" + value + ";", 0, NONE);
        }
        gives("(1 or 0)", 1);
        fault("takes ();", 1, 7);
        fault("takes (1;", 1, 8);
        fault("takes 1);", 1, 7);
        fault("takes (1));", 1, 9);
        fault("takes )1(;", 1, 6);
        fault("takes (1)(1);", 1, 9);
        fault("takes 2(1);", 1, 7);
        // As much as can wait: in each of six expressions an or, an and, a test, a sum, a product.
        String waiting = "0 or 1 and 0<1+1*(";
        String last = "0 or 1 and 0<1+1*2";
        gives(waiting.repeat(4) + last + ")".repeat(4), 1);
        gives("0 or 0 and 0<1+1*(".repeat(4) + last + ")".repeat(4), 0);
        takesGives(waiting.repeat(5) + last + ")".repeat(5), true);
        takesGives("0 or 1 and 2<1+1*(".repeat(5) + last + ")".repeat(5), false);
    }

    private static void fromTheLeft() {
        terms("From the left");
        gives("7-2-1", 4);
        gives("7-2+1", 6);
        gives("20/3/2", 3);
        gives("12/3*2", 8);
        gives("2*7/4", 3);
        gives("1/2*2", 0);
    }

    private static void wraps() {
        terms("ints that wrap");
        takesGives(LEAST, false);
        takesGives(LEAST + "-1", true);
        takesGives("(" + LEAST + "-1)+1=" + LEAST, true);
        takesGives("(" + LEAST + "-1)*2+2=0", true);
        takesGives("0-" + LEAST + "=" + LEAST, true);
        takesGives(LEAST + "*2=0", true);
        takesGives(LEAST + "<0", true);
        takesGives("0<" + LEAST + "-1", true);
        // 9999 * 9999 is 99980001: by 21 it is below 2147483648, by 22 above.
        takesGives("9999*9999*21", true);
        takesGives("9999*9999*22", false);
    }

    private static void divisions() {
        terms("/ cut down to 0, by 0 gives 0");
        gives("7/7", 1);
        gives("6/7", 0);
        gives("8/7", 1);
        gives("(0-7)/7+1", 0);
        gives("(0-6)/7", 0);
        gives("(0-8)/7+1", 0);
        gives("(0-13)/7+1", 0);
        gives("13/(0-7)+1", 0);
        gives("(0-14)/(0-7)", 2);
        gives("7/1", 7);
        gives("7/0", 0);
        gives("7/0+1", 1);
        gives("0/0", 0);
        gives("(0-7)/0", 0);
        takesGives(LEAST + "/(0-1)=" + LEAST, true);
        takesGives(LEAST + "/1=" + LEAST, true);
        gives("worth/helps", 0);
    }

    private static void truths() {
        terms("tests, not, and, or are 1 or 0 (what isn't 0 holds).");
        gives("(1<2)+(2<2)+(2=2)", 2);
        gives("not 0", 1);
        gives("not 1", 0);
        gives("not 2", 0);
        gives("not (0-1)", 0);
        gives("not not 7", 1);
        gives("2 and 1", 1);
        gives("(0-1) and 9999", 1);
        gives("5 and 0", 0);
        gives("2 or 5", 1);
        gives("0 or (0-1)", 1);
        gives("0 or 0", 0);
        takesGives(LEAST + " and 1", true);
        takesGives("not " + LEAST, false);
        is("whatever the values are", told(star(1, 2, "south 3 4;") + "takes not 0 and not not 5;").lawful(1, 0), true);
    }

    // ---- values of a move

    private static void valuesOfBoth() {
        terms("VALUES of a MOVE from one VILLAGE to another one, both of TAKES and of STYLES");
        // 0 takes 1: 2 helps, 3 guards.
        String land = "north 7 1;south 5 3;north 2 0;south 4 0;road 0 1;road 2 1;road 3 1;";
        String all = "helps=1 and guards=1 and fort=3 and worth=5 and home=7 and takes=1 and turns=1 and evening=0";
        VillageBoard takes = told(land + "takes " + all + ";style 1;");
        is("of takes", takes.lawful(0, 1) + " " + takes.lawful(2, 1) + " " + takes.lawful(3, 1), "true false false");
        VillageBoard style = told(land + "takes 1;style " + all + ";");
        is("of styles", style.played(0) + " " + style.gift(0, 1) + " " + style.gift(2, 1), "1 0 2");
    }

    /** Village 0 with a stone of the south's, 1 of the north's that goes there, others of both beside 0. */
    private static String star(int north, int south, String target) {
        StringBuilder text = new StringBuilder(target + "north 0 0;road 0 1;");
        for (int v = 2; v < 2 + north + south; v++) {
            text.append(v < 2 + north ? "north 0 0;" : "south 0 0;").append("road 0 ").append(v).append(';');
        }
        return text.toString();
    }

    private static void helps() {
        terms("'helps' (how many other STONES of the same SIDE have a ROAD to where it goes)");
        for (int many = 0; many <= 8; many++) {
            is("so many", told(star(many, 0, "south 0 0;") + "takes helps=" + many + ";").lawful(1, 0), true);
            is("one more", told(star(many, 0, "south 0 0;") + "takes helps=" + (many + 1) + ";").lawful(1, 0), false);
            is("to a free one", told(star(many, 0, "free 0 0;") + "style helps=" + many + ";").played(0), 100);
        }
        is("neither the other side's", told(star(0, 8, "south 0 0;") + "takes helps=0;").lawful(1, 0), true);
        is("nor those elsewhere", told("south 0 0;north 0 0;north 0 0;north 0 0;road 0 1;road 1 2;takes helps=0;")
                .lawful(1, 0), true);
        is("the south's", told("north 0 0;south 0 0;south 0 0;road 0 1;road 0 2;takes helps=1;").lawful(1, 0), true);
    }

    private static void guards() {
        terms("'guards' (how many of the other SIDE have one to it)");
        for (int many = 0; many <= 8; many++) {
            is("so many", told(star(0, many, "south 0 0;") + "takes guards=" + many + ";").lawful(1, 0), true);
            is("one more", told(star(0, many, "south 0 0;") + "takes guards=" + (many + 1) + ";").lawful(1, 0), false);
            is("to a free one", told(star(0, many, "free 0 0;") + "style guards=" + many + ";").played(0), 100);
        }
        is("neither its own", told(star(8, 0, "south 0 0;") + "takes guards=0;").lawful(1, 0), true);
        is("nor those elsewhere", told("south 0 0;north 0 0;south 0 0;south 0 0;road 0 1;road 1 2;takes guards=0;")
                .lawful(1, 0), true);
    }

    private static void fortWorthHome() {
        terms("'fort', 'worth' (both of where it goes), 'home' (WORTH of where it comes from)");
        for (int[] n : new int[][] {{0, 0, 0}, {9, 20, 0}, {0, 20, 20}, {9, 0, 20}, {1, 19, 7}}) {
            String land = "north " + n[2] + " 5;south " + n[1] + " " + n[0] + ";road 0 1;takes fort=" + n[0]
                    + " and worth=" + n[1] + " and home=" + n[2] + ";";
            is("all three", told(land).lawful(0, 1), true);
        }
        is("the other way", told("north 7 5;south 6 4;road 0 1;takes fort=5 and worth=7 and home=6;").lawful(1, 0), true);
    }

    private static void takes() {
        terms("'takes' (1, if there is a STONE of the other SIDE where it goes, else 0)");
        VillageBoard x = told("north 0 0;south 0 0;free 0 0;road 0 1;road 0 2;takes takes=1;style 5-takes*3;");
        is("a stone", x.lawful(0, 1), true);
        is("2 and 5", x.gift(0, 1) + " " + x.gift(0, 2), "3 0");
    }

    private static void turns() {
        terms("'turns' (1, if the FLAG there isn't its own, else 0)");
        String land = "north 0 0;free 0 0;free 0 0;free 0 0;south 0 0;road 0 1;road 0 2;road 0 3;road 0 4;";
        VillageBoard x = told(land + "takes turns=1;style turns*2;");
        x.fly(0, 1);
        x.fly(1, 0);
        x.fly(4, 2);
        x.fly(2, 4);
        is("its own, the other's, nobody's, a stone's", x.gift(0, 1) + " " + x.gift(0, 2) + " " + x.gift(0, 3) + " "
                + x.gift(0, 4), "2 0 1 1");
        VillageBoard y = told("south 0 0;free 0 0;road 0 1;style turns;");
        y.pass();
        is("nobody's is not the south's", y.played(0), 1);
        y.fly(0, 1);
        is("its own flag stays at home", y.played(0), NONE);
    }

    private static void evenings() {
        terms("'evening'.");
        VillageBoard x = told("north 0 0;south 0 0;road 0 1;takes evening=0 or evening=1 or evening=999;style 0;");
        is("0", x.lawful(0, 1), true);
        x.pass();
        is("1", x.lawful(0, 1), true);
        x.pass();
        is("2", x.lawful(0, 1), false);
        passTo(x, 998);
        is("998", x.lawful(1, 0), false);
        x.pass();
        is("999", x.lawful(1, 0) + " " + x.count(3), "true 999");
    }

    // ---- faults

    private static void firstFault() {
        terms("FAULTS, the first along the text");
        fault("takes 12345;free 0 x;", 2, 6);
        fault("takes 1;takes 1;?", 5, 8);
        fault(TWO + "road 1 1;;", 4, 25);
        fault("takes x;;", 3, 6);
        fault("free 21 x;", 2, 5);
        fault("free x 21;", 1, 5);
        fault(TWO + "road 2 x;", 3, 23);
        fault("takes x+12345;", 3, 6);
    }

    private static void firstByte() {
        terms("at a TOKEN's first byte");
        fault("   takes   12345;", 2, 11);
        fault("takes helpless;", 3, 6);
        fault("free 9999 0;", 2, 5);
        fault("freedom 0 0;", 1, 0);
        fault("\n\nroad 0 0;", 3, 7);
    }

    private static void leastFault() {
        terms("of one TOKEN the least");
        // 1 and 2: a number of five digits where none may stand.
        fault("12345;", 1, 0);
        fault("takes 1 12345;", 1, 8);
        fault("free 0 0 12345;", 1, 9);
        fault("free 0 0;".repeat(10) + "x", 1, 90);
        // 2 and 3: a village of five digits, a word within six others that is no value.
        fault(TWO + "road 12345 0;", 2, 23);
        fault(TWO + "road 0 12345;", 2, 25);
        fault("takes ((((((sun;", 2, 12);
        fault("takes ((((((or;", 2, 12);
        // 1 and 2: a sign within six others that begins no expression.
        fault("takes ((((((+;", 1, 12);
        fault("takes (((((();", 1, 12);
        fault("takes ((((((;", 1, 12);
        fault("takes ((((((?;", 1, 12);
        // 3, and 4 if it were told.
        fault(TWO + "road 2 2;", 3, 23);
    }

    private static void cannotStand() {
        terms("1 a TOKEN that can't stand there, or is none");
        fault("stone 0 0;", 1, 0);
        fault("free 0 0", 1, 8);
        fault("free 0 0?;", 1, 8);
        fault("free ? 0;", 1, 5);
        fault("takes 1 fort;", 1, 8);
        fault("takes 1 not 1;", 1, 8);
        fault("takes (1 1);", 1, 9);
        fault("takes 1 " + (char) 128 + ";", 1, 8);
        fault("takes " + (char) 225 + ";", 1, 6);
        fault("" + (char) 0, 1, 0);
    }

    private static void endsTooSoon() {
        terms("(the text's length where it ends too soon)");
        String[] lines = {"north 20 9;", "takes (not 1<fort+2*3 or 4=5 and 6);", "style 1;"};
        for (String line : lines) {
            for (int n = 1; n < line.length(); n++) {
                String cut = line.substring(0, n);
                // In the midst of a word another fault comes first.
                if (cut.matches("(.*[^a-z])?(north|takes|not|fort|or|and|style)|.*[^a-z]")) {
                    fault(cut, 1, n);
                    fault(cut + " ", 1, n + 1);
                    fault(cut + "\n \n", 1, n + 3);
                }
            }
        }
        for (String cut : new String[] {"road", "road 0", "road 0 1"}) {
            fault(TWO + cut, 1, 18 + cut.length());
        }
        fault("", 0, NONE);
    }

    private static void longNumbers() {
        terms("2 one that can, but is too much: a NUMBER of 5 digits or more, or (not in an EXPR) not as told");
        fault("takes 1000;", 0, NONE);
        fault("takes 9999;", 0, NONE);
        fault("takes 10000;", 2, 6);
        fault("takes 100000;", 2, 6);
        fault("takes 00001;", 2, 6);
        fault("takes 1+4294967297;", 2, 8);
        fault("free 00001 0;", 2, 5);
        fault("free 0 00001;", 2, 7);
        fault("free 4294967296 0;", 2, 5);
        fault(TWO + "road 00000 1;", 2, 23);
        fault(TWO + "road 0 4294967297;", 2, 25);
        fault("takes 21+10;", 0, NONE);
        fault("free 20 9;free 21 9;", 2, 15);
        fault("free 20 9;free 20 10;", 2, 18);
    }

    private static void firstTokens() {
        terms("the first TOKEN of the 11th VILLAGE, the 19th ROAD, the 4th STYLE");
        String nine = "free 0 0;".repeat(9);
        for (String kind : new String[] {"north", "south", "free"}) {
            fault(nine + kind, 1, 81 + kind.length());
            fault(nine + kind + " 0 0;", 0, NONE);
            fault(nine + "free 0 0;" + kind, 2, 90);
            fault(nine + "free 0 0; " + kind + " 99 99;", 2, 91);
        }
        fault(roads(17) + "road", 1, roads(17).length() + 4);
        fault(roads(18) + "road", 2, roads(18).length());
        fault(roads(18) + "\nroad 9 9;", 2, roads(18).length() + 1);
        fault("style 1;".repeat(2) + "style", 1, 21);
        fault("style 1;".repeat(3) + "style", 2, 24);
        fault("style 1;".repeat(3) + "takes 1;style 12345;", 2, 32);
    }

    private static void withinSixOthers() {
        terms("of an EXPR within 6 others (a NUMBER, any word, a parenthesis)");
        for (String line : new String[] {"takes ", "style "}) {
            for (String part : new String[] {"1", "fort", "not 1", "(1)", "12345", "sun", "or"}) {
                fault(line + "((((((" + part, 2, 12);
            }
            fault(line + "(((((1)))));", 0, NONE);
            fault(line + "((((((1))))));", 2, 12);
            fault(line + "(((((((1)))))));", 2, 12);
            fault(line + "((((1))));", 0, NONE);
            fault(line + "(((((not fort)))));", 0, NONE);
        }
        gives("((((3))))", 3);
        takesGives("(((((1)))))", true);
        // Side by side they are within no more of them.
        takesGives("(((((0)))))+(((((1)))))*(((((2)))))", true);
        fault("takes (((((0)))))+((((((1))))));", 2, 24);
        fault("takes (((((1+(2", 2, 14);
        fault("takes ((((((", 1, 12);
    }

    private static void seventhNot() {
        terms("the seventh 'not' side by side");
        fault("takes " + "not ".repeat(5) + "1;", 0, NONE);
        fault("takes " + "not ".repeat(6) + "1;", 0, NONE);
        fault("takes " + "not ".repeat(7) + "1;", 2, 30);
        fault("takes " + "not ".repeat(8) + "1;", 2, 30);
        fault("takes " + "not ".repeat(7), 2, 30);
        fault("takes " + "not ".repeat(6) + ";", 1, 30);
        gives("not ".repeat(6) + "5", 1);
        gives("not ".repeat(5) + "5", 0);
        // A parenthesis or another word between them, and they are side by side no more.
        fault("takes " + "not ".repeat(6) + "(" + "not ".repeat(6) + "1);", 0, NONE);
        fault("takes " + "not ".repeat(6) + "1 or " + "not ".repeat(6) + "1;", 0, NONE);
        fault("takes " + "not ".repeat(6) + "1 and " + "not ".repeat(7) + "1;", 2, 60);
        fault("style 1 and " + "not ".repeat(7) + "1;", 2, 36);
    }

    private static void unknownWords() {
        terms("3 any word where a PART must stand that is no VALUE");
        for (String word : new String[] {"or", "and", "north", "south", "free", "road", "style", "x", "help", "helpss"}) {
            fault("takes " + word + ";", 3, 6);
            fault("style 1+" + word + ";", 3, 8);
            fault("takes not " + word + ";", 3, 10);
            fault("takes (" + word + ");", 3, 7);
            fault("takes 1 or " + word + ";", 3, 11);
            fault("takes 1 and " + word + ";", 3, 12);
            fault("takes 1<" + word + ";", 3, 8);
            fault("takes 1*" + word + ";", 3, 8);
            fault("takes 1 " + (word.equals("or") || word.equals("and") ? "x" : word) + ";", 1, 8);
        }
        fault("takes 1+not 1;", 3, 8);
        fault("takes 1=not 1;", 3, 8);
        for (String value : VALUES) {
            fault("takes 1+" + value + ";", 0, NONE);
            fault("takes " + value.substring(1) + ";", 3, 6);
            fault("takes " + value + "s;", 3, 6);
            fault("takes " + value.substring(0, value.length() - 1) + ";", 3, 6);
        }
    }

    private static void villagesNotToldAhead() {
        terms("a VILLAGE that isn't told ahead");
        fault("road 0 1;" + TWO, 3, 5);
        fault("free 0 0;road 0 1;free 0 0;", 3, 16);
        fault(TWO + "road 1 0;", 0, NONE);
        fault(TWO + "road 1 2;", 3, 25);
        fault(TWO + "road 2 1;", 3, 23);
        fault(TWO + "road 1 3;", 3, 25);
        String ten = "free 0 0;".repeat(10);
        fault(ten + "road 8 9;", 0, NONE);
        // Of 10 and more no village can ever be told: read as 3, not as 2 (see NOTES.md).
        fault(ten + "road 9 10;", 3, 97);
        fault(ten + "road 9999 9;", 3, 95);
    }

    private static void badRoads() {
        terms("4 the second VILLAGE of a ROAD that is the first one, or has one with it");
        fault(TWO + "road 0 0;", 4, 25);
        fault(TWO + "road 1 0001;", 4, 25);
        fault(TWO + "road 0 1;road 0 1;", 4, 34);
        fault(TWO + "road 0 1;road 1 0;", 4, 34);
        fault(TWO + "road 1 0;road 0 1;", 4, 34);
        fault(TWO + "free 0 0;road 0 1;road 0 2;road 2 1;", 0, NONE);
        fault(TWO + "free 0 0;road 0 1;road 1 2;road 2 1;", 4, 52);
        fault(roads(18).replace("road 3 6;", "road 6 0;"), 4, roads(17).length() + 7);
    }

    private static void secondTakes() {
        terms("5 a second 'takes'.");
        fault("takes 1;", 0, NONE);
        fault("takes 1;takes 1;", 5, 8);
        fault("takes 1;takes", 5, 8);
        fault("takes 0;style takes;free 0 0; takes takes;", 5, 30);
        fault("takes takes;", 0, NONE);
    }
}
