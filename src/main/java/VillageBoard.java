import java.util.NoSuchElementException;

/**
 * A frontier as a game: villages, roads, stones of two kings, flags, taxes.
 * Sets of villages are ints, a bit for each one; a move is 100 by where from
 * and where to, and NONE is a pass.
 */
public final class VillageBoard {
    public static final int NONE = -1;

    private static final int MAX_TEXT = 700;
    private static final int MAX_VILLAGES = 10;
    private static final int MAX_ROADS = 18;
    private static final int MAX_STYLES = 3;
    private static final int MAX_WORTH = 20;
    private static final int MAX_FORT = 9;
    private static final int MAX_EVENING = 999;
    private static final int MAX_TREASURY = 9999;
    private static final int MAX_GIFT = 9999;
    private static final int MAX_ACTS = 40;
    private static final int MAX_SEEN = 6;
    private static final int MAX_PLAYED = 30;
    private static final int MAX_LOOK = 3;
    private static final int MAX_YEARS = 60;
    private static final int GAME_EVENINGS = 10;
    private static final int NOBODY = 2;

    private static final int TEXT_FAULTS = 0;
    private static final int ACT_REFUSALS = 1;
    private static final int SEEN_REFUSALS = 2;

    private final int[] tape = new int[MAX_TEXT];
    private int tapeLength = 0;
    private int faultPlace = NONE;
    private final int[] refused = new int[3];
    private final Reader reader = new Reader();
    private Land land = new Land();
    private final Position now = new Position();
    private final Position later = new Position();
    private final Acts acts = new Acts();
    private final Sightings sightings = new Sightings();
    private boolean hasImage = false;
    private final Position imagePosition = new Position();
    private final Acts imageActs = new Acts();
    private final Sightings imageSightings = new Sightings();
    private final Couples couples = new Couples();
    private final int[] gains = new int[8];

    public VillageBoard() {
    }

    // ---- the tape and the text

    public int feed(int a, int b, int c, int d, int e) {
        if (tapeLength + 20 > MAX_TEXT) {
            return NONE;
        }
        putOnTape(a);
        putOnTape(b);
        putOnTape(c);
        putOnTape(d);
        putOnTape(e);
        return tapeLength;
    }

    private void putOnTape(int number) {
        for (int shift = 24; shift >= 0; shift -= 8) {
            if (tapeLength < MAX_TEXT) {
                tape[tapeLength] = (number >>> shift) & 255;
                tapeLength++;
            }
        }
    }

    public int board(int n) throws IllegalArgumentException {
        if (n < 0 || n > tapeLength) {
            throw new IllegalArgumentException("the tape has not so many bytes");
        }
        int fault = reader.read(tape, n);
        tapeLength = 0;
        if (fault != 0) {
            faultPlace = reader.tokenStart;
            refused[TEXT_FAULTS]++;
            return fault;
        }
        faultPlace = NONE;
        land = reader.handOver(land);
        now.begin(land);
        acts.clear();
        sightings.clear();
        hasImage = false;
        return 0;
    }

    public int fault() {
        return faultPlace;
    }

    // ---- what there is

    public int count(int what) throws NoSuchElementException {
        switch (what) {
            case 0: return land.villages;
            case 1: return land.roads;
            case 2: return land.styleCount;
            case 3: return now.evening;
            case 4: return now.turn();
            case 5: return now.stones[0];
            case 6: return now.stones[1];
            case 7: return now.flags[0];
            case 8: return now.flags[1];
            case 9: return acts.kept;
            case 10: return sightings.kept;
            case 11: return tapeLength;
            case 12: return refused[TEXT_FAULTS];
            case 13: return refused[ACT_REFUSALS];
            case 14: return refused[SEEN_REFUSALS];
            default: throw new NoSuchElementException("no such count");
        }
    }

    public int village(int village, int what) throws NoSuchElementException {
        needVillage(village);
        switch (what) {
            case 0: return land.worth[village];
            case 1: return land.fort[village];
            case 2: return now.stoneIn(village);
            case 3: return now.flagOf(village);
            case 4: return Integer.bitCount(land.neighbours[village]);
            case 5: return now.book[village];
            case 6: return now.book[MAX_VILLAGES + village];
            default: throw new NoSuchElementException("no such thing of a village");
        }
    }

    public int side(int side, int what) throws NoSuchElementException {
        needSide(side);
        switch (what) {
            case 0: return now.treasury[side];
            case 1: return now.style[side];
            case 2: return land.enPrise(now.stones[side], now.stones[1 - side], now.evening);
            case 3: return pinnedOf(side);
            case 4: return land.listMoves(now.stones[side], now.stones[1 - side], now.evening);
            case 5: return land.worthOf(now.flags[side]);
            default: throw new NoSuchElementException("no such thing of a side");
        }
    }

    public boolean road(int village, int other) throws NoSuchElementException {
        needVillage(village);
        needVillage(other);
        return has(land.neighbours[village], other);
    }

    public boolean lawful(int from, int to) throws NoSuchElementException {
        needVillage(from);
        needVillage(to);
        return has(targetsFrom(from), to);
    }

    // ---- acts

    public int move(int from, int to) throws NoSuchElementException {
        needVillage(from);
        needVillage(to);
        int mover = now.turn();
        if (now.evening >= MAX_EVENING || !mayMoveInTurn(from, to)) {
            refused[ACT_REFUSALS]++;
            return NONE;
        }
        int taken = has(now.stones[1 - mover], to) ? 1 : 0;
        acts.keep(now);
        now.bringStone(mover, 100 * from + to);
        now.endEvening(land);
        return taken;
    }

    public int pass() {
        if (now.evening >= MAX_EVENING) {
            refused[ACT_REFUSALS]++;
            return NONE;
        }
        acts.keep(now);
        now.endEvening(land);
        return now.evening;
    }

    public boolean fly(int from, int to) throws NoSuchElementException {
        needVillage(from);
        needVillage(to);
        int stone = now.stoneIn(from);
        if (stone == NOBODY || now.stoneIn(to) != NOBODY) {
            refused[ACT_REFUSALS]++;
            return false;
        }
        acts.keep(now);
        now.bringStone(stone, 100 * from + to);
        return true;
    }

    public int teach(int side, int style) throws NoSuchElementException {
        needSide(side);
        if (style != NONE && !isStyle(style)) {
            refused[ACT_REFUSALS]++;
            return -2;
        }
        int before = now.style[side];
        acts.keep(now);
        now.style[side] = style;
        return before;
    }

    public int play(int many) {
        if (many < 1 || many > MAX_PLAYED || now.evening + many > MAX_EVENING) {
            refused[ACT_REFUSALS]++;
            return NONE;
        }
        acts.keep(now);
        for (int i = 0; i < many; i++) {
            now.playEvening(land);
        }
        return now.evening;
    }

    public int undo() {
        if (acts.kept == 0) {
            return NONE;
        }
        acts.bringBack(now);
        return acts.kept;
    }

    // ---- what hangs on what, and what lies ahead

    public int hangs(int village) throws NoSuchElementException {
        needVillage(village);
        return hangingOn(village);
    }

    public int look(int evenings, int what) throws NoSuchElementException, IllegalArgumentException {
        if (what != 0 && what != 1) {
            throw new NoSuchElementException("no such thing of a look");
        }
        if (evenings < 0 || evenings > MAX_LOOK) {
            throw new IllegalArgumentException("not 0 to 3 evenings");
        }
        return what == 0 ? leadIn(now.turn(), evenings) : bestMove(evenings);
    }

    public int win() {
        int own = now.stones[now.turn()];
        int foe = now.stones[1 - now.turn()];
        if (foe == 0) {
            return NONE;
        }
        // The other side loses no stone by its own evening: 2 are as good as 1.
        for (int evenings = 1; evenings <= 3; evenings += 2) {
            if (Foresight.canForceWin(land, own, foe, now.evening, evenings)) {
                return evenings;
            }
        }
        return NONE;
    }

    public int journey(int from, int to) throws NoSuchElementException {
        needVillage(from);
        needVillage(to);
        if (now.stoneIn(from) == NOBODY) {
            return NONE;
        }
        int reached = 1 << from;
        for (int moves = 0; moves < MAX_VILLAGES; moves++) {
            if (has(reached, to)) {
                return moves;
            }
            reached |= land.besideAnyOf(reached) & land.without(now.allStones());
        }
        return NONE;
    }

    public int played(int i) throws NoSuchElementException {
        if (i < 0 || i >= MAX_PLAYED) {
            throw new NoSuchElementException("not an evening of 0 to 29");
        }
        later.copyFrom(now);
        int move = NONE;
        for (int evening = 0; evening <= i; evening++) {
            move = later.playEvening(land);
        }
        return move;
    }

    public int turned(int village) throws NoSuchElementException {
        needVillage(village);
        int flag = now.flagOf(village);
        later.copyFrom(now);
        for (int evening = 1; evening <= MAX_PLAYED; evening++) {
            later.playEvening(land);
            if (later.flagOf(village) != flag) {
                return evening;
            }
        }
        return NONE;
    }

    public int treasury(int side, int evenings) throws NoSuchElementException, IllegalArgumentException {
        needSide(side);
        if (evenings < 0 || evenings > MAX_PLAYED) {
            throw new IllegalArgumentException("not 0 to 30 evenings");
        }
        later.copyFrom(now);
        for (int evening = 0; evening < evenings; evening++) {
            later.playEvening(land);
        }
        return later.treasury[side];
    }

    public int gift(int from, int to) throws NoSuchElementException {
        needVillage(from);
        needVillage(to);
        if (now.style[now.turn()] == NONE || !mayMoveInTurn(from, to)) {
            return NONE;
        }
        // Longs: what is added is told as it is, and doesn't wrap.
        int move = 100 * from + to;
        long missing = leastThatWins(move) - styleGives(move);
        if (missing <= 0) {
            return 0;
        }
        return missing > MAX_GIFT ? NONE : (int) missing;
    }

    public int plant(int village, int what) throws NoSuchElementException {
        needVillage(village);
        if (what < 0 || what > 2) {
            throw new NoSuchElementException("no such thing of a planting");
        }
        int owner = now.stoneIn(village);
        if (owner == NOBODY) {
            return NONE;
        }
        int own = now.stones[owner];
        int foe = now.stones[1 - owner];
        int takers = Integer.bitCount(land.takersOf(own, foe, village, now.evening));
        int all = land.listMoves(foe, own, now.evening) + 1;
        if (what == 0) {
            return takers;
        }
        return what == 1 ? all : 6 * (all - takers) > 2 * all ? 1 : 0;
    }

    // ---- whose style it was

    public int see(int i, int from, int to) throws NoSuchElementException {
        needVillage(from);
        needVillage(to);
        if (i < 0 || i >= MAX_PLAYED || sightings.kept >= MAX_SEEN) {
            refused[SEEN_REFUSALS]++;
            return NONE;
        }
        sightings.add(i, from == to ? NONE : 100 * from + to);
        return sightings.kept;
    }

    public void forget() {
        sightings.clear();
    }

    public int styles(int what) throws NoSuchElementException {
        if (what != 0 && what != 1) {
            throw new NoSuchElementException("no such thing of styles");
        }
        couples.find(land, now, later, sightings);
        return what == 0 ? couples.found : couples.first;
    }

    public int next(int what) throws NoSuchElementException {
        if (what != 0 && what != 1) {
            throw new NoSuchElementException("no such thing of the next evening");
        }
        couples.find(land, now, later, sightings);
        int telling = NONE;
        int most = 0;
        for (int evening = 0; evening < MAX_PLAYED; evening++) {
            int unlike = couples.unlikeOn(evening);
            if (unlike > most) {
                most = unlike;
                telling = evening;
            }
        }
        return what == 0 ? telling : most;
    }

    // ---- treaties, games, years

    public boolean treaty() {
        return keepsTreaty(0) && keepsTreaty(1);
    }

    private boolean keepsTreaty(int side) {
        int byPass = leadAfter(side, NONE, 2);
        int many = land.listMoves(now.stones[side], now.stones[1 - side], now.evening);
        for (int i = 0; i < many; i++) {
            if (leadAfter(side, land.moves[i], 2) > byPass) {
                return false;
            }
        }
        return true;
    }

    public int game(int style, int other, int what) throws NoSuchElementException, IllegalArgumentException {
        if (!isStyle(style) || !isStyle(other) || what < 0 || what > 1) {
            throw new NoSuchElementException("no such style, or thing of a game");
        }
        if (style == other) {
            throw new IllegalArgumentException("both styles are one");
        }
        for (int couple = 0; couple < 4; couple++) {
            int north = couple / 2 == 0 ? style : other;
            int south = couple % 2 == 0 ? style : other;
            playGame(couple, north, south);
        }
        int resting = 0;
        int first = NONE;
        for (int couple = 3; couple >= 0; couple--) {
            if (rests(couple)) {
                resting++;
                first = 10 * (couple / 2) + couple % 2;
            }
        }
        return what == 0 ? resting : first;
    }

    private void playGame(int couple, int north, int south) {
        later.copyFrom(now);
        later.style[0] = north;
        later.style[1] = south;
        for (int evening = 0; evening < GAME_EVENINGS; evening++) {
            later.playEvening(land);
        }
        gains[2 * couple] = later.treasury[0] - now.treasury[0];
        gains[2 * couple + 1] = later.treasury[1] - now.treasury[1];
    }

    private boolean rests(int couple) {
        int northElse = couple ^ 2;
        int southElse = couple ^ 1;
        return gains[2 * northElse] <= gains[2 * couple]
                && gains[2 * southElse + 1] <= gains[2 * couple + 1];
    }

    public int years(int seed, int n, int what) throws NoSuchElementException, IllegalArgumentException {
        if (what < 0 || what > 2) {
            throw new NoSuchElementException("no such thing of years");
        }
        if (n < 0 || n > MAX_YEARS) {
            throw new IllegalArgumentException("not 0 to 60 evenings");
        }
        later.copyFrom(now);
        int seedNow = seed;
        for (int evening = 0; evening < n; evening++) {
            seedNow = seedNow * 1103515245 + 12345;
            later.drawEvening(land, (seedNow >>> 16) & 32767);
        }
        return what == 0 ? Integer.bitCount(later.allStones()) : later.treasury[what - 1];
    }

    // ---- the state of the frontier

    public int owes(int side) throws NoSuchElementException {
        needSide(side);
        int sum = 0;
        for (int village = 0; village < land.villages; village++) {
            if (has(now.flags[side], village)) {
                sum += land.worth[village] * now.book[MAX_VILLAGES * (1 - side) + village];
            }
        }
        return sum;
    }

    public int front() {
        int sum = 0;
        for (int village = 0; village < land.villages; village++) {
            if (has(now.flags[0], village)) {
                sum += Integer.bitCount(land.neighbours[village] & now.flags[1]);
            }
        }
        return sum;
    }

    public int parts(int side) throws NoSuchElementException {
        needSide(side);
        int left = now.flags[side];
        int sum = 0;
        for (int village = 0; village < land.villages; village++) {
            if (has(left, village)) {
                sum++;
                left &= ~land.reachedWithin(left, 1 << village);
            }
        }
        return sum;
    }

    public int safe(int village) throws NoSuchElementException {
        needVillage(village);
        int owner = now.stoneIn(village);
        if (owner == NOBODY) {
            return 0;
        }
        int targets = targetsFrom(village);
        int safeOnes = 0;
        for (int to = 0; to < land.villages; to++) {
            if (has(targets, to)) {
                int own = now.stones[owner] & ~(1 << village) | 1 << to;
                int foe = now.stones[1 - owner] & ~(1 << to);
                // The move ends the evening: the other side would take on the next one.
                if (land.takersOf(own, foe, to, now.evening + 1) == 0) {
                    safeOnes |= 1 << to;
                }
            }
        }
        return safeOnes;
    }

    public int reach(int village) throws NoSuchElementException {
        needVillage(village);
        if (now.stoneIn(village) == NOBODY) {
            return 0;
        }
        return land.reachedWithin(land.without(now.allStones()), 1 << village) & ~(1 << village);
    }

    public int guard(int village) throws NoSuchElementException {
        needVillage(village);
        int owner = now.stoneIn(village);
        if (owner == NOBODY) {
            return NONE;
        }
        int own = now.stones[owner];
        int foe = now.stones[1 - owner];
        // Only stones beside it guard it, and only their number counts: so the
        // fewest are always the lowest ones beside it.
        int free = land.neighbours[village] & ~now.allStones();
        int guards = 0;
        for (int v = 0; v <= land.villages; v++) {
            if (land.takersOf(own | guards, foe, village, now.evening) == 0) {
                return guards;
            }
            int left = free & ~guards;
            guards |= left & -left;
        }
        return NONE;
    }

    public int key(int side) throws NoSuchElementException {
        needSide(side);
        int best = NONE;
        int most = 0;
        for (int village = 0; village < land.villages; village++) {
            int hanging = has(now.stones[side], village) ? Integer.bitCount(hangingOn(village)) : 0;
            if (hanging > most) {
                most = hanging;
                best = village;
            }
        }
        return best;
    }

    public int fork() {
        int mover = now.turn();
        int best = NONE;
        int most = 1;
        int many = land.listMoves(now.stones[mover], now.stones[1 - mover], now.evening);
        for (int i = 0; i < many; i++) {
            int forked = forkedBy(mover, land.moves[i]);
            if (forked > most) {
                most = forked;
                best = land.moves[i];
            }
        }
        return best;
    }

    private int forkedBy(int mover, int move) {
        int there = 1 << move % 100;
        int own = now.stones[mover] & ~(1 << move / 100) | there;
        int foe = now.stones[1 - mover] & ~there;
        return Integer.bitCount(land.enPrise(foe, own, now.evening + 1));
    }

    public int regret(int from, int to) throws NoSuchElementException {
        needVillage(from);
        needVillage(to);
        if (!mayMoveInTurn(from, to)) {
            return NONE;
        }
        int mover = now.turn();
        return leadIn(mover, 2) - leadAfter(mover, 100 * from + to, 2);
    }

    public int whose(int village) throws NoSuchElementException {
        needVillage(village);
        int north = now.book[village];
        int south = now.book[MAX_VILLAGES + village];
        return north > south ? 0 : south > north ? 1 : NOBODY;
    }

    // ---- the image

    public void image() {
        imagePosition.copyFrom(now);
        imageActs.copyFrom(acts);
        imageSightings.copyFrom(sightings);
        hasImage = true;
    }

    public boolean restore() {
        if (!hasImage) {
            return false;
        }
        now.copyFrom(imagePosition);
        acts.copyFrom(imageActs);
        sightings.copyFrom(imageSightings);
        return true;
    }

    // ---- helpers

    private static boolean has(int villages, int village) {
        return (villages >> village & 1) != 0;
    }

    private void needVillage(int village) {
        if (village < 0 || village >= land.villages) {
            throw new NoSuchElementException("no such village");
        }
    }

    private void needSide(int side) {
        if (side != 0 && side != 1) {
            throw new NoSuchElementException("no such side");
        }
    }

    private boolean isStyle(int style) {
        return style >= 0 && style < land.styleCount;
    }

    private int targetsFrom(int from) {
        int owner = now.stoneIn(from);
        if (owner == NOBODY) {
            return 0;
        }
        return land.lawfulTargets(now.stones[owner], now.stones[1 - owner], from, now.evening);
    }

    private boolean mayMoveInTurn(int from, int to) {
        return now.stoneIn(from) == now.turn() && has(targetsFrom(from), to);
    }

    private int hangingOn(int village) {
        int owner = now.stoneIn(village);
        if (owner == NOBODY) {
            return 0;
        }
        int own = now.stones[owner];
        int foe = now.stones[1 - owner];
        int before = land.enPrise(own, foe, now.evening);
        return land.enPrise(own & ~(1 << village), foe, now.evening) & ~before;
    }

    private int pinnedOf(int side) {
        int pinned = 0;
        for (int village = 0; village < land.villages; village++) {
            if (has(now.stones[side], village) && hangingOn(village) != 0) {
                pinned |= 1 << village;
            }
        }
        return pinned;
    }

    private int leadIn(int side, int evenings) {
        return Foresight.bestLead(land, now.stones[side], now.stones[1 - side],
                now.flags[side], now.flags[1 - side], now.evening, evenings);
    }

    private int leadAfter(int side, int move, int evenings) {
        int own = now.stones[side];
        int foe = now.stones[1 - side];
        int ownFlags = now.flags[side];
        int foeFlags = now.flags[1 - side];
        if (move != NONE) {
            int there = 1 << move % 100;
            own = own & ~(1 << move / 100) | there;
            foe &= ~there;
            ownFlags |= there;
            foeFlags &= ~there;
        }
        return -Foresight.bestLead(land, foe, own, foeFlags, ownFlags, now.evening + 1, evenings - 1);
    }

    private int bestMove(int evenings) {
        if (evenings == 0) {
            return NONE;
        }
        int mover = now.turn();
        int best = NONE;
        int most = 0;
        int many = land.listMoves(now.stones[mover], now.stones[1 - mover], now.evening);
        for (int i = 0; i < many; i++) {
            int lead = leadAfter(mover, land.moves[i], evenings);
            if (i == 0 || lead > most) {
                most = lead;
                best = land.moves[i];
            }
        }
        return many > 0 && leadAfter(mover, NONE, evenings) > most ? NONE : best;
    }

    private int styleGives(int move) {
        int mover = now.turn();
        land.setValues(now.stones[mover], now.stones[1 - mover], now.flags[mover], move, now.evening);
        return land.rules.give(now.style[mover]);
    }

    private long leastThatWins(int move) {
        int mover = now.turn();
        long need = 1;
        int many = land.listMoves(now.stones[mover], now.stones[1 - mover], now.evening);
        for (int i = 0; i < many; i++) {
            int other = land.moves[i];
            if (other != move) {
                // Of like ones the first one is done: so one ahead must be outdone.
                long ahead = other < move ? 1 : 0;
                need = Math.max(need, styleGives(other) + ahead);
            }
        }
        return need;
    }

    /** What a text tells. It is kept apart from the Position, for no evening changes it. */
    private static final class Land {
        int villages = 0;
        int roads = 0;
        int styleCount = 0;
        boolean hasTakes = false;
        final int[] worth = new int[MAX_VILLAGES];
        final int[] fort = new int[MAX_VILLAGES];
        final int[] neighbours = new int[MAX_VILLAGES];
        final int[] firstStones = new int[2];
        final int[] moves = new int[2 * MAX_ROADS];
        final Rules rules = new Rules();

        void clear() {
            villages = 0;
            roads = 0;
            styleCount = 0;
            hasTakes = false;
            firstStones[0] = 0;
            firstStones[1] = 0;
            rules.clear();
        }

        void addVillage(int stone, int itsWorth, int itsFort) {
            if (villages < MAX_VILLAGES) {
                worth[villages] = itsWorth;
                fort[villages] = itsFort;
                neighbours[villages] = 0;
                if (stone != NOBODY) {
                    firstStones[stone] |= 1 << villages;
                }
                villages++;
            }
        }

        void addRoad(int one, int other) {
            if (one < villages && other < villages) {
                neighbours[one] |= 1 << other;
                neighbours[other] |= 1 << one;
                roads++;
            }
        }

        void addRule(int rule, int start) {
            if (rule == Rules.TAKES_RULE) {
                hasTakes = true;
            } else {
                styleCount++;
            }
            rules.setRule(rule, start);
        }

        int without(int taken) {
            return (1 << villages) - 1 & ~taken;
        }

        int worthOf(int set) {
            int sum = 0;
            for (int village = 0; village < villages; village++) {
                if (has(set, village)) {
                    sum += worth[village];
                }
            }
            return sum;
        }

        int besideAnyOf(int set) {
            int all = 0;
            for (int village = 0; village < villages; village++) {
                if (has(set, village)) {
                    all |= neighbours[village];
                }
            }
            return all;
        }

        int reachedWithin(int ground, int start) {
            int reached = start;
            for (int step = 0; step < MAX_VILLAGES; step++) {
                reached |= besideAnyOf(reached) & ground;
            }
            return reached;
        }

        int lawfulTargets(int own, int foe, int from, int evening) {
            int open = neighbours[from] & ~own & ~foe;
            int prey = neighbours[from] & foe;
            for (int to = 0; to < villages && prey != 0; to++) {
                if (has(prey, to) && mayTake(own, foe, 100 * from + to, evening)) {
                    open |= 1 << to;
                }
            }
            return open;
        }

        private boolean mayTake(int own, int foe, int move, int evening) {
            // Where a stone stands its flag flies: of the taker's own flags none is there.
            setValues(own, foe, own, move, evening);
            if (hasTakes) {
                return rules.give(Rules.TAKES_RULE) > 0;
            }
            int helps = rules.values[Rules.HELPS];
            return helps > rules.values[Rules.GUARDS] + rules.values[Rules.FORT] - 1;
        }

        int gainOfMoveTo(int to, int ownFlags, int foeFlags) {
            // A flag of the foe's counts twice: one side has it more, the other one less.
            return has(ownFlags, to) ? 0 : has(foeFlags, to) ? 2 * worth[to] : worth[to];
        }

        int takersOf(int own, int foe, int village, int evening) {
            int takers = 0;
            int near = neighbours[village] & foe;
            for (int from = 0; from < villages; from++) {
                if (has(near, from) && mayTake(foe, own, 100 * from + village, evening)) {
                    takers |= 1 << from;
                }
            }
            return takers;
        }

        int enPrise(int own, int foe, int evening) {
            int all = 0;
            for (int village = 0; village < villages; village++) {
                if (has(own, village) && takersOf(own, foe, village, evening) != 0) {
                    all |= 1 << village;
                }
            }
            return all;
        }

        /** How many there are, in the order of the document. None may be listed while a list is in use. */
        int listMoves(int own, int foe, int evening) {
            int many = 0;
            for (int from = 0; from < villages; from++) {
                int targets = has(own, from) ? lawfulTargets(own, foe, from, evening) : 0;
                for (int to = 0; to < villages; to++) {
                    if (has(targets, to) && many < moves.length) {
                        moves[many] = 100 * from + to;
                        many++;
                    }
                }
            }
            return many;
        }

        void setValues(int own, int foe, int ownFlags, int move, int evening) {
            int from = move / 100;
            int to = move % 100;
            if (from < 0 || from >= MAX_VILLAGES || to < 0 || to >= MAX_VILLAGES) {
                return;
            }
            int near = neighbours[to];
            int[] values = rules.values;
            values[Rules.HELPS] = Integer.bitCount(near & own & ~(1 << from));
            values[Rules.GUARDS] = Integer.bitCount(near & foe);
            values[Rules.FORT] = fort[to];
            values[Rules.WORTH] = worth[to];
            values[Rules.HOME] = worth[from];
            values[Rules.TAKES] = foe >> to & 1;
            values[Rules.TURNS] = 1 - (ownFlags >> to & 1);
            values[Rules.EVENING] = evening;
        }
    }

    /** The rules, each with its signs behind what they join: so giving a value needs no recursion. */
    private static final class Rules {
        static final int HELPS = 0;
        static final int GUARDS = 1;
        static final int FORT = 2;
        static final int WORTH = 3;
        static final int HOME = 4;
        static final int TAKES = 5;
        static final int TURNS = 6;
        static final int EVENING = 7;
        static final int MAX_VALUES = 8;
        static final int TAKES_RULE = MAX_STYLES;

        /** Below 0, so that they are no numbers: -1 less a value, or less one of these. */
        static final int AND = 8;
        static final int OR = 9;
        static final int PLUS = 10;
        static final int MINUS = 11;
        static final int TIMES = 12;
        static final int BY = 13;
        static final int LESS = 14;
        static final int LIKE = 15;

        /** Five lefts may wait in each of six expressions: this is more than they need. */
        static final int MAX_STACK = 64;

        final int[] code = new int[MAX_TEXT];
        int length = 0;
        final int[] start = new int[MAX_STYLES + 1];
        final int[] end = new int[MAX_STYLES + 1];
        final int[] values = new int[MAX_VALUES];
        final int[] stack = new int[MAX_STACK];

        static String nameOf(int value) {
            switch (value) {
                case HELPS: return "helps";
                case GUARDS: return "guards";
                case FORT: return "fort";
                case WORTH: return "worth";
                case HOME: return "home";
                case TAKES: return "takes";
                case TURNS: return "turns";
                case EVENING: return "evening";
                default: return "";
            }
        }

        void clear() {
            length = 0;
            for (int rule = 0; rule <= MAX_STYLES; rule++) {
                start[rule] = 0;
                end[rule] = 0;
            }
        }

        void addNumber(int number) {
            put(number);
        }

        void addSign(int sign) {
            put(-1 - sign);
        }

        private void put(int item) {
            if (length < MAX_TEXT) {
                code[length] = item;
                length++;
            }
        }

        void setRule(int rule, int itsStart) {
            if (rule >= 0 && rule <= MAX_STYLES) {
                start[rule] = itsStart;
                end[rule] = length;
            }
        }

        int give(int rule) {
            if (rule < 0 || rule > MAX_STYLES) {
                return 0;
            }
            int top = 0;
            for (int at = start[rule]; at < end[rule]; at++) {
                int item = code[at];
                int sign = -1 - item;
                if (sign < MAX_VALUES && top < MAX_STACK) {
                    stack[top] = item >= 0 ? item : values[sign];
                    top++;
                } else if (top >= 2) {
                    top--;
                    int left = stack[top - 1];
                    int right = stack[top];
                    switch (sign) {
                        case AND: left = left != 0 && right != 0 ? 1 : 0; break;
                        case OR: left = left != 0 || right != 0 ? 1 : 0; break;
                        case PLUS: left += right; break;
                        case MINUS: left -= right; break;
                        case TIMES: left *= right; break;
                        case BY: left = right == 0 ? 0 : left / right; break;
                        case LESS: left = left < right ? 1 : 0; break;
                        case LIKE: left = left == right ? 1 : 0; break;
                        default: break;
                    }
                    stack[top - 1] = left;
                }
            }
            return top > 0 ? stack[top - 1] : 0;
        }
    }

    private static final class Reader {
        static final int MAX_NOTS = 6;
        static final int MAX_WITHIN = 6;
        static final int MAX_DIGITS = 4;

        static final int CANT_STAND = 1;
        static final int TOO_MUCH = 2;
        static final int UNKNOWN = 3;
        static final int BAD_ROAD = 4;
        static final int SECOND_TAKES = 5;

        /** Kinds of tokens; a sign's kind is its own byte, which is above these. */
        static final int THE_END = 0;
        static final int WORD = 1;
        static final int NUMBER = 2;
        static final int LONG_NUMBER = 3;
        static final int NO_TOKEN = 4;

        /** Levels of an expression, each made of the next one: one method can read them all. */
        static final int OR_LEVEL = 0;
        static final int AND_LEVEL = 1;
        static final int NOT_LEVEL = 2;
        static final int SUM_LEVEL = 3;
        static final int PRODUCT_LEVEL = 4;
        static final int PART_LEVEL = 5;

        int[] text = new int[0];
        int length = 0;
        Land land = new Land();
        int fault = 0;
        int tokenStart = 0;
        int tokenEnd = 0;
        int kind = THE_END;
        int number = 0;

        int read(int[] itsText, int itsLength) {
            text = itsText;
            length = Math.min(itsLength, itsText.length);
            land.clear();
            fault = 0;
            tokenEnd = 0;
            nextToken();
            for (int line = 0; line < MAX_TEXT && kind != THE_END; line++) {
                if (!readLine()) {
                    return fault;
                }
            }
            return 0;
        }

        Land handOver(Land old) {
            Land told = land;
            land = old;
            return told;
        }

        private boolean refuse(int why) {
            fault = why;
            return false;
        }

        private boolean readLine() {
            boolean more;
            if (isWord("north")) {
                more = readVillage(0);
            } else if (isWord("south")) {
                more = readVillage(1);
            } else if (isWord("free")) {
                more = readVillage(NOBODY);
            } else if (isWord("road")) {
                more = readRoad();
            } else if (isWord("takes")) {
                more = land.hasTakes ? refuse(SECOND_TAKES) : readRule(Rules.TAKES_RULE);
            } else if (isWord("style")) {
                more = land.styleCount < MAX_STYLES ? readRule(land.styleCount) : refuse(TOO_MUCH);
            } else {
                more = refuse(CANT_STAND);
            }
            if (more && kind != ';') {
                more = refuse(CANT_STAND);
            }
            if (more) {
                nextToken();
            }
            return more;
        }

        private boolean readVillage(int stone) {
            if (land.villages >= MAX_VILLAGES) {
                return refuse(TOO_MUCH);
            }
            nextToken();
            int worth = readNumber(MAX_WORTH);
            if (worth == NONE) {
                return false;
            }
            int fort = readNumber(MAX_FORT);
            if (fort == NONE) {
                return false;
            }
            land.addVillage(stone, worth, fort);
            return true;
        }

        private boolean readRoad() {
            if (land.roads >= MAX_ROADS) {
                return refuse(TOO_MUCH);
            }
            nextToken();
            if (kind == NUMBER && number >= land.villages) {
                return refuse(UNKNOWN);
            }
            int one = readNumber(MAX_VILLAGES);
            if (one == NONE) {
                return false;
            }
            if (kind == NUMBER && number >= land.villages) {
                return refuse(UNKNOWN);
            }
            if (kind == NUMBER && (number == one || has(land.neighbours[one], number))) {
                return refuse(BAD_ROAD);
            }
            int other = readNumber(MAX_VILLAGES);
            if (other == NONE) {
                return false;
            }
            land.addRoad(one, other);
            return true;
        }

        private int readNumber(int most) {
            if (kind != NUMBER && kind != LONG_NUMBER) {
                refuse(CANT_STAND);
                return NONE;
            }
            if (kind == LONG_NUMBER || number > most) {
                refuse(TOO_MUCH);
                return NONE;
            }
            int it = number;
            nextToken();
            return it;
        }

        private boolean readRule(int rule) {
            nextToken();
            int start = land.rules.length;
            if (!readLevel(OR_LEVEL, 0)) {
                return false;
            }
            land.addRule(rule, start);
            return true;
        }

        private boolean readLevel(int level, int within) {
            if (level == NOT_LEVEL) {
                return readNot(level, within);
            }
            if (level >= PART_LEVEL) {
                return readPart(within);
            }
            if (!readLevel(level + 1, within)) {
                return false;
            }
            for (int i = 0; i < MAX_TEXT && joint(level) != NONE; i++) {
                int sign = joint(level);
                nextToken();
                if (!readLevel(level + 1, within)) {
                    return false;
                }
                land.rules.addSign(sign);
            }
            return true;
        }

        private boolean readNot(int level, int within) {
            int nots = 0;
            for (; nots < MAX_NOTS && isWord("not"); nots++) {
                nextToken();
            }
            if (nots == MAX_NOTS && isWord("not")) {
                return refuse(TOO_MUCH);
            }
            if (!readLevel(level + 1, within)) {
                return false;
            }
            if (kind == '<' || kind == '=') {
                int sign = kind == '<' ? Rules.LESS : Rules.LIKE;
                nextToken();
                if (!readLevel(level + 1, within)) {
                    return false;
                }
                land.rules.addSign(sign);
            }
            for (int i = 0; i < nots; i++) {
                // What isn't 0 holds: so a not is a test for 0.
                land.rules.addNumber(0);
                land.rules.addSign(Rules.LIKE);
            }
            return true;
        }

        private boolean readPart(int within) {
            if (kind == '(') {
                nextToken();
                if (within + 1 >= MAX_WITHIN) {
                    return refuse(canBegin() ? TOO_MUCH : CANT_STAND);
                }
                if (!readLevel(OR_LEVEL, within + 1)) {
                    return false;
                }
                if (kind != ')') {
                    return refuse(CANT_STAND);
                }
            } else if (kind == WORD) {
                int value = NONE;
                for (int one = 0; one < Rules.MAX_VALUES; one++) {
                    value = isWord(Rules.nameOf(one)) ? one : value;
                }
                if (value == NONE) {
                    return refuse(UNKNOWN);
                }
                land.rules.addSign(value);
            } else if (kind == NUMBER) {
                land.rules.addNumber(number);
            } else {
                return refuse(kind == LONG_NUMBER ? TOO_MUCH : CANT_STAND);
            }
            nextToken();
            return true;
        }

        private boolean canBegin() {
            return kind == WORD || kind == NUMBER || kind == LONG_NUMBER || kind == '(';
        }

        private int joint(int level) {
            switch (level) {
                case OR_LEVEL: return isWord("or") ? Rules.OR : NONE;
                case AND_LEVEL: return isWord("and") ? Rules.AND : NONE;
                case SUM_LEVEL: return kind == '+' ? Rules.PLUS : kind == '-' ? Rules.MINUS : NONE;
                case PRODUCT_LEVEL: return kind == '*' ? Rules.TIMES : kind == '/' ? Rules.BY : NONE;
                default: return NONE;
            }
        }

        private boolean isWord(String word) {
            if (kind != WORD || tokenEnd - tokenStart != word.length()) {
                return false;
            }
            for (int i = 0; i < word.length(); i++) {
                int place = tokenStart + i;
                if (place < 0 || place >= text.length || text[place] != word.charAt(i)) {
                    return false;
                }
            }
            return true;
        }

        private void nextToken() {
            tokenStart = tokenEnd;
            for (int i = 0; i < MAX_TEXT && (byteAt(tokenStart) == ' ' || byteAt(tokenStart) == 10); i++) {
                tokenStart++;
            }
            tokenEnd = tokenStart;
            kind = kindOf(byteAt(tokenStart));
            number = 0;
            boolean row = kind == WORD || kind == NUMBER;
            for (int i = 0; i < MAX_TEXT && row && kindOf(byteAt(tokenEnd)) == kind; i++) {
                // Of a word, or of a long number, nobody asks for it: so it may wrap.
                number = 10 * number + byteAt(tokenEnd) - '0';
                tokenEnd++;
            }
            if (!row && kind != THE_END) {
                tokenEnd++;
            }
            if (kind == NUMBER && tokenEnd - tokenStart > MAX_DIGITS) {
                kind = LONG_NUMBER;
            }
        }

        private int byteAt(int place) {
            return place >= 0 && place < length && place < text.length ? text[place] : NONE;
        }

        private static int kindOf(int sign) {
            if (sign >= 'a' && sign <= 'z') {
                return WORD;
            }
            if (sign >= '0' && sign <= '9') {
                return NUMBER;
            }
            switch (sign) {
                case NONE:
                    return THE_END;
                case ';': case '(': case ')': case '+': case '-': case '*': case '/': case '<': case '=':
                    return sign;
                default:
                    return NO_TOKEN;
            }
        }
    }

    /** What evenings change. It has no turn of its own: only evenings change that, so even ones are the north's. */
    private static final class Position {
        static final int ROW = 9 + 2 * MAX_VILLAGES;

        final int[] stones = new int[2];
        final int[] flags = new int[2];
        final int[] treasury = new int[2];
        final int[] style = {NONE, NONE};
        final int[] book = new int[2 * MAX_VILLAGES];
        int evening = 0;

        void begin(Land land) {
            for (int side = 0; side < 2; side++) {
                stones[side] = land.firstStones[side];
                flags[side] = land.firstStones[side];
                treasury[side] = 0;
                style[side] = Math.min(side, land.styleCount - 1);
            }
            for (int i = 0; i < 2 * MAX_VILLAGES; i++) {
                book[i] = 0;
            }
            evening = 0;
        }

        void copyFrom(Position other) {
            System.arraycopy(other.stones, 0, stones, 0, 2);
            System.arraycopy(other.flags, 0, flags, 0, 2);
            System.arraycopy(other.treasury, 0, treasury, 0, 2);
            System.arraycopy(other.style, 0, style, 0, 2);
            System.arraycopy(other.book, 0, book, 0, 2 * MAX_VILLAGES);
            evening = other.evening;
        }

        void save(int[] rows, int at) {
            if (at < 0 || at > rows.length - ROW) {
                return;
            }
            System.arraycopy(stones, 0, rows, at, 2);
            System.arraycopy(flags, 0, rows, at + 2, 2);
            System.arraycopy(treasury, 0, rows, at + 4, 2);
            System.arraycopy(style, 0, rows, at + 6, 2);
            rows[at + 8] = evening;
            System.arraycopy(book, 0, rows, at + 9, 2 * MAX_VILLAGES);
        }

        void load(int[] rows, int at) {
            if (at < 0 || at > rows.length - ROW) {
                return;
            }
            System.arraycopy(rows, at, stones, 0, 2);
            System.arraycopy(rows, at + 2, flags, 0, 2);
            System.arraycopy(rows, at + 4, treasury, 0, 2);
            System.arraycopy(rows, at + 6, style, 0, 2);
            evening = rows[at + 8];
            System.arraycopy(rows, at + 9, book, 0, 2 * MAX_VILLAGES);
        }

        int turn() {
            return evening & 1;
        }

        int allStones() {
            return stones[0] | stones[1];
        }

        int stoneIn(int village) {
            return has(stones[0], village) ? 0 : has(stones[1], village) ? 1 : NOBODY;
        }

        int flagOf(int village) {
            return has(flags[0], village) ? 0 : has(flags[1], village) ? 1 : NOBODY;
        }

        void bringStone(int side, int move) {
            int there = 1 << move % 100;
            stones[side] = stones[side] & ~(1 << move / 100) | there;
            stones[1 - side] &= ~there;
            flags[side] |= there;
            flags[1 - side] &= ~there;
        }

        void endEvening(Land land) {
            for (int village = 0; village < land.villages; village++) {
                int flag = flagOf(village);
                if (flag != NOBODY) {
                    treasury[flag] = Math.min(MAX_TREASURY, treasury[flag] + land.worth[village]);
                    book[MAX_VILLAGES * flag + village]++;
                }
            }
            evening++;
        }

        int playEvening(Land land) {
            int side = turn();
            int own = stones[side];
            int foe = stones[1 - side];
            int best = NONE;
            int most = 0;
            int many = style[side] == NONE ? 0 : land.listMoves(own, foe, evening);
            for (int i = 0; i < many; i++) {
                land.setValues(own, foe, flags[side], land.moves[i], evening);
                int given = land.rules.give(style[side]);
                if (given > most) {
                    most = given;
                    best = land.moves[i];
                }
            }
            if (best != NONE) {
                bringStone(side, best);
            }
            endEvening(land);
            return best;
        }

        void drawEvening(Land land, int drawn) {
            int many = land.listMoves(stones[turn()], stones[1 - turn()], evening);
            int choice = drawn % Math.max(1, many + 1);
            if (choice >= 0 && choice < many) {
                bringStone(turn(), land.moves[choice]);
            }
            endEvening(land);
        }
    }

    /** Whole positions from before each act, for an act may be 30 evenings; a ring, so that the oldest gives way. */
    private static final class Acts {
        final int[] rows = new int[MAX_ACTS * Position.ROW];
        int first = 0;
        int kept = 0;

        void clear() {
            first = 0;
            kept = 0;
        }

        void keep(Position before) {
            before.save(rows, (first + kept) % MAX_ACTS * Position.ROW);
            if (kept < MAX_ACTS) {
                kept++;
            } else {
                first = (first + 1) % MAX_ACTS;
            }
        }

        void bringBack(Position position) {
            if (kept > 0) {
                kept--;
                position.load(rows, (first + kept) % MAX_ACTS * Position.ROW);
            }
        }

        void copyFrom(Acts other) {
            System.arraycopy(other.rows, 0, rows, 0, MAX_ACTS * Position.ROW);
            first = other.first;
            kept = other.kept;
        }
    }

    private static final class Sightings {
        final int[] evenings = new int[MAX_SEEN];
        final int[] moves = new int[MAX_SEEN];
        int kept = 0;

        void clear() {
            kept = 0;
        }

        void add(int evening, int move) {
            if (kept < MAX_SEEN) {
                evenings[kept] = evening;
                moves[kept] = move;
                kept++;
            }
        }

        void copyFrom(Sightings other) {
            System.arraycopy(other.evenings, 0, evenings, 0, MAX_SEEN);
            System.arraycopy(other.moves, 0, moves, 0, MAX_SEEN);
            kept = other.kept;
        }

        boolean fit(int[] rows, int at) {
            for (int i = 0; i < kept; i++) {
                int place = at + evenings[i];
                if (place < 0 || place >= rows.length || rows[place] != moves[i]) {
                    return false;
                }
            }
            return true;
        }
    }

    private static final class Couples {
        final int[] moves = new int[MAX_STYLES * MAX_STYLES * MAX_PLAYED];
        int found = 0;
        int first = NONE;

        void find(Land land, Position now, Position later, Sightings sightings) {
            found = 0;
            first = NONE;
            for (int north = 0; north < land.styleCount; north++) {
                for (int south = 0; south < land.styleCount; south++) {
                    later.copyFrom(now);
                    later.style[0] = north;
                    later.style[1] = south;
                    // Behind those that are found: one that doesn't fit is written over.
                    for (int evening = 0; evening < MAX_PLAYED; evening++) {
                        put(found * MAX_PLAYED + evening, later.playEvening(land));
                    }
                    if (sightings.fit(moves, found * MAX_PLAYED)) {
                        first = found == 0 ? 10 * north + south : first;
                        found++;
                    }
                }
            }
        }

        private void put(int place, int move) {
            if (place < moves.length) {
                moves[place] = move;
            }
        }

        int unlikeOn(int evening) {
            int unlike = 0;
            for (int couple = 0; couple < found; couple++) {
                boolean known = false;
                for (int other = 0; other < couple; other++) {
                    known |= moves[other * MAX_PLAYED + evening] == moves[couple * MAX_PLAYED + evening];
                }
                unlike += known ? 0 : 1;
            }
            return unlike;
        }
    }

    private static final class Foresight {

        private static int bestLead(Land land, int own, int foe, int ownFlags, int foeFlags, int evening, int left) {
            int most = left <= 1
                    ? land.worthOf(ownFlags) - land.worthOf(foeFlags)
                    : -bestLead(land, foe, own, foeFlags, ownFlags, evening + 1, left - 1);
            int stands = most;
            for (int from = 0; from < land.villages && left > 0; from++) {
                int targets = has(own, from) ? land.lawfulTargets(own, foe, from, evening) : 0;
                for (int to = 0; to < land.villages; to++) {
                    if (has(targets, to)) {
                        int there = 1 << to;
                        int moved = own & ~(1 << from) | there;
                        // The last evening has no reply: what it adds is known at once.
                        int it = left == 1
                                ? stands + land.gainOfMoveTo(to, ownFlags, foeFlags)
                                : -bestLead(land, foe & ~there, moved, foeFlags & ~there,
                                        ownFlags | there, evening + 1, left - 1);
                        most = Math.max(most, it);
                    }
                }
            }
            return most;
        }

        private static boolean canForceWin(Land land, int own, int foe, int evening, int left) {
            // An evening takes one stone at most, and every other one is the foe's.
            if (Integer.bitCount(foe) > (left + 1) / 2) {
                return false;
            }
            for (int from = 0; from < land.villages; from++) {
                int targets = has(own, from) ? land.lawfulTargets(own, foe, from, evening) : 0;
                for (int to = 0; to < land.villages; to++) {
                    int moved = own & ~(1 << from) | 1 << to;
                    if (has(targets, to) && cannotEscape(land, moved, foe & ~(1 << to), evening + 1, left - 1)) {
                        return true;
                    }
                }
            }
            return cannotEscape(land, own, foe, evening + 1, left - 1);
        }

        private static boolean cannotEscape(Land land, int own, int foe, int evening, int left) {
            if (foe == 0) {
                return true;
            }
            if (left < 2 || !canForceWin(land, own, foe, evening + 1, left - 1)) {
                return false;
            }
            for (int from = 0; from < land.villages; from++) {
                int targets = has(foe, from) ? land.lawfulTargets(foe, own, from, evening) : 0;
                for (int to = 0; to < land.villages; to++) {
                    int moved = foe & ~(1 << from) | 1 << to;
                    if (has(targets, to) && !canForceWin(land, own & ~(1 << to), moved, evening + 1, left - 1)) {
                        return false;
                    }
                }
            }
            return true;
        }
    }
}
