import java.util.ArrayList;
import java.util.Arrays;
import java.util.HashSet;
import java.util.List;
import java.util.NoSuchElementException;
import java.util.Set;

/**
 * The document once more, as plainly as can be and without a thought of speed:
 * arrays of stones, whole copies of the state, trees of expressions, no bits but
 * in answers. ModelRuns holds the program against it.
 */
final class PlainModel {
    static final class Fault extends RuntimeException {
        private static final long serialVersionUID = 1;

        final int code;
        final int place;

        Fault(int code, int place) {
            this.code = code;
            this.place = place;
        }
    }

    record Token(char kind, String text, int place) {
    }

    interface Expr {
        int of(State s, int from, int to);
    }

    static final class World {
        final List<int[]> villages = new ArrayList<>();
        final List<int[]> roads = new ArrayList<>();
        final List<Expr> styles = new ArrayList<>();
        Expr takes = null;

        boolean road(int a, int b) {
            for (int[] r : roads) {
                if (r[0] == a && r[1] == b || r[0] == b && r[1] == a) {
                    return true;
                }
            }
            return false;
        }
    }

    static final class State {
        final World world;
        int[] stone;
        int[] flag;
        int[] treasury = {0, 0};
        int[] style = {-1, -1};
        int[][] book;
        int evening = 0;
        int turn = 0;

        State(World world) {
            this.world = world;
            int n = world.villages.size();
            stone = new int[n];
            flag = new int[n];
            book = new int[2][n];
            for (int v = 0; v < n; v++) {
                stone[v] = world.villages.get(v)[2];
                flag[v] = stone[v];
            }
            if (world.styles.size() > 0) {
                style[0] = 0;
                style[1] = world.styles.size() > 1 ? 1 : 0;
            }
        }

        State copy() {
            State s = new State(world);
            s.stone = stone.clone();
            s.flag = flag.clone();
            s.treasury = treasury.clone();
            s.style = style.clone();
            s.book = new int[][] {book[0].clone(), book[1].clone()};
            s.evening = evening;
            s.turn = turn;
            return s;
        }

        int n() {
            return stone.length;
        }

        int worth(int v) {
            return world.villages.get(v)[0];
        }

        boolean may(int from, int to) {
            if (stone[from] == 2 || !world.road(from, to) || stone[to] == stone[from]) {
                return false;
            }
            if (stone[to] == 2) {
                return true;
            }
            if (world.takes != null) {
                return world.takes.of(this, from, to) > 0;
            }
            return value("helps", from, to) > value("guards", from, to) + value("fort", from, to) - 1;
        }

        int value(String name, int from, int to) {
            int me = stone[from];
            int sum = 0;
            switch (name) {
                case "helps":
                    for (int v = 0; v < n(); v++) {
                        if (v != from && stone[v] == me && world.road(v, to)) {
                            sum++;
                        }
                    }
                    return sum;
                case "guards":
                    for (int v = 0; v < n(); v++) {
                        if (stone[v] == 1 - me && world.road(v, to)) {
                            sum++;
                        }
                    }
                    return sum;
                case "fort": return world.villages.get(to)[1];
                case "worth": return worth(to);
                case "home": return worth(from);
                case "takes": return stone[to] == 1 - me ? 1 : 0;
                case "turns": return flag[to] == me ? 0 : 1;
                case "evening": return evening;
                default: throw new IllegalStateException(name);
            }
        }

        List<int[]> moves(int side) {
            List<int[]> all = new ArrayList<>();
            for (int f = 0; f < n(); f++) {
                for (int t = 0; t < n(); t++) {
                    if (stone[f] == side && may(f, t)) {
                        all.add(new int[] {f, t});
                    }
                }
            }
            return all;
        }

        void shift(int from, int to) {
            stone[to] = stone[from];
            stone[from] = 2;
            flag[to] = stone[to];
        }

        /** A whole evening of the side whose turn it is; null is a pass. */
        State after(int[] move) {
            State s = copy();
            if (move != null) {
                s.shift(move[0], move[1]);
            }
            for (int v = 0; v < n(); v++) {
                int f = s.flag[v];
                if (f < 2) {
                    s.treasury[f] = Math.min(9999, s.treasury[f] + worth(v));
                    s.book[f][v]++;
                }
            }
            s.evening++;
            s.turn = 1 - s.turn;
            return s;
        }

        int[] byStyle() {
            if (style[turn] < 0) {
                return null;
            }
            int[] best = null;
            int most = 0;
            for (int[] m : moves(turn)) {
                int g = world.styles.get(style[turn]).of(this, m[0], m[1]);
                if (g > most) {
                    most = g;
                    best = m;
                }
            }
            return best;
        }

        Set<Integer> enPrise(int side) {
            Set<Integer> set = new HashSet<>();
            for (int[] m : moves(1 - side)) {
                if (stone[m[1]] == side) {
                    set.add(m[1]);
                }
            }
            return set;
        }

        int lead(int side) {
            int sum = 0;
            for (int v = 0; v < n(); v++) {
                sum += flag[v] == side ? worth(v) : flag[v] == 1 - side ? -worth(v) : 0;
            }
            return sum;
        }

        /** For the side whose turn it is. */
        int look(int evenings) {
            if (evenings == 0) {
                return lead(turn);
            }
            int best = -after(null).look(evenings - 1);
            for (int[] m : moves(turn)) {
                best = Math.max(best, -after(m).look(evenings - 1));
            }
            return best;
        }

        int stones(int side) {
            int sum = 0;
            for (int s : stone) {
                sum += s == side ? 1 : 0;
            }
            return sum;
        }

        /** Whether this side leaves the other one without stones within so many evenings, whoever's turn it is. */
        boolean forced(int side, int evenings) {
            if (stones(1 - side) == 0) {
                return true;
            }
            if (evenings == 0) {
                return false;
            }
            boolean mine = turn == side;
            List<int[]> all = moves(turn);
            all.add(null);
            for (int[] m : all) {
                if (after(m).forced(side, evenings - 1) == mine) {
                    return mine;
                }
            }
            return !mine;
        }

        State asTurnOf(int side) {
            State s = copy();
            s.turn = side;
            return s;
        }
    }

    // ---- the text

    static final class TextReader {
        final List<Token> tokens = new ArrayList<>();
        final World world = new World();
        int at = 0;

        TextReader(String text) {
            int i = 0;
            while (i < text.length()) {
                char c = text.charAt(i);
                int j = i + 1;
                if (c == ' ' || c == '\n') {
                    i++;
                    continue;
                }
                char kind = '?';
                if (c >= 'a' && c <= 'z') {
                    kind = 'w';
                    while (j < text.length() && text.charAt(j) >= 'a' && text.charAt(j) <= 'z') {
                        j++;
                    }
                } else if (c >= '0' && c <= '9') {
                    kind = 'n';
                    while (j < text.length() && text.charAt(j) >= '0' && text.charAt(j) <= '9') {
                        j++;
                    }
                } else if (";()+-*/<=".indexOf(c) >= 0) {
                    kind = c;
                }
                tokens.add(new Token(kind, text.substring(i, j), i));
                i = j;
            }
            tokens.add(new Token('e', "", text.length()));
        }

        Token here() {
            return tokens.get(at);
        }

        Fault fault(int code) {
            return new Fault(code, here().place());
        }

        boolean word(String w) {
            return here().kind() == 'w' && here().text().equals(w);
        }

        World board() {
            while (here().kind() != 'e') {
                line();
            }
            return world;
        }

        void line() {
            if (here().kind() != 'w') {
                throw fault(1);
            }
            switch (here().text()) {
                case "north": village(0); break;
                case "south": village(1); break;
                case "free": village(2); break;
                case "road": road(); break;
                case "takes":
                    if (world.takes != null) {
                        throw fault(5);
                    }
                    at++;
                    world.takes = expr(1);
                    break;
                case "style":
                    if (world.styles.size() == 3) {
                        throw fault(2);
                    }
                    at++;
                    world.styles.add(expr(1));
                    break;
                default: throw fault(1);
            }
            if (here().kind() != ';') {
                throw fault(1);
            }
            at++;
        }

        int number(int most) {
            if (here().kind() != 'n') {
                throw fault(1);
            }
            if (here().text().length() > 4 || Integer.parseInt(here().text()) > most) {
                throw fault(2);
            }
            return Integer.parseInt(tokens.get(at++).text());
        }

        void village(int stone) {
            if (world.villages.size() == 10) {
                throw fault(2);
            }
            at++;
            int worth = number(20);
            int fort = number(9);
            world.villages.add(new int[] {worth, fort, stone});
        }

        void road() {
            if (world.roads.size() == 18) {
                throw fault(2);
            }
            at++;
            int a = number(9999);
            if (a >= world.villages.size()) {
                at--;
                throw fault(3);
            }
            int b = number(9999);
            if (b >= world.villages.size()) {
                at--;
                throw fault(3);
            }
            if (a == b || world.road(a, b)) {
                at--;
                throw fault(4);
            }
            world.roads.add(new int[] {a, b});
        }

        Expr expr(int nth) {
            if (nth > 6 && (here().kind() == 'w' || here().kind() == 'n' || here().kind() == '(')) {
                throw fault(2);
            }
            Expr left = and(nth);
            while (word("or")) {
                at++;
                Expr l = left;
                Expr r = and(nth);
                left = (s, f, t) -> l.of(s, f, t) != 0 || r.of(s, f, t) != 0 ? 1 : 0;
            }
            return left;
        }

        Expr and(int nth) {
            Expr left = not(nth, 1);
            while (word("and")) {
                at++;
                Expr l = left;
                Expr r = not(nth, 1);
                left = (s, f, t) -> l.of(s, f, t) != 0 && r.of(s, f, t) != 0 ? 1 : 0;
            }
            return left;
        }

        Expr not(int nth, int many) {
            if (word("not")) {
                if (many == 7) {
                    throw fault(2);
                }
                at++;
                Expr e = not(nth, many + 1);
                return (s, f, t) -> e.of(s, f, t) == 0 ? 1 : 0;
            }
            Expr l = sum(nth);
            char k = here().kind();
            if (k != '<' && k != '=') {
                return l;
            }
            at++;
            Expr r = sum(nth);
            return k == '<' ? (s, f, t) -> l.of(s, f, t) < r.of(s, f, t) ? 1 : 0
                    : (s, f, t) -> l.of(s, f, t) == r.of(s, f, t) ? 1 : 0;
        }

        Expr sum(int nth) {
            Expr left = product(nth);
            while (here().kind() == '+' || here().kind() == '-') {
                boolean plus = here().kind() == '+';
                at++;
                Expr l = left;
                Expr r = product(nth);
                left = plus ? (s, f, t) -> l.of(s, f, t) + r.of(s, f, t)
                        : (s, f, t) -> l.of(s, f, t) - r.of(s, f, t);
            }
            return left;
        }

        Expr product(int nth) {
            Expr left = part(nth);
            while (here().kind() == '*' || here().kind() == '/') {
                boolean times = here().kind() == '*';
                at++;
                Expr l = left;
                Expr r = part(nth);
                left = (s, f, t) -> {
                    int a = l.of(s, f, t);
                    int b = r.of(s, f, t);
                    return times ? a * b : b == 0 ? 0 : a / b;
                };
            }
            return left;
        }

        Expr part(int nth) {
            Token here = here();
            if (here.kind() == '(') {
                at++;
                Expr e = expr(nth + 1);
                if (here().kind() != ')') {
                    throw fault(1);
                }
                at++;
                return e;
            }
            if (here.kind() == 'n') {
                int n = number(9999);
                return (s, f, t) -> n;
            }
            if (here.kind() != 'w') {
                throw fault(1);
            }
            if (!Arrays.asList("helps", "guards", "fort", "worth", "home", "takes", "turns", "evening")
                    .contains(here.text())) {
                throw fault(3);
            }
            at++;
            return (s, f, t) -> s.value(here.text(), f, t);
        }
    }

    // ---- the face

    private final StringBuilder tape = new StringBuilder();
    private int faultPlace = -1;
    private final int[] status = {0, 0, 0};
    private State now = new State(new World());
    private List<State> acts = new ArrayList<>();
    private List<int[]> seen = new ArrayList<>();
    private State imageState = null;
    private List<State> imageActs = null;
    private List<int[]> imageSeen = null;

    private void village(int v) {
        if (v < 0 || v >= now.n()) {
            throw new NoSuchElementException();
        }
    }

    private void need(boolean good) {
        if (!good) {
            throw new NoSuchElementException();
        }
    }

    private void range(boolean good) {
        if (!good) {
            throw new IllegalArgumentException();
        }
    }

    private static int bits(Iterable<Integer> set) {
        int all = 0;
        for (int v : set) {
            all |= 1 << v;
        }
        return all;
    }

    private static int code(int[] move) {
        return move == null ? -1 : 100 * move[0] + move[1];
    }

    private void act(State next) {
        acts.add(now);
        if (acts.size() > 40) {
            acts.remove(0);
        }
        now = next;
    }

    public int feed(int a, int b, int c, int d, int e) {
        if (tape.length() + 20 > 700) {
            return -1;
        }
        for (int x : new int[] {a, b, c, d, e}) {
            tape.append((char) (x >>> 24)).append((char) (x >>> 16 & 255));
            tape.append((char) (x >>> 8 & 255)).append((char) (x & 255));
        }
        return tape.length();
    }

    public int board(int n) {
        range(n >= 0 && n <= tape.length());
        String text = tape.substring(0, n);
        tape.setLength(0);
        try {
            now = new State(new TextReader(text).board());
        } catch (Fault f) {
            status[0]++;
            faultPlace = f.place;
            return f.code;
        }
        faultPlace = -1;
        acts.clear();
        seen.clear();
        imageState = null;
        return 0;
    }

    public int fault() {
        return faultPlace;
    }

    public int count(int what) {
        need(what >= 0 && what <= 14);
        switch (what) {
            case 0: return now.n();
            case 1: return now.world.roads.size();
            case 2: return now.world.styles.size();
            case 3: return now.evening;
            case 4: return now.turn;
            case 9: return acts.size();
            case 10: return seen.size();
            case 11: return tape.length();
            case 12: case 13: case 14: return status[what - 12];
            default: break;
        }
        int all = 0;
        for (int v = 0; v < now.n(); v++) {
            int whose = what < 7 ? now.stone[v] : now.flag[v];
            all |= whose == (what - 5) % 2 ? 1 << v : 0;
        }
        return all;
    }

    public int village(int v, int what) {
        village(v);
        need(what >= 0 && what <= 6);
        int roads = 0;
        for (int[] r : now.world.roads) {
            roads += r[0] == v || r[1] == v ? 1 : 0;
        }
        int[] all = {now.worth(v), now.world.villages.get(v)[1], now.stone[v], now.flag[v], roads,
            now.book[0][v], now.book[1][v]};
        return all[what];
    }

    private Set<Integer> hanging(int v) {
        Set<Integer> set = new HashSet<>();
        int side = now.stone[v];
        if (side < 2) {
            State s = now.copy();
            s.stone[v] = 2;
            set.addAll(s.enPrise(side));
            set.removeAll(now.enPrise(side));
        }
        return set;
    }

    public int side(int side, int what) {
        need(side == 0 || side == 1);
        need(what >= 0 && what <= 5);
        switch (what) {
            case 0: return now.treasury[side];
            case 1: return now.style[side];
            case 2: return bits(now.enPrise(side));
            case 4: return now.moves(side).size();
            default: break;
        }
        int all = 0;
        for (int v = 0; v < now.n(); v++) {
            if (what == 3 && now.stone[v] == side && !hanging(v).isEmpty()) {
                all |= 1 << v;
            }
            if (what == 5 && now.flag[v] == side) {
                all += now.worth(v);
            }
        }
        return all;
    }

    public boolean road(int a, int b) {
        village(a);
        village(b);
        return now.world.road(a, b);
    }

    public boolean lawful(int from, int to) {
        village(from);
        village(to);
        return now.may(from, to);
    }

    private boolean mayNow(int from, int to) {
        return now.stone[from] == now.turn && now.may(from, to);
    }

    public int move(int from, int to) {
        village(from);
        village(to);
        if (now.evening + 1 > 999 || !mayNow(from, to)) {
            status[1]++;
            return -1;
        }
        int taken = now.stone[to] == 2 ? 0 : 1;
        act(now.after(new int[] {from, to}));
        return taken;
    }

    public int pass() {
        if (now.evening + 1 > 999) {
            status[1]++;
            return -1;
        }
        act(now.after(null));
        return now.evening;
    }

    public boolean fly(int from, int to) {
        village(from);
        village(to);
        if (now.stone[from] == 2 || now.stone[to] != 2) {
            status[1]++;
            return false;
        }
        State s = now.copy();
        s.shift(from, to);
        act(s);
        return true;
    }

    public int teach(int side, int style) {
        need(side == 0 || side == 1);
        if (style < -1 || style >= now.world.styles.size()) {
            status[1]++;
            return -2;
        }
        State s = now.copy();
        s.style[side] = style;
        act(s);
        return acts.get(acts.size() - 1).style[side];
    }

    public int play(int many) {
        if (many < 1 || many > 30 || now.evening + many > 999) {
            status[1]++;
            return -1;
        }
        act(later(now, many));
        return now.evening;
    }

    private static State later(State s, int many) {
        State at = s;
        for (int i = 0; i < many; i++) {
            at = at.after(at.byStyle());
        }
        return at;
    }

    public int undo() {
        if (acts.isEmpty()) {
            return -1;
        }
        now = acts.remove(acts.size() - 1);
        return acts.size();
    }

    public int hangs(int v) {
        village(v);
        return bits(hanging(v));
    }

    public int look(int evenings, int what) {
        need(what == 0 || what == 1);
        range(evenings >= 0 && evenings <= 3);
        if (what == 0) {
            return now.look(evenings);
        }
        List<int[]> all = now.moves(now.turn);
        all.add(null);
        for (int[] m : all) {
            if (evenings > 0 && -now.after(m).look(evenings - 1) == now.look(evenings)) {
                return code(m);
            }
        }
        return -1;
    }

    public int win() {
        if (now.stones(1 - now.turn) == 0) {
            return -1;
        }
        for (int i = 1; i <= 3; i++) {
            if (now.forced(now.turn, i)) {
                return i;
            }
        }
        return -1;
    }

    private int walk(int from, int to) {
        int[] far = new int[now.n()];
        Arrays.fill(far, -1);
        far[from] = 0;
        for (int round = 0; round < now.n(); round++) {
            for (int a = 0; a < now.n(); a++) {
                for (int b = 0; b < now.n(); b++) {
                    if (far[a] == round && far[b] < 0 && now.world.road(a, b) && now.stone[b] == 2) {
                        far[b] = round + 1;
                    }
                }
            }
        }
        return far[to];
    }

    public int journey(int from, int to) {
        village(from);
        village(to);
        return now.stone[from] == 2 ? -1 : walk(from, to);
    }

    public int played(int i) {
        need(i >= 0 && i <= 29);
        return code(later(now, i).byStyle());
    }

    public int turned(int v) {
        village(v);
        for (int k = 1; k <= 30; k++) {
            if (later(now, k).flag[v] != now.flag[v]) {
                return k;
            }
        }
        return -1;
    }

    public int treasury(int side, int evenings) {
        need(side == 0 || side == 1);
        range(evenings >= 0 && evenings <= 30);
        return later(now, evenings).treasury[side];
    }

    public int gift(int from, int to) {
        village(from);
        village(to);
        int style = now.style[now.turn];
        if (style < 0 || !mayNow(from, to)) {
            return -1;
        }
        Expr e = now.world.styles.get(style);
        for (int gift = 0; gift <= 9999; gift++) {
            long most = 0;
            int best = -1;
            for (int[] m : now.moves(now.turn)) {
                boolean it = m[0] == from && m[1] == to;
                long g = (long) e.of(now, m[0], m[1]) + (it ? gift : 0);
                if (g > most) {
                    most = g;
                    best = code(m);
                }
            }
            if (best == 100 * from + to) {
                return gift;
            }
        }
        return -1;
    }

    public int plant(int v, int what) {
        village(v);
        need(what >= 0 && what <= 2);
        if (now.stone[v] == 2) {
            return -1;
        }
        int takers = 0;
        int all = 1;
        for (int[] m : now.moves(1 - now.stone[v])) {
            takers += m[1] == v ? 1 : 0;
            all++;
        }
        double asparagus = 6.0 * (all - takers) / all;
        return what == 0 ? takers : what == 1 ? all : asparagus > 2 + 1e-9 ? 1 : 0;
    }

    public int see(int i, int from, int to) {
        village(from);
        village(to);
        if (seen.size() == 6 || i < 0 || i > 29) {
            status[2]++;
            return -1;
        }
        seen.add(new int[] {i, from == to ? -1 : 100 * from + to});
        return seen.size();
    }

    public void forget() {
        seen.clear();
    }

    private List<int[]> couples() {
        List<int[]> all = new ArrayList<>();
        int n = now.world.styles.size();
        for (int a = 0; a < n; a++) {
            for (int b = 0; b < n; b++) {
                State s = now.copy();
                s.style = new int[] {a, b};
                boolean fits = true;
                for (int[] sight : seen) {
                    fits &= code(later(s, sight[0]).byStyle()) == sight[1];
                }
                if (fits) {
                    all.add(new int[] {a, b});
                }
            }
        }
        return all;
    }

    public int styles(int what) {
        need(what == 0 || what == 1);
        List<int[]> all = couples();
        return what == 0 ? all.size() : all.isEmpty() ? -1 : 10 * all.get(0)[0] + all.get(0)[1];
    }

    public int next(int what) {
        need(what == 0 || what == 1);
        int best = -1;
        int most = 0;
        List<int[]> all = couples();
        for (int i = 0; i < 30; i++) {
            Set<Integer> moves = new HashSet<>();
            for (int[] couple : all) {
                State s = now.copy();
                s.style = couple.clone();
                moves.add(code(later(s, i).byStyle()));
            }
            if (moves.size() > most) {
                most = moves.size();
                best = i;
            }
        }
        return what == 0 ? best : most;
    }

    public boolean treaty() {
        for (int side = 0; side < 2; side++) {
            State s = now.asTurnOf(side);
            for (int[] m : s.moves(side)) {
                if (-s.after(m).look(1) > -s.after(null).look(1)) {
                    return false;
                }
            }
        }
        return true;
    }

    public int game(int style, int other, int what) {
        int n = now.world.styles.size();
        need(style >= 0 && style < n && other >= 0 && other < n && what >= 0 && what <= 1);
        range(style != other);
        int[] told = {style, other};
        int[][][] gain = new int[2][2][2];
        for (int a = 0; a < 2; a++) {
            for (int b = 0; b < 2; b++) {
                State s = now.copy();
                s.style = new int[] {told[a], told[b]};
                State end = later(s, 10);
                gain[a][b][0] = end.treasury[0] - now.treasury[0];
                gain[a][b][1] = end.treasury[1] - now.treasury[1];
            }
        }
        List<Integer> rest = new ArrayList<>();
        for (int a = 0; a < 2; a++) {
            for (int b = 0; b < 2; b++) {
                if (gain[1 - a][b][0] <= gain[a][b][0] && gain[a][1 - b][1] <= gain[a][b][1]) {
                    rest.add(10 * a + b);
                }
            }
        }
        return what == 0 ? rest.size() : rest.isEmpty() ? -1 : rest.get(0);
    }

    public int years(int seed, int n, int what) {
        need(what >= 0 && what <= 2);
        range(n >= 0 && n <= 60);
        State s = now;
        long at = seed;
        for (int i = 0; i < n; i++) {
            at = (int) (at * 1103515245L + 12345L);
            List<int[]> all = s.moves(s.turn);
            all.add(null);
            int bits = (int) ((at & 0xffffffffL) / 65536 % 32768);
            s = s.after(all.get(bits % all.size()));
        }
        return what == 0 ? s.stones(0) + s.stones(1) : s.treasury[what - 1];
    }

    public int owes(int side) {
        need(side == 0 || side == 1);
        int sum = 0;
        for (int v = 0; v < now.n(); v++) {
            sum += now.flag[v] == side ? now.worth(v) * now.book[1 - side][v] : 0;
        }
        return sum;
    }

    public int front() {
        int sum = 0;
        for (int[] r : now.world.roads) {
            int a = now.flag[r[0]];
            int b = now.flag[r[1]];
            sum += a == 0 && b == 1 || a == 1 && b == 0 ? 1 : 0;
        }
        return sum;
    }

    public int parts(int side) {
        need(side == 0 || side == 1);
        int[] part = new int[now.n()];
        for (int v = 0; v < now.n(); v++) {
            part[v] = v;
        }
        for (int round = 0; round < now.n(); round++) {
            for (int[] r : now.world.roads) {
                if (now.flag[r[0]] == side && now.flag[r[1]] == side) {
                    int least = Math.min(part[r[0]], part[r[1]]);
                    part[r[0]] = least;
                    part[r[1]] = least;
                }
            }
        }
        Set<Integer> names = new HashSet<>();
        for (int v = 0; v < now.n(); v++) {
            if (now.flag[v] == side) {
                names.add(part[v]);
            }
        }
        return names.size();
    }

    public int safe(int v) {
        village(v);
        Set<Integer> set = new HashSet<>();
        int side = now.stone[v];
        for (int to = 0; to < now.n(); to++) {
            if (side < 2 && now.may(v, to)) {
                State s = now.asTurnOf(side).after(new int[] {v, to});
                if (!s.enPrise(side).contains(to)) {
                    set.add(to);
                }
            }
        }
        return bits(set);
    }

    public int reach(int v) {
        village(v);
        Set<Integer> set = new HashSet<>();
        for (int to = 0; to < now.n(); to++) {
            if (now.stone[v] < 2 && now.stone[to] == 2 && walk(v, to) > 0) {
                set.add(to);
            }
        }
        return bits(set);
    }

    public int guard(int v) {
        village(v);
        int side = now.stone[v];
        if (side == 2) {
            return -1;
        }
        int best = -1;
        for (int set = 0; set < 1 << now.n(); set++) {
            State s = now.copy();
            boolean free = true;
            for (int x = 0; x < now.n(); x++) {
                if ((set >> x & 1) == 1) {
                    free &= s.stone[x] == 2;
                    s.stone[x] = side;
                }
            }
            if (free && !s.enPrise(side).contains(v)
                    && (best < 0 || Integer.bitCount(set) < Integer.bitCount(best))) {
                best = set;
            }
        }
        return best;
    }

    public int key(int side) {
        need(side == 0 || side == 1);
        int best = -1;
        int most = 0;
        for (int v = 0; v < now.n(); v++) {
            if (now.stone[v] == side && hanging(v).size() > most) {
                most = hanging(v).size();
                best = v;
            }
        }
        return best;
    }

    public int fork() {
        int best = -1;
        int most = 1;
        for (int[] m : now.moves(now.turn)) {
            int many = now.after(m).enPrise(1 - now.turn).size();
            if (many > most) {
                most = many;
                best = code(m);
            }
        }
        return best;
    }

    public int regret(int from, int to) {
        village(from);
        village(to);
        if (!mayNow(from, to)) {
            return -1;
        }
        return now.look(2) + now.after(new int[] {from, to}).look(1);
    }

    public int whose(int v) {
        village(v);
        int c = Integer.compare(now.book[0][v], now.book[1][v]);
        return c > 0 ? 0 : c < 0 ? 1 : 2;
    }

    public void image() {
        imageState = now;
        imageActs = new ArrayList<>(acts);
        imageSeen = new ArrayList<>(seen);
    }

    public boolean restore() {
        if (imageState == null) {
            return false;
        }
        now = imageState;
        acts = new ArrayList<>(imageActs);
        seen = new ArrayList<>(imageSeen);
        return true;
    }
}
