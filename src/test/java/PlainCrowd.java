import java.util.ArrayList;
import java.util.List;

/**
 * The document once more, as plainly as it can be written and without regard to speed or room: nothing is kept
 * that can be worked out again. AgainstPlainTest sets CrowdOut against it.
 */
final class PlainCrowd {
    private static final class Traveller {
        int folk, link, direction, due, heads;
    }

    int tick;
    int pace = 150, tight = 100, longer = 5;
    final List<int[]> areas = new ArrayList<>();   // kind, room, push, fell, peak, first fell, waits
    final List<int[]> links = new ArrayList<>();   // a, b, far, open, way, steps, hears, wide, went in this tick
    final List<int[]> folks = new ArrayList<>();   // home, heads, goal, kind, turned, out, last out
    final List<int[]> in = new ArrayList<>();      // of each folk: heads in the areas
    final List<int[]> trains = new ArrayList<>();  // area, first, every, takes, held
    final List<Traveller> travellers = new ArrayList<>();
    final List<String> orders = new ArrayList<>();
    final List<boolean[]> orderState = new ArrayList<>(); // stands, held as the last tick ended
    final List<int[]> given = new ArrayList<>();   // order, tick, act, number, heard
    final List<int[]> tellings = new ArrayList<>(); // link, tick, heads, told
    final List<int[]> went = new ArrayList<>();    // tick, link, heads
    final List<int[]> options = new ArrayList<>();
    final int[] refused = new int[7];
    String tape = "";
    int taken;
    int block = -1;

    PlainCrowd copy() {
        PlainCrowd c = new PlainCrowd();
        c.tick = tick;
        c.pace = pace;
        c.tight = tight;
        c.longer = longer;
        for (int[] x : areas) c.areas.add(x.clone());
        for (int[] x : links) c.links.add(x.clone());
        for (int[] x : folks) c.folks.add(x.clone());
        for (int[] x : in) c.in.add(x.clone());
        for (int[] x : trains) c.trains.add(x.clone());
        for (Traveller t : travellers) c.add(t.folk, t.link, t.direction, t.due, t.heads);
        c.orders.addAll(orders);
        for (boolean[] x : orderState) c.orderState.add(x.clone());
        for (int[] x : given) c.given.add(x.clone());
        c.taken = taken;
        return c;
    }

    private void add(int folk, int link, int direction, int due, int heads) {
        Traveller t = new Traveller();
        t.folk = folk;
        t.link = link;
        t.direction = direction;
        t.due = due;
        t.heads = heads;
        travellers.add(t);
    }

    private int no(int n) {
        refused[-n]++;
        return n;
    }

    private static boolean has(List<?> list, int i) {
        return i >= 0 && i < list.size();
    }

    private boolean goal(int a) {
        return has(areas, a) && areas.get(a)[0] == 3;
    }

    private int heads(int a) {
        int n = 0;
        for (int[] row : in) n += row[a];
        return n;
    }

    private int press(int a) {
        return goal(a) ? 0 : 100 * heads(a) / areas.get(a)[1];
    }

    // ---- ways

    private boolean leads(int l, int from, boolean wheels) {
        int[] k = links.get(l);
        if (l == block || k[3] == 0 || wheels && k[5] == 1) return false;
        return k[0] == from && k[4] != 2 || k[1] == from && k[4] != 1;
    }

    private int end(int l, int from) {
        return links.get(l)[0] == from ? links.get(l)[1] : links.get(l)[0];
    }

    private int time(int l, int from) {
        return links.get(l)[2] + (press(end(l, from)) >= tight ? longer : 0);
    }

    /** Floyd and Warshall's way, another than CrowdOut's. */
    private int[] timesTo(int target, boolean wheels) {
        int n = areas.size();
        int far = 1_000_000;
        int[][] d = new int[n][n];
        for (int i = 0; i < n; i++)
            for (int j = 0; j < n; j++) d[i][j] = i == j ? 0 : far;
        for (int l = 0; l < links.size(); l++)
            for (int a = 0; a < n; a++)
                if (leads(l, a, wheels)) d[a][end(l, a)] = Math.min(d[a][end(l, a)], time(l, a));
        for (int k = 0; k < n; k++)
            for (int i = 0; i < n; i++)
                for (int j = 0; j < n; j++) d[i][j] = Math.min(d[i][j], d[i][k] + d[k][j]);
        int[] to = new int[n];
        for (int i = 0; i < n; i++) to[i] = d[i][target] >= far ? -9 : d[i][target];
        return to;
    }

    private int first(int area, int target, boolean wheels) {
        int[] to = timesTo(target, wheels);
        if (area == target || to[area] < 0) return -9;
        for (int l = 0; l < links.size(); l++)
            if (leads(l, area, wheels) && to[end(l, area)] >= 0
                    && to[area] == time(l, area) + to[end(l, area)]) return l;
        throw new IllegalStateException("a way without a first link");
    }

    // ---- a tick

    private void pass() {
        tick++;
        for (int[] k : links) k[8] = 0;
        for (int[] g : new ArrayList<>(given)) if (g[4] == tick) perform(g[2], g[3]);
        int[][] came = new int[folks.size()][areas.size()];
        for (Traveller t : new ArrayList<>(travellers)) {
            if (t.due != tick) continue;
            travellers.remove(t);
            int a = links.get(t.link)[t.direction == 0 ? 1 : 0];
            int[] f = folks.get(t.folk);
            if (f[4] == 0 && f[2] == a) {
                f[5] += t.heads;
                f[6] = tick;
                areas.get(a)[6] += t.heads;
            } else {
                in.get(t.folk)[a] += t.heads;
                came[t.folk][a] += t.heads;
            }
        }
        for (int f = 0; f < folks.size(); f++)
            for (int a = 0; a < areas.size(); a++) go(f, a, in.get(f)[a] - came[f][a]);
        for (int a = 0; a < areas.size(); a++) push(a);
        for (int[] t : trains) {
            if (t[4] == 1 || tick < t[1] || (tick - t[1]) % t[2] != 0) continue;
            int n = Math.min(t[3], areas.get(t[0])[6]);
            areas.get(t[0])[6] -= n;
            taken += n;
        }
        for (int o = 0; o < orders.size(); o++) ask(o);
        for (int l = 0; l < links.size(); l++) went.add(new int[] {tick, l, links.get(l)[8]});
    }

    private void perform(int act, int n) {
        if (act <= 2 && has(links, n)) links.get(n)[3] = act == 1 ? 1 : 0;
        if ((act == 3 || act == 4) && has(trains, n)) trains.get(n)[4] = act == 3 ? 1 : 0;
        if (act == 5 && has(folks, n)) folks.get(n)[4] ^= 1;
    }

    private void go(int f, int a, int there) {
        int[] folk = folks.get(f);
        int target = folk[4] == 1 ? folk[0] : folk[2];
        if (there <= 0 || a == target) return;
        int l = first(a, target, folk[3] == 2);
        if (l < 0) return;
        int[] k = links.get(l);
        int e = end(l, a);
        int room = 1_000_000;
        if (!goal(e)) {
            room = areas.get(e)[1] * pace / 100 - heads(e);
            for (Traveller t : travellers) if (links.get(t.link)[t.direction == 0 ? 1 : 0] == e) room -= t.heads;
        }
        int left = Math.max(0, k[7] - k[8]);
        int n;
        if (folk[3] == 1) {
            n = there <= room && (there <= left || there > k[7] && k[8] == 0) ? there : 0;
        } else {
            n = Math.max(0, Math.min(there, Math.min(left, room)));
        }
        if (n == 0) return;
        k[8] += n;
        in.get(f)[a] -= n;
        add(f, l, k[0] == a ? 0 : 1, tick + k[2], n);
    }

    private void push(int a) {
        int[] x = areas.get(a);
        int p = press(a);
        x[2] = p >= 120 ? x[2] + 1 : 0;
        x[4] = Math.max(x[4], p);
        if (x[2] < 3) return;
        int n = Math.max(0, Math.min((p - 110) / 10, heads(a) - x[3]));
        if (n > 0 && x[5] == -9) x[5] = tick;
        x[3] += n;
    }

    private void ask(int o) {
        boolean[] s = orderState.get(o);
        if (!s[0]) {
            s[1] = false;
            return;
        }
        boolean now = truth(o);
        if (now && !s[1]) {
            String text = orders.get(o);
            for (String act : text.substring(text.indexOf(':') + 1).split(";")) {
                if (given.size() >= 200) continue;
                int kind = "oskgb".indexOf(act.charAt(0)) + 1;
                int n = Integer.parseInt(act.substring(1));
                int later = kind <= 2 && has(links, n) ? links.get(n)[6] : 0;
                given.add(new int[] {o, tick, kind, n, tick + later + 1});
            }
        }
        s[1] = now;
    }

    // ---- orders: worked out from the text each time

    private boolean truth(int o) {
        String text = orders.get(o);
        return ors(text.substring(0, text.indexOf(':')));
    }

    private boolean ors(String s) {
        int cut = topLevel(s, '|');
        if (cut >= 0) return ors(s.substring(0, cut)) | ors(s.substring(cut + 1));
        cut = topLevel(s, '&');
        if (cut >= 0) return ors(s.substring(0, cut)) & ors(s.substring(cut + 1));
        if (s.charAt(0) == '!') return !ors(s.substring(1));
        if (s.charAt(0) == '(') return ors(s.substring(1, s.length() - 1));
        for (int i = 0; i < s.length(); i++) {
            char c = s.charAt(i);
            if (c != '<' && c != '=' && c != '>') continue;
            int left = sum(s.substring(0, i));
            int right = sum(s.substring(i + 1));
            return c == '<' ? left < right : c == '=' ? left == right : left > right;
        }
        throw new IllegalStateException(s);
    }

    private static int topLevel(String s, char sign) {
        int deep = 0;
        for (int i = 0; i < s.length(); i++) {
            char c = s.charAt(i);
            if (c == '(') deep++;
            if (c == ')') deep--;
            if (c == sign && deep == 0) return i;
        }
        return -1;
    }

    private int sum(String s) {
        for (int i = s.length() - 1; i >= 0; i--) {
            char c = s.charAt(i);
            if (c == '+') return sum(s.substring(0, i)) + sum(s.substring(i + 1));
            if (c == '-') return sum(s.substring(0, i)) - sum(s.substring(i + 1));
        }
        char c = s.charAt(0);
        if (c == 't') return tick;
        if (Character.isDigit(c)) return Integer.parseInt(s);
        int n = Integer.parseInt(s.substring(1));
        if (c == 'l') return has(links, n) ? links.get(n)[8] : 0;
        if (!has(areas, n)) return 0;
        return c == 'p' ? press(n) : c == 'h' ? heads(n) : c == 'u' ? areas.get(n)[2] : areas.get(n)[6];
    }

    /** The place of the first byte that can not stand, by states and a stack; -1 if there is none. */
    static int fault(String s) {
        StringBuilder open = new StringBuilder();
        String state = "test";
        String then = "";
        int digits = 0;
        for (int i = 0; i < s.length(); i++) {
            char c = s.charAt(i);
            boolean digit = c >= '0' && c <= '9';
            if (digits > 0 && !then.isEmpty()) {
                if (!digit) return i;
                digits--;
                if (digits == 0) {
                    state = then;
                    then = "";
                }
                continue;
            }
            boolean more = (state.equals("left") || state.equals("right")) && digits > 0 && digit;
            if (more) {
                digits--;
                continue;
            }
            digits = 0;
            switch (state) {
                case "test":
                    if (c == '!' || c == '(') {
                        if (open.length() == 4) return i;
                        open.append(c);
                        continue;
                    }
                    // falls through: a sum may begin
                case "unit left":
                case "unit right":
                    String side = state.equals("unit right") ? "right" : "left";
                    if (c == 't') {
                        state = side;
                    } else if (digit) {
                        state = side;
                        digits = 4;
                    } else if ("phulw".indexOf(c) >= 0) {
                        then = side;
                        digits = 2;
                    } else {
                        return i;
                    }
                    break;
                case "left":
                    if (c == '+' || c == '-') state = "unit left";
                    else if (c == '<' || c == '=' || c == '>') state = "unit right";
                    else return i;
                    break;
                case "right":
                    if (c == '+' || c == '-') {
                        state = "unit right";
                        break;
                    }
                    // falls through: a test has ended
                case "closed":
                    while (open.length() > 0 && open.charAt(open.length() - 1) == '!') open.setLength(open.length() - 1);
                    if (c == '&' || c == '|') {
                        state = "test";
                    } else if (c == ')' && open.length() > 0) {
                        open.setLength(open.length() - 1);
                        state = "closed";
                    } else if (c == ':' && open.length() == 0) {
                        state = "act";
                    } else {
                        return i;
                    }
                    break;
                case "act":
                    if ("oskgb".indexOf(c) < 0) return i;
                    then = "acted";
                    digits = 2;
                    break;
                default:
                    if (c != ';') return i;
                    state = "act";
            }
        }
        return state.equals("acted") && then.isEmpty() ? -1 : s.length();
    }

    // ---- the emptying

    private boolean over() {
        for (int f = 0; f < folks.size(); f++) {
            int[] x = folks.get(f);
            int home = x[4] == 1 ? in.get(f)[x[0]] : 0;
            if (x[5] + home != x[1]) return false;
        }
        return true;
    }

    private int fellAll() {
        int n = 0;
        for (int[] a : areas) n += a[3];
        return n;
    }

    private int[] emptying() {
        int before = fellAll();
        int[] answer = {-9, 0, -9, 0};
        for (int n = 0; n <= 300; n++) {
            if (n > 0) {
                pass();
                for (int a = 0; a < areas.size(); a++) {
                    if (answer[2] == -9 || press(a) > answer[1]) {
                        answer[1] = press(a);
                        answer[2] = a;
                    }
                }
            }
            if (over()) {
                answer[0] = n;
                break;
            }
        }
        answer[3] = fellAll() - before;
        return answer;
    }

    private int[] blocked(int b) {
        PlainCrowd c = copy();
        c.block = b;
        return c.emptying();
    }

    // ---- the face

    int area(int kind, int room) {
        if (kind < 0 || kind > 3) return no(-2);
        if (room < 1) return no(-4);
        if (room > 20000 || areas.size() == 20) return no(-6);
        areas.add(new int[] {kind, room, 0, 0, 0, -9, 0});
        for (int f = 0; f < in.size(); f++) in.set(f, java.util.Arrays.copyOf(in.get(f), areas.size()));
        return areas.size() - 1;
    }

    int link(int a, int b, int wide, int far) {
        if (!has(areas, a) || !has(areas, b) || a == b) return no(-1);
        if (wide < 1 || far < 1) return no(-4);
        if (wide > 999 || far > 9 || links.size() == 30) return no(-6);
        links.add(new int[] {a, b, far, 1, 0, 0, 0, wide, 0});
        return links.size() - 1;
    }

    private int linkNo(int link, int what, int v) {
        if (!has(links, link)) return -1;
        if (what < 0 || what > 4) return -2;
        if (v < (what == 4 ? 1 : 0)) return -4;
        int most = what == 0 || what == 2 ? 1 : what == 1 ? 2 : what == 3 ? 20 : 999;
        return v > most ? -6 : 0;
    }

    int linkSet(int link, int what, int v) {
        int n = linkNo(link, what, v);
        if (n < 0) return no(n);
        int was = links.get(link)[3 + what];
        links.get(link)[3 + what] = v;
        return was;
    }

    int folk(int area, int heads, int goal, int kind) {
        if (!has(areas, area) || !goal(goal)) return no(-1);
        if (kind < 0 || kind > 2) return no(-2);
        if (area == goal) return no(-3);
        if (heads < 1) return no(-4);
        if (heads > 9999 || folks.size() == 24 || heads(area) + heads > areas.get(area)[1]) return no(-6);
        folks.add(new int[] {area, heads, goal, kind, 0, 0, -9});
        int[] row = new int[areas.size()];
        row[area] = heads;
        in.add(row);
        return folks.size() - 1;
    }

    int train(int area, int first, int every, int takes) {
        if (!goal(area)) return no(-1);
        if (first < tick || every < 1 || takes < 1) return no(-4);
        if (first > 999 || every > 200 || takes > 9999 || trains.size() == 8) return no(-6);
        trains.add(new int[] {area, first, every, takes, 0});
        return trains.size() - 1;
    }

    int hold(int train, boolean on) {
        if (!has(trains, train)) return no(-1);
        int was = trains.get(train)[4];
        trains.get(train)[4] = on ? 1 : 0;
        return was == trains.get(train)[4] ? 0 : 1;
    }

    int set(int what, int v) {
        if (what < 0 || what > 2) return no(-2);
        if (v < new int[] {100, 10, 0}[what]) return no(-4);
        if (v > new int[] {300, 300, 50}[what]) return no(-6);
        int was = what == 0 ? pace : what == 1 ? tight : longer;
        if (what == 0) pace = v;
        if (what == 1) tight = v;
        if (what == 2) longer = v;
        return was;
    }

    int ticks(int n) {
        if (n < 1) return no(-4);
        if ((long) n + tick > 999) return no(-6);
        int before = total(5);
        for (int i = 0; i < n; i++) pass();
        return total(5) - before;
    }

    int areaOf(int area, int what) {
        if (!has(areas, area)) return no(-1);
        int[] x = areas.get(area);
        switch (what) {
            case 0: return x[0];
            case 1: return x[1];
            case 2: return heads(area);
            case 3: return press(area);
            case 4: return x[2];
            case 5: return x[3];
            case 6: return x[4];
            case 7: return x[5];
            default: return no(-2);
        }
    }

    private int onLink(int folk, int link) {
        int n = 0;
        for (Traveller t : travellers) if (t.folk == folk && t.link == link) n += t.heads;
        return n;
    }

    int folkOf(int folk, int what, int i) {
        if (!has(folks, folk)) return no(-1);
        if (what == 0 && !has(areas, i) || what == 1 && !has(links, i)) return no(-1);
        int[] x = folks.get(folk);
        switch (what) {
            case 0: return in.get(folk)[i];
            case 1: return onLink(folk, i);
            case 2: return x[5];
            case 3: return x[2];
            case 4: return x[5] == x[1] ? x[6] : -9;
            default: return no(-2);
        }
    }

    int next(int area, int goal, boolean wheels) {
        if (!has(areas, area) || !goal(goal)) return no(-1);
        return first(area, goal, wheels);
    }

    int walk(int area, int goal, boolean wheels) {
        if (!has(areas, area) || !goal(goal)) return no(-1);
        return timesTo(goal, wheels)[area];
    }

    int feed(int n, long bytes) {
        if (n < 1) return no(-4);
        if (n > 8 || tape.length() + n > 120) return no(-6);
        for (int i = 0; i < n; i++) tape += (char) (bytes >> 8 * i & 255);
        return tape.length();
    }

    int order(int state) {
        if (state != 0 && state != 1) return no(-2);
        if (orders.size() == 12) return no(-6);
        String text = tape;
        tape = "";
        int fault = fault(text);
        if (fault >= 0) return -20 - fault;
        orders.add(text);
        orderState.add(new boolean[] {state == 1, false});
        return orders.size() - 1;
    }

    int stand(int order, boolean on) {
        if (!has(orders, order)) return no(-1);
        boolean was = orderState.get(order)[0];
        orderState.get(order)[0] = on;
        return was == on ? 0 : 1;
    }

    int holds(int order) {
        if (!has(orders, order)) return no(-1);
        return truth(order) ? 1 : 0;
    }

    int given(int i, int what) {
        if (what < 0 || what > 4) return no(-2);
        return has(given, i) ? given.get(i)[what] : -9;
    }

    int counted(int link, int t, int heads) {
        if (!has(links, link)) return no(-1);
        if (t > tick) return no(-3);
        if (t < 0 || heads < 0) return no(-4);
        if (heads > 99999 || tellings.size() == 60) return no(-6);
        tellings.add(new int[] {link, t, heads, tick});
        return tellings.size();
    }

    int count(int link, int t, int k) {
        if (!has(links, link)) return no(-1);
        if (t < 0 || k < 0) return no(-4);
        if (t > 999 || k > 999) return no(-6);
        int n = -9;
        for (int[] x : tellings) if (x[0] == link && x[1] == t && x[3] <= k) n = x[2];
        return n;
    }

    int wrong(int link, int k) {
        if (!has(links, link)) return no(-1);
        if (k < 0) return no(-4);
        if (k > 999) return no(-6);
        int n = 0;
        for (int t = 0; t <= 999; t++) {
            int c = count(link, t, k);
            if (c < 0) continue;
            int real = 0;
            for (int[] w : went) if (w[0] == t && w[1] == link) real = w[2];
            n += Math.abs(c - real);
        }
        return n;
    }

    int out(int b, int what) {
        if (b != -1 && !has(links, b)) return no(-1);
        if (what < 0 || what > 3) return no(-2);
        return blocked(b)[what];
    }

    int worst(int what) {
        if (what < 0 || what > 2) return no(-2);
        int worst = -9;
        int[] its = null;
        for (int l = 0; l < links.size(); l++) {
            int[] x = blocked(l);
            int lasts = x[0] < 0 ? 999 : x[0];
            int most = its == null ? -1 : its[0] < 0 ? 999 : its[0];
            if (its == null || lasts > most || lasts == most && x[1] > its[1]) {
                worst = l;
                its = x;
            }
        }
        return its == null ? -9 : what == 0 ? worst : its[what - 1];
    }

    int option(int link, int what, int v) {
        int n = linkNo(link, what, v);
        if (n < 0) return no(n);
        if (options.size() == 4) return no(-6);
        options.add(new int[] {link, what, v});
        return options.size() - 1;
    }

    int design(int ticks, int press, int what) {
        if (what < 0 || what > 3) return no(-2);
        if (ticks < 1 || press < 1) return no(-4);
        if (ticks > 300 || press > 999) return no(-6);
        int[] best = null;
        for (int bits = 0; bits < 1 << options.size(); bits++) {
            int many = Integer.bitCount(bits);
            if (best != null && best[1] <= many) continue;
            int[] worst = {bits, many, 0, 0};
            boolean good = true;
            for (int b = -1; b < Math.min(6, links.size()) && good; b++) {
                PlainCrowd c = copy();
                c.block = b;
                for (int i = 0; i < options.size(); i++)
                    if ((bits >> i & 1) == 1) c.linkSet(options.get(i)[0], options.get(i)[1], options.get(i)[2]);
                int[] x = c.emptying();
                good = x[0] >= 0 && x[0] <= ticks && x[1] <= press;
                worst[2] = Math.max(worst[2], x[0]);
                worst[3] = Math.max(worst[3], x[1]);
            }
            if (good) best = worst;
        }
        return best == null ? -9 : best[what];
    }

    int kin(int folk) {
        if (!has(folks, folk)) return no(-1);
        int n = 0;
        for (int h : in.get(folk)) n += h > 0 ? 1 : 0;
        for (int l = 0; l < links.size(); l++) n += onLink(folk, l) > 0 ? 1 : 0;
        return n;
    }

    int total(int what) {
        if (what >= 11 && what <= 16) return refused[what - 10];
        int all = 0;
        int out = 0;
        for (int[] f : folks) {
            all += f[1];
            out += f[5];
        }
        int standing = 0;
        for (boolean[] s : orderState) standing += s[0] ? 1 : 0;
        switch (what) {
            case 0: return tick;
            case 1: return areas.size();
            case 2: return links.size();
            case 3: return folks.size();
            case 4: return all - out;
            case 5: return out;
            case 6: return fellAll();
            case 7: return trains.size();
            case 8: return taken;
            case 9: return standing;
            case 10: return given.size();
            case 17: return tape.length();
            default: return -9;
        }
    }
}
