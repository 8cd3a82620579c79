import java.util.Random;

/**
 * Runs of calls drawn from fixed seeds, each answered by CrowdOut and by PlainCrowd; the answers must be the same.
 * With two arguments: the first seed and how many.
 */
public final class AgainstPlainTest {
    private static final int CALLS = 27;
    private static int wrong = 0;

    private final Random random;
    private final long seed;
    private final CrowdOut real = new CrowdOut();
    private final PlainCrowd plain = new PlainCrowd();
    private final StringBuilder told = new StringBuilder();
    private boolean differs = false;
    private int calls = 0;

    private AgainstPlainTest(long seed) {
        this.seed = seed;
        this.random = new Random(seed);
    }

    public static void main(String[] args) {
        long first = args.length > 0 ? Long.parseLong(args[0]) : 1;
        long many = args.length > 1 ? Long.parseLong(args[1]) : 400;
        long calls = 0;
        for (long seed = first; seed < first + many && wrong < 5; seed++) {
            AgainstPlainTest run = new AgainstPlainTest(seed);
            run.run();
            calls += run.calls;
        }
        System.out.println(calls + " calls, " + wrong + " runs differ");
        if (wrong != 0) System.exit(1);
    }

    private int below(int n) {
        return random.nextInt(n);
    }

    private boolean rarely(int n) {
        return random.nextInt(n) == 0;
    }

    private int among(int least, int most) {
        return least + random.nextInt(most - least + 1);
    }

    /** A number in reach, or now and then one on or beyond the edges. */
    private int near(int least, int most) {
        if (!rarely(25)) return among(least, most);
        int[] odd = {least - 1, least, most, most + 1, -1, Integer.MIN_VALUE, Integer.MAX_VALUE};
        return odd[below(odd.length)];
    }

    private void run() {
        ground();
        int more = among(20, 120);
        for (int i = 0; i < more && !differs; i++) any();
        look();
    }

    private void ground() {
        boolean large = rarely(12);
        int areas = large ? among(10, 21) : among(2, 6);
        for (int i = 0; i < areas; i++)
            call(0, i == 0 ? 3 : rarely(4) ? 3 : below(3), rarely(6) ? among(1, 300) : among(5, 60), 0, 0);
        int links = large ? among(8, 32) : among(1, 8);
        for (int i = 0; i < links; i++)
            call(1, below(areas), below(areas), among(1, rarely(3) ? 40 : 9), rarely(5) ? among(1, 9) : among(1, 3));
        int folk = large ? among(3, 26) : among(1, 6);
        for (int i = 0; i < folk; i++) call(3, below(areas), among(1, 25), rarely(3) ? below(areas) : 0, below(3));
        if (rarely(2)) call(6, 0, among(100, 300), 0, 0);
        if (rarely(2)) call(6, 1, among(10, 160), 0, 0);
        if (rarely(3)) call(6, 2, among(0, 20), 0, 0);
        for (int i = below(4); i > 0; i--) orderOf(text());
        for (int i = below(3); i > 0; i--) call(4, below(areas), among(0, 9), among(1, 5), among(1, 20));
        for (int i = below(5); i > 0; i--) some(2);
    }

    private void any() {
        int kind = below(100);
        if (kind < 25) call(7, rarely(40) ? near(1, 300) : among(1, 4), 0, 0, 0);
        else if (kind < 30) orderOf(rarely(3) ? spoilt(text()) : text());
        else if (kind < 33) some(18 + below(4));
        else some(below(CALLS));
    }

    private void some(int method) {
        int areas = Math.max(1, plain.areas.size());
        int links = Math.max(1, plain.links.size());
        int folk = Math.max(1, plain.folks.size());
        int a = near(0, areas - 1);
        int l = near(0, links - 1);
        int f = near(0, folk - 1);
        switch (method) {
            case 0: if (rarely(3)) call(0, near(0, 3), near(1, 60), 0, 0); break;
            case 1: if (rarely(3)) call(1, a, near(0, areas - 1), near(1, 20), near(1, 9)); break;
            case 2: {
                int what = near(0, 4);
                int most = what == 0 || what == 2 ? 1 : what == 1 ? 2 : what == 3 ? 6 : 30;
                call(rarely(3) ? 22 : 2, l, what, near(what == 4 ? 1 : 0, most), 0);
                break;
            }
            case 3: call(3, a, near(1, 20), near(0, areas - 1), near(0, 2)); break;
            case 4: call(4, a, plain.tick + near(-1, 5), near(1, 5), near(1, 30)); break;
            case 5: call(5, near(0, Math.max(0, plain.trains.size() - 1)), below(2), 0, 0); break;
            case 6: {
                int what = near(0, 2);
                call(6, what, what == 0 ? near(100, 300) : what == 1 ? near(10, 300) : near(0, 50), 0, 0);
                break;
            }
            case 7: call(7, near(1, 3), 0, 0, 0); break;
            case 8: call(8, a, near(0, 7), 0, 0); break;
            case 9: {
                int what = near(0, 4);
                call(9, f, what, what == 1 ? l : a, 0);
                break;
            }
            case 10: case 11: call(method, a, near(0, areas - 1), below(2), 0); break;
            case 12: feed(near(0, 9), random.nextLong()); break;
            case 13: call(13, near(0, 1), 0, 0, 0); break;
            case 14: call(14, near(0, Math.max(0, plain.orders.size() - 1)), below(2), 0, 0); break;
            case 15: call(15, near(0, Math.max(0, plain.orders.size() - 1)), 0, 0, 0); break;
            case 16: call(16, near(0, Math.max(0, plain.given.size() - 1)), near(0, 4), 0, 0); break;
            case 17: call(17, l, near(0, plain.tick), near(0, 20), 0); break;
            case 18: call(18, l, near(0, plain.tick), near(0, plain.tick + 1), 0); break;
            case 19: call(19, l, near(0, plain.tick), 0, 0); break;
            case 20: call(20, near(-1, links - 1), near(0, 3), 0, 0); break;
            case 21: if (links < 9 || rarely(6)) call(21, near(0, 2), 0, 0, 0); break;
            case 22: call(22, l, near(0, 4), near(0, 2), 0); break;
            case 23: if (links < 9 || rarely(6)) call(23, near(1, rarely(2) ? 300 : 60), near(1, 300), near(0, 3), 0); break;
            case 24: call(24, f, 0, 0, 0); break;
            default: call(25, near(0, 18), 0, 0, 0);
        }
    }

    /** All that can be asked without a change, as the run ends. */
    private void look() {
        for (int a = 0; a < plain.areas.size(); a++) for (int w = 0; w < 8; w++) call(8, a, w, 0, 0);
        for (int f = 0; f < plain.folks.size(); f++) {
            for (int a = 0; a < plain.areas.size(); a++) call(9, f, 0, a, 0);
            for (int l = 0; l < plain.links.size(); l++) call(9, f, 1, l, 0);
            for (int w = 2; w < 5; w++) call(9, f, w, 0, 0);
            call(24, f, 0, 0, 0);
        }
        for (int i = 0; i < plain.given.size(); i++) for (int w = 0; w < 5; w++) call(16, i, w, 0, 0);
        for (int l = 0; l < plain.links.size(); l++) call(19, l, plain.tick, 0, 0);
        for (int l = -1; l < Math.min(8, plain.links.size()); l++) for (int w = 0; w < 4; w++) call(20, l, w, 0, 0);
        for (int w = 0; w < 3 && plain.links.size() < 9; w++) call(21, w, 0, 0, 0);
        for (int w = 0; w < 4 && plain.links.size() < 9; w++) call(23, 100, 200, w, 0);
        for (int w = 0; w < 19; w++) call(25, w, 0, 0, 0);
    }

    private void orderOf(String text) {
        if (rarely(30)) call(13, 1, 0, 0, 0);
        for (int i = 0; i < text.length(); i += 8) {
            int n = Math.min(8, text.length() - i);
            long bytes = n < 8 ? random.nextLong() << 8 * n : 0;
            for (int k = 0; k < n; k++) bytes |= (long) text.charAt(i + k) << 8 * k;
            feed(n, bytes);
        }
        call(13, rarely(5) ? 0 : 1, 0, 0, 0);
    }

    private String text() {
        StringBuilder s = new StringBuilder(ors(0));
        s.append(':').append(act());
        while (rarely(2)) s.append(';').append(act());
        return s.toString();
    }

    private String ors(int deep) {
        StringBuilder s = new StringBuilder(test(deep));
        while (rarely(4)) s.append(rarely(2) ? '|' : '&').append(test(deep));
        return s.toString();
    }

    private String test(int deep) {
        int most = rarely(10) ? 6 : 4;
        if (deep < most && rarely(5)) return "!" + test(deep + 1);
        if (deep < most && rarely(5)) return "(" + ors(deep + 1) + ")";
        return sum() + "<=>".charAt(below(3)) + sum();
    }

    private String sum() {
        StringBuilder s = new StringBuilder(unit());
        while (rarely(5)) s.append(rarely(2) ? '+' : '-').append(unit());
        return s.toString();
    }

    private String unit() {
        switch (below(5)) {
            case 0: return "t";
            case 1: return String.valueOf(below(rarely(2) ? 12 : 130));
            case 2: return rarely(9) ? "00" + below(1000) : String.valueOf(below(30));
            default: return "phulw".charAt(below(5)) + two();
        }
    }

    private String act() {
        return "oskgb".charAt(below(5)) + two();
    }

    private String two() {
        int n = rarely(15) ? below(100) : below(6);
        return "" + n / 10 + n % 10;
    }

    private String spoilt(String text) {
        int at = below(text.length());
        String odd = "0123456789tphulwoskgb!()<>=+-&|:; x";
        switch (below(4)) {
            case 0: return text.substring(0, at);
            case 1: return text.substring(0, at) + text.substring(at + 1);
            case 2: return text.substring(0, at) + odd.charAt(below(odd.length())) + text.substring(at);
            default: return text.substring(0, at) + odd.charAt(below(odd.length())) + text.substring(at + 1);
        }
    }

    private void feed(int n, long bytes) {
        same("feed(" + n + ", " + bytes + "L)", real.feed(n, bytes), plain.feed(n, bytes));
    }

    private void call(int method, int a, int b, int c, int d) {
        boolean on = (method == 5 || method == 14 ? b : c) == 1;
        switch (method) {
            case 0: same("area(" + a + ", " + b + ")", real.area(a, b), plain.area(a, b)); break;
            case 1: same(of("link", a, b, c, d), real.link(a, b, c, d), plain.link(a, b, c, d)); break;
            case 2: same(of("linkSet", a, b, c), real.linkSet(a, b, c), plain.linkSet(a, b, c)); break;
            case 3: same(of("folk", a, b, c, d), real.folk(a, b, c, d), plain.folk(a, b, c, d)); break;
            case 4: same(of("train", a, b, c, d), real.train(a, b, c, d), plain.train(a, b, c, d)); break;
            case 5: same("hold(" + a + ", " + on + ")", real.hold(a, on), plain.hold(a, on)); break;
            case 6: same(of("set", a, b), real.set(a, b), plain.set(a, b)); break;
            case 7: same(of("ticks", a), real.ticks(a), plain.ticks(a)); break;
            case 8: same(of("areaOf", a, b), real.areaOf(a, b), plain.areaOf(a, b)); break;
            case 9: same(of("folkOf", a, b, c), real.folkOf(a, b, c), plain.folkOf(a, b, c)); break;
            case 10: same("next(" + a + ", " + b + ", " + on + ")", real.next(a, b, on), plain.next(a, b, on)); break;
            case 11: same("walk(" + a + ", " + b + ", " + on + ")", real.walk(a, b, on), plain.walk(a, b, on)); break;
            case 13: same(of("order", a), real.order(a), plain.order(a)); break;
            case 14: same("stand(" + a + ", " + on + ")", real.stand(a, on), plain.stand(a, on)); break;
            case 15: same(of("holds", a), real.holds(a), plain.holds(a)); break;
            case 16: same(of("given", a, b), real.given(a, b), plain.given(a, b)); break;
            case 17: same(of("counted", a, b, c), real.counted(a, b, c), plain.counted(a, b, c)); break;
            case 18: same(of("count", a, b, c), real.count(a, b, c), plain.count(a, b, c)); break;
            case 19: same(of("wrong", a, b), real.wrong(a, b), plain.wrong(a, b)); break;
            case 20: same(of("out", a, b), real.out(a, b), plain.out(a, b)); break;
            case 21: same(of("worst", a), real.worst(a), plain.worst(a)); break;
            case 22: same(of("option", a, b, c), real.option(a, b, c), plain.option(a, b, c)); break;
            case 23: same(of("design", a, b, c), real.design(a, b, c), plain.design(a, b, c)); break;
            case 24: same(of("kin", a), real.kin(a), plain.kin(a)); break;
            default: same(of("total", a), real.total(a), plain.total(a));
        }
    }

    private static String of(String name, int... args) {
        StringBuilder s = new StringBuilder(name).append('(');
        for (int i = 0; i < args.length; i++) s.append(i == 0 ? "" : ", ").append(args[i]);
        return s.append(')').toString();
    }

    private void same(String call, int got, int want) {
        calls++;
        told.append("x.").append(call).append("; // ").append(want).append('\n');
        if (got != want && !differs) {
            differs = true;
            wrong++;
            System.out.println("seed " + seed + "\n" + told + "answered " + got);
        }
    }
}
