import java.util.NoSuchElementException;
import java.util.Random;

/**
 * Random runs of up to 512 calls, with fixed seeds, on SkyCuts and on Model: every call must answer alike, or throw
 * alike. `java ModelTest from to` runs other seeds.
 */
public final class ModelTest {
    // Numbers that wrap, or are within the bounds again, if but some of their bits are looked at.
    private static final int[] FAR = {Integer.MIN_VALUE, Integer.MAX_VALUE, Integer.MIN_VALUE + 1, 1 << 30, 1 << 16, 256,
        -256, -128};

    private static int wrong = 0;

    interface Call {
        long answer();
    }

    private SkyCuts x;
    private Model y;
    private Random dice;
    private final long seed;
    private final StringBuilder log = new StringBuilder();
    private boolean dense;

    private ModelTest(long seed) {
        this.seed = seed;
    }

    static String run(Call call) {
        try {
            return "" + call.answer();
        } catch (IllegalArgumentException e) {
            return "IllegalArgumentException";
        } catch (NoSuchElementException e) {
            return "NoSuchElementException";
        } catch (IndexOutOfBoundsException e) {
            return e.getClass() == IndexOutOfBoundsException.class ? "IndexOutOfBoundsException" : e.toString();
        } catch (RuntimeException e) {
            return e.toString();
        }
    }

    private String same(String name, Call got, Call want) {
        String g = run(got);
        String w = run(want);
        log.append(name).append(" = ").append(w).append("\n");
        if (!g.equals(w)) {
            wrong++;
            System.out.println("seed " + seed + ": " + name + " answered " + g + ", due is " + w);
        }
        return w;
    }

    /** Mostly within the bounds, now and then just beside them, or far out. */
    private int pick(int least, int greatest) {
        if (dice.nextInt(40) == 0) {
            return dice.nextInt(4) == 0 ? FAR[dice.nextInt(FAR.length)]
                : dice.nextBoolean() ? least - 1 - dice.nextInt(2) : greatest + 1 + dice.nextInt(2);
        }
        return least + dice.nextInt(greatest - least + 1);
    }

    private int low(int least, int greatest) {
        return Math.min(pick(least, greatest), pick(least, greatest));
    }

    private void tell(String text, boolean stream) {
        byte[] bytes = new byte[(text.length() + 19) / 20 * 20];
        for (int i = 0; i < text.length(); i++) {
            bytes[i] = (byte) text.charAt(i);
        }
        for (int i = 0; i < bytes.length; i += 20) {
            int[] v = new int[5];
            for (int j = 0; j < 20; j++) {
                v[j / 4] = v[j / 4] << 8 | bytes[i + j] & 255;
            }
            same("feed", () -> x.feed(v[0], v[1], v[2], v[3], v[4]), () -> y.feed(v[0], v[1], v[2], v[3], v[4]));
        }
        int n = dice.nextInt(60) == 0 ? pick(0, 200) : text.length();
        if (stream) {
            same("stream \"" + text + "\"", () -> x.stream(n), () -> y.stream(n));
        } else {
            same("rules \"" + text + "\"", () -> x.rules(n), () -> y.rules(n));
        }
        same("fault", () -> x.fault(), () -> y.fault());
    }

    private String blank() {
        return dice.nextInt(12) == 0 ? " ".repeat(1 + dice.nextInt(2)) : "";
    }

    private String spoil(String text, String signs) {
        if (text.isEmpty() || dice.nextInt(10) != 0) {
            return text;
        }
        int i = dice.nextInt(text.length());
        String sign = "" + signs.charAt(dice.nextInt(signs.length()));
        switch (dice.nextInt(4)) {
            case 0: return text.substring(0, i);
            case 1: return text.substring(0, i) + sign + text.substring(i);
            case 2: return text.substring(0, i) + text.substring(i + 1);
            default: return text.substring(0, i) + sign + text.substring(i + 1);
        }
    }

    private String wayText() {
        int first = dice.nextInt(128);
        int px = first % 8;
        int py = first / 8 % 8;
        int pz = first / 64;
        StringBuilder t = new StringBuilder(blank() + (dice.nextInt(20) == 0 ? "00" : "") + pickCell(first));
        int moves = dice.nextInt(dense ? 12 : 6);
        int cells = 1;
        for (int i = 0; i < moves; i++) {
            boolean wild = dice.nextInt(30) == 0;
            String letters = "rldu" + (pz == 0 ? "c" : "s");
            char m = wild ? "rlducs".charAt(dice.nextInt(6)) : letters.charAt(dice.nextInt(5));
            int room = m == 'r' ? 7 - px : m == 'l' ? px : m == 'd' ? 7 - py : m == 'u' ? py : 1;
            if (!wild && (room <= 0 || cells >= 23)) {
                continue;
            }
            int n = wild ? dice.nextInt(10) : 1 + dice.nextInt(Math.min(room, 24 - cells));
            if (m == 'c' || m == 's') {
                n = 1;
            }
            t.append(blank()).append(m);
            if (n != 1 || m != 'c' && m != 's' && dice.nextBoolean()) {
                t.append(blank()).append(n);
            }
            px += m == 'r' ? n : m == 'l' ? -n : 0;
            py += m == 'd' ? n : m == 'u' ? -n : 0;
            pz = m == 'c' ? 1 : m == 's' ? 0 : pz;
            cells += n;
        }
        String s = spoil(t + blank(), "rlducs0179 x;R\u00ff");
        return s.length() > 100 ? s.substring(0, 100) : s;
    }

    private String pickCell(int cell) {
        return "" + (dice.nextInt(50) == 0 ? 128 + dice.nextInt(100) : cell);
    }

    private String unit(int depth) {
        int kind = dice.nextInt(depth > 0 ? 13 : 10);
        if (kind < 3) {
            return blank() + (dice.nextInt(40) == 0 ? 1000 : dice.nextInt(4) == 0 ? dice.nextInt(1000) : dice.nextInt(8));
        }
        if (kind < 10) {
            return blank() + new String[] {"ways", "cross", "over", "climb", "cells", "low", "pieces"}[kind - 3];
        }
        if (kind == 10) {
            return blank() + "(" + sum(depth - 1) + blank() + ")";
        }
        return blank() + (kind == 11 ? "least" : "most") + blank() + "(" + sum(depth - 1) + "," + sum(depth - 1) + ")";
    }

    private String product(int depth) {
        String t = unit(depth);
        while (dice.nextInt(4) == 0) {
            t += blank() + (dice.nextBoolean() ? "*" : "/") + unit(depth);
        }
        return t;
    }

    private String sum(int depth) {
        String t = product(depth);
        while (dice.nextInt(3) == 0) {
            t += blank() + (dice.nextInt(3) > 0 ? "+" : "-") + product(depth);
        }
        return t;
    }

    private String test(int depth) {
        int kind = dice.nextInt(depth > 0 ? 6 : 4);
        if (kind == 4) {
            return " not " + test(depth - 1);
        }
        if (kind == 5) {
            return blank() + "[" + either(depth - 1) + "]";
        }
        return " " + sum(depth) + "<>=".charAt(dice.nextInt(3)) + sum(depth);
    }

    private String both(int depth) {
        return dice.nextInt(3) == 0 ? test(depth) + " and" + both(depth) : test(depth);
    }

    private String either(int depth) {
        return dice.nextInt(3) == 0 ? both(depth) + " or" + either(depth) : both(depth);
    }

    private String ruleText() {
        StringBuilder t = new StringBuilder();
        int clauses = dice.nextInt(10) == 0 ? dice.nextInt(11) : dice.nextInt(4);
        for (int i = 0; i < clauses; i++) {
            if (clauses > 6) {
                t.append(dice.nextBoolean() ? "load ways;" : "join 1<2;");
            } else if (dice.nextInt(20) == 0) {
                t.append(deep());
            } else if (dice.nextBoolean()) {
                t.append(blank() + "load " + sum(dice.nextInt(4)) + blank() + ";");
            } else {
                t.append(blank() + "join " + either(dice.nextInt(3)) + ";");
            }
        }
        String s = spoil(t.toString(), "()[]+-*/<>=;, 09anotlw\u0001\u00fe");
        return s.length() > 200 ? s.substring(0, 200) : s;
    }

    /** Six or seven things open at one time. */
    private String deep() {
        StringBuilder head = new StringBuilder();
        StringBuilder tail = new StringBuilder();
        int many = 5 + dice.nextInt(3);
        int tests = dice.nextInt(many + 1);
        for (int i = 0; i < many; i++) {
            if (i < tests) {
                boolean not = dice.nextBoolean();
                head.append(not ? " not " : "[");
                tail.insert(0, not ? "" : "]");
            } else {
                boolean two = dice.nextBoolean();
                head.append(two ? "most(" : "(");
                tail.insert(0, two ? ",1)" : ")");
            }
        }
        String inner = many > tests ? "1" : "1<2";
        String after = tail.toString();
        int cut = 0;
        while (cut < after.length() && after.charAt(cut) != ']') {
            cut++;
        }
        return tests == 0 ? "load " + head + inner + after + ";"
            : "join " + head + inner + (many > tests ? after.substring(0, cut) + ">0" + after.substring(cut) : after) + ";";
    }

    private void set() {
        int s = dice.nextInt(40) == 0 ? pick(0, 11) : dice.nextInt(Math.max(1, y.streams.size()));
        switch (dice.nextInt(14)) {
            case 0: case 1: tell(wayText(), true); break;
            case 2: if (dice.nextInt(3) == 0) { tell(ruleText(), false); } break;
            case 3: case 4: case 5: {
                int a = pick(0, 23);
                int b = dice.nextInt(20) == 0 ? pick(0, 23) : Math.min(23, a + dice.nextInt(8));
                int v = dice.nextInt(4) == 0 ? pick(0, 50) : dice.nextInt(6);
                same("flow " + s + " " + a + " " + b + " " + v,
                    () -> { x.flow(s, a, b, v); return 0; }, () -> { y.flow(s, a, b, v); return 0; });
                break;
            }
            case 6: {
                int a = pick(0, 2);
                int b = pick(0, 2);
                same("span " + s + " " + a + " " + b,
                    () -> { x.span(s, a, b); return 0; }, () -> { y.span(s, a, b); return 0; });
                break;
            }
            case 7: {
                int c = pick(0, 127);
                int p = low(-1, 7);
                same("assign " + c + " " + p, () -> x.assign(c, p), () -> y.assign(c, p));
                break;
            }
            case 8: case 9: {
                int c = pick(0, 127);
                int e = dice.nextInt(20) == 0 ? pick(0, 127)
                    : (c & 64) + Math.min(7, (c >> 3 & 7) + dice.nextInt(5)) * 8 + Math.min(7, (c & 7) + dice.nextInt(5));
                int p = low(-1, 7);
                same("paint " + c + " " + e + " " + p, () -> x.paint(c, e, p), () -> y.paint(c, e, p));
                break;
            }
            case 10: {
                int p = pick(0, 7);
                int v = dice.nextInt(3) == 0 ? pick(0, 9999) : dice.nextInt(300);
                same("limit " + p + " " + v, () -> x.limit(p, v), () -> y.limit(p, v));
                break;
            }
            case 11: {
                int v = dice.nextInt(2);
                int g = v == 0 ? pick(0, (1 << 24) - 1) : dice.nextInt(8) * 8 + dice.nextInt(512);
                same("configure " + g, () -> x.configure(g), () -> y.configure(g));
                break;
            }
            case 12: setSmall(); break;
            default: {
                int c = dice.nextInt(3) == 0 || y.streams.isEmpty() ? pick(0, 127) : cellOfAWay();
                boolean is = dice.nextInt(3) > 0;
                same("storm " + c + " " + is, () -> x.storm(c, is) ? 1 : 0, () -> y.storm(c, is) ? 1 : 0);
            }
        }
    }

    private int cellOfAWay() {
        Model.Stream s = y.streams.get(dice.nextInt(y.streams.size()));
        return s.way.get(dice.nextInt(s.way.size()));
    }

    private void setSmall() {
        switch (dice.nextInt(7)) {
            case 0: {
                int v = pick(0, 9);
                same("length " + v, () -> x.length(v), () -> y.length(v));
                break;
            }
            case 1: {
                int v = dice.nextInt(6) == 0 ? pick(0, 100000) : dice.nextInt(100);
                same("busy " + v, () -> x.busy(v), () -> y.busy(v));
                break;
            }
            case 2: {
                int w = pick(0, 1);
                int v = w == 0 ? pick(1, 24) : pick(1, 8);
                same("hours " + w + " " + v, () -> x.hours(w, v), () -> y.hours(w, v));
                break;
            }
            case 3: {
                int p = pick(0, 7);
                int q = pick(0, 24);
                same("ill " + p + " " + q, () -> x.ill(p, q), () -> y.ill(p, q));
                break;
            }
            case 4: same("mark", () -> x.mark(), () -> y.mark()); break;
            case 5: if (dice.nextInt(2) == 0) { same("back", () -> x.back(), () -> y.back()); } break;
            default: {
                int p = pickPiece();
                int q = pick(0, 23);
                int v = dice.nextInt(10) == 0 ? pick(0, 9999) : dice.nextInt(200);
                boolean b = dice.nextInt(4) == 0;
                same("did " + p + " " + q + " " + v + " " + b, () -> x.did(p, q, v, b), () -> y.did(p, q, v, b));
            }
        }
    }

    private void setRegion() {
        if (dice.nextInt(12) == 0) {
            same("clear", () -> x.clear(), () -> y.clear());
        }
        int c;
        if (y.region.isEmpty() || dice.nextInt(10) == 0) {
            c = y.streams.isEmpty() ? pick(0, 127) : cellOfAWay();
        } else {
            var near = Model.besides(y.region.get(dice.nextInt(y.region.size())));
            c = near.get(dice.nextInt(near.size()));
        }
        same("region " + c, () -> x.region(c), () -> y.region(c));
    }

    /** Mostly a piece that has cells. */
    private int pickPiece() {
        int p = y.piece[dice.nextInt(128)];
        return dice.nextInt(10) == 0 || p < 0 ? pick(0, 7) : p;
    }

    private void ask() {
        int p = pickPiece();
        int q = pick(0, 23);
        int c = y.streams.isEmpty() || dice.nextInt(3) == 0 ? pick(0, 127) : cellOfAWay();
        int s = dice.nextInt(30) == 0 ? pick(0, 11) : dice.nextInt(Math.max(1, y.streams.size()));
        switch (dice.nextInt(17)) {
            case 0: {
                int k = dice.nextBoolean() ? pick(0, 24) : dice.nextInt(8);
                same("way " + s + " " + k, () -> x.way(s, k), () -> y.way(s, k));
                break;
            }
            case 1: same("most " + s + " " + q, () -> x.most(s, q), () -> y.most(s, q)); break;
            case 2: case 3: {
                int w = pick(0, 4);
                same("hears " + p + " " + q + " " + w, () -> x.hears(p, q, w), () -> y.hears(p, q, w));
                break;
            }
            case 4: {
                int w = pick(0, 1);
                same("peak " + p + " " + w, () -> x.peak(p, w), () -> y.peak(p, w));
                break;
            }
            case 5: same("whole " + p, () -> x.whole(p) ? 1 : 0, () -> y.whole(p) ? 1 : 0); break;
            case 6: {
                int k = pick(0, 3);
                same("neck " + p + " " + k, () -> x.neck(p, k), () -> y.neck(p, k));
                break;
            }
            case 7: same("shorts " + p, () -> x.shorts(p), () -> y.shorts(p)); break;
            case 8: same("edge " + p, () -> x.edge(p), () -> y.edge(p)); break;
            case 9: same("holds", () -> x.holds() ? 1 : 0, () -> y.holds() ? 1 : 0); break;
            case 10: same("cost", () -> x.cost(), () -> y.cost()); break;
            case 11: case 12: {
                int k = pick(0, 3);
                boolean b = dice.nextBoolean();
                same("lead " + p + " " + q + " " + k + " " + b, () -> x.lead(p, q, k, b), () -> y.lead(p, q, k, b));
                break;
            }
            case 13: {
                int to = dice.nextInt(3) == 0 ? pickPiece() : low(0, 7);
                same("worth " + c + " " + to, () -> x.worth(c, to), () -> y.worth(c, to));
                break;
            }
            case 14: same("quiet " + c, () -> x.quiet(c), () -> y.quiet(c)); break;
            case 15: {
                int w = pick(0, 5);
                same("fit " + w, () -> x.fit(w), () -> y.fit(w));
                break;
            }
            default: {
                int w = pick(-1, 11);
                same("count " + w, () -> x.count(w), () -> y.count(w));
            }
        }
    }

    private void askMuch() {
        int m = dice.nextInt(3) == 0 ? pick(0, 23) : dice.nextInt(5);
        int q = pick(0, 23);
        int n = pick(1, 8);
        switch (dice.nextInt(16)) {
            case 0: case 12: {
                int w = pick(0, 2);
                same("better " + w, () -> x.better(w), () -> y.better(w));
                break;
            }
            case 1: {
                int v = dice.nextInt(5) == 0 ? pick(0, 20) : dice.nextInt(3);
                if (v < 4 || v > 19) {
                    same("grow " + v, () -> x.grow(v), () -> y.grow(v));
                }
                break;
            }
            case 2: case 3: {
                int h = pick(1, 3);
                int w = pick(-2, 7);
                same("parted " + h + " " + w, () -> x.parted(h, w), () -> y.parted(h, w));
                break;
            }
            case 4: {
                int c = dice.nextInt(20) == 0 ? pick(0, 5) : dice.nextInt(Math.max(1, y.configurations.size()));
                same("pairs " + c + " " + q, () -> x.pairs(c, q), () -> y.pairs(c, q));
                break;
            }
            case 5: case 6: {
                int w = pick(-2, 23);
                same("plan " + m + " " + w, () -> x.plan(m, w), () -> y.plan(m, w));
                break;
            }
            case 7: case 8: same("rota " + n + " " + m + " " + q, () -> x.rota(n, m, q), () -> y.rota(n, m, q)); break;
            case 9: same("lacks " + n + " " + m, () -> x.lacks(n, m), () -> y.lacks(n, m)); break;
            case 10: if (dice.nextInt(4) == 0) { same("enough " + m, () -> x.enough(m), () -> y.enough(m)); } break;
            default: {
                int h = low(0, 8);
                int r = low(0, 8);
                int w = pick(-2, 11);
                same("mends " + q + " " + h + " " + r + " " + w, () -> x.mends(q, h, r, w), () -> y.mends(q, h, r, w));
            }
        }
    }

    /** Many long streams that flow most of the day, few pieces with high limits, a storm and some rows. */
    private void layScene() {
        int high = dice.nextInt(3);
        for (int i = 0; i < 8; i++) {
            int p = i;
            int v = high == 0 ? 40 + dice.nextInt(200) : 200 + dice.nextInt(high == 1 ? 900 : 9000);
            same("limit " + p + " " + v, () -> x.limit(p, v), () -> y.limit(p, v));
        }
        int pieces = 1 + dice.nextInt(5);
        for (int i = 0; i < pieces; i++) {
            int p = i;
            int from = dice.nextInt(8) + dice.nextInt(8) * 8 + dice.nextInt(2) * 64;
            int to = dice.nextBoolean() ? from | 7 : from | 63;
            same("paint " + from + " " + to + " " + p, () -> x.paint(from, to, p), () -> y.paint(from, to, p));
        }
        int many = 2 + dice.nextInt(11);
        for (int i = 0; i < many; i++) {
            tell(wayText(), true);
        }
        int most = dice.nextInt(3) == 0 ? 50 : 1 + dice.nextInt(8);
        for (int s = 0; s < y.streams.size(); s++) {
            flowAllDay(s, most);
        }
        if (dice.nextInt(3) == 0) {
            tell(ruleText(), false);
        }
        for (int i = dice.nextInt(8); i > 0 && !y.streams.isEmpty(); i--) {
            int c = cellOfAWay();
            same("storm " + c, () -> x.storm(c, true) ? 1 : 0, () -> y.storm(c, true) ? 1 : 0);
        }
        for (int i = dice.nextInt(12); i > 0; i--) {
            int p = pickPiece();
            int q = dice.nextInt(24);
            int v = dice.nextInt(300);
            boolean back = dice.nextInt(4) == 0;
            same("did " + p + " " + q + " " + v, () -> x.did(p, q, v, back), () -> y.did(p, q, v, back));
        }
        for (int i = dice.nextInt(5); i > 0; i--) {
            int g = dice.nextInt(1 << 24) & dice.nextInt(1 << 24);
            same("configure " + g, () -> x.configure(g), () -> y.configure(g));
        }
    }

    private void flowAllDay(int s, int most) {
        for (int a = 0; a < 24;) {
            int from = a;
            int to = Math.min(23, a + 3 + dice.nextInt(12));
            int v = dice.nextInt(most + 1);
            same("flow " + s + " " + from + " " + to + " " + v,
                () -> { x.flow(s, from, to, v); return 0; }, () -> { y.flow(s, from, to, v); return 0; });
            a = to + 1;
        }
        int early = dice.nextInt(3);
        int late = dice.nextInt(3);
        same("span " + s + " " + early + " " + late,
            () -> { x.span(s, early, late); return 0; }, () -> { y.span(s, early, late); return 0; });
    }

    private boolean go(int calls) {
        x = new SkyCuts();
        y = new Model();
        dice = new Random(seed);
        int before = wrong;
        dense = dice.nextInt(3) > 0;
        if (dense) {
            layScene();
        }
        for (int i = 0; i < calls && wrong == before; i++) {
            int kind = dice.nextInt(20);
            if (kind < 9) {
                set();
            } else if (kind < 11) {
                setRegion();
            } else if (kind < 18) {
                ask();
            } else {
                askMuch();
            }
        }
        if (wrong != before) {
            System.out.println(log);
        }
        return wrong == before;
    }

    public static void main(String[] args) {
        int from = args.length > 0 ? Integer.parseInt(args[0]) : 1;
        int to = args.length > 1 ? Integer.parseInt(args[1]) : 200;
        for (int seed = from; seed <= to; seed++) {
            new ModelTest(seed).go(300);
        }
        System.out.println("ModelTest: " + (to - from + 1) + " runs, " + wrong + " wrong answers");
        if (wrong > 0) {
            System.exit(1);
        }
    }
}
