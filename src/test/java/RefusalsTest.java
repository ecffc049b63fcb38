import java.util.ArrayList;
import java.util.List;
import java.util.NoSuchElementException;

/** A call that is refused, by an exception or by the answer that the document names, leaves all as it was. */
public final class RefusalsTest {
    private static final Class<?> ILLEGAL = IllegalArgumentException.class;
    private static final Class<?> OUTSIDE = IndexOutOfBoundsException.class;
    private static final Class<?> MISSING = NoSuchElementException.class;
    private static final int[] BELOW_AND_ABOVE = {Integer.MIN_VALUE, Integer.MAX_VALUE};

    private static int wrong = 0;
    private static int seen = 0;

    interface Step {
        int on(SkyCuts x);
    }

    private static void feed(SkyCuts x, String text) {
        for (int i = 0; i < text.length(); i += 20) {
            int[] v = new int[5];
            for (int j = 0; j < 20; j++) {
                v[j / 4] = v[j / 4] << 8 | (i + j < text.length() ? text.charAt(i + j) : ' ');
            }
            x.feed(v[0], v[1], v[2], v[3], v[4]);
        }
    }

    /** An object of which every answer of the face tells something. */
    private static SkyCuts rich() {
        SkyCuts x = new SkyCuts();
        x.paint(64, 127, 1);
        x.assign(127, 2);
        x.assign(100, -1);
        for (String way : new String[] {"0r3", "2d2", "3cr"}) {
            feed(x, way);
            x.stream(way.length());
        }
        x.flow(0, 0, 9, 5);
        x.flow(1, 3, 20, 3);
        x.flow(2, 5, 5, 2);
        x.span(2, 1, 2);
        feed(x, "load ways + cells / 9; join ways < 9;");
        x.rules(37);
        feed(x, "0r3?");
        x.stream(4);
        x.limit(1, 39);
        x.length(3);
        x.region(1);
        x.region(2);
        x.region(9);
        x.configure(8);
        x.configure(0);
        x.busy(70);
        x.hours(0, 9);
        x.hours(1, 3);
        x.ill(2, 5);
        x.storm(2, true);
        x.did(0, 5, 31, false);
        x.did(1, 5, 9, true);
        x.mark();
        feed(x, " 7 l 2");
        return x;
    }

    private static List<Integer> snapshot(SkyCuts x) {
        List<Integer> all = new ArrayList<>();
        for (int what = 0; what < 10; what++) {
            all.add(x.count(what));
        }
        all.add(x.fault());
        for (int s = 0; s < 3; s++) {
            for (int k = 0; k < 5; k++) {
                all.add(x.way(s, k));
            }
            for (int q = 0; q < 24; q++) {
                all.add(x.most(s, q));
            }
        }
        for (int p = 0; p < 4; p++) {
            for (int what = 0; what < 5; what++) {
                all.add(x.hears(p, 5, what));
            }
            all.add(x.peak(p, 0));
            all.add(x.peak(p, 1));
            all.add(x.whole(p) ? 1 : 0);
            all.add(x.neck(p, 0));
            all.add(x.shorts(p));
            all.add(x.edge(p));
            all.add(x.lead(p, 5, 0, true));
            all.add(x.limit(p, 0));
            x.limit(p, all.get(all.size() - 1));
        }
        plans(x, all);
        others(x, all);
        return all;
    }

    private static void plans(SkyCuts x, List<Integer> all) {
        for (int q = 0; q < 24; q += 5) {
            all.add(x.pairs(0, q));
            all.add(x.pairs(1, q));
            all.add(x.plan(23, q));
            all.add(x.rota(3, 23, q));
        }
        all.add(x.plan(2, -1));
        all.add(x.lacks(2, 23));
        all.add(x.enough(23));
        all.add(x.busy(0));
        x.busy(all.get(all.size() - 1));
        all.add(x.hours(0, 1));
        x.hours(0, all.get(all.size() - 1));
        all.add(x.hours(1, 1));
        x.hours(1, all.get(all.size() - 1));
        for (int p = 0; p < 8; p++) {
            all.add(x.ill(p, 0));
            x.ill(p, all.get(all.size() - 1));
        }
    }

    private static void others(SkyCuts x, List<Integer> all) {
        all.add(x.holds() ? 1 : 0);
        all.add(x.cost());
        for (int what = 0; what < 3; what++) {
            all.add(x.better(what));
        }
        for (int what = -2; what < 8; what++) {
            all.add(x.parted(2, what));
        }
        for (int what = -2; what < 3; what++) {
            all.add(x.mends(5, 1, 1, what));
        }
        for (int what = 0; what < 6; what++) {
            all.add(x.fit(what));
        }
        all.add(x.length(0));
        x.length(all.get(all.size() - 1));
        for (int cell : new int[] {0, 2, 3, 67, 127}) {
            all.add(x.quiet(cell));
            all.add(x.storm(cell, false) ? 1 : 0);
        }
        // What is on the tape is told by the way that it makes.
        all.add(x.stream(6));
        all.add(x.fault());
    }

    private static void compare(String name, Step ahead, Step refused, Object want) {
        seen++;
        SkyCuts plain = rich();
        SkyCuts tried = rich();
        ahead.on(plain);
        ahead.on(tried);
        Object got;
        try {
            got = refused.on(tried);
        } catch (RuntimeException e) {
            got = e.getClass();
        }
        boolean like = snapshot(plain).equals(snapshot(tried));
        if (!want.equals(got) || !like) {
            wrong++;
            System.out.println(name + ": " + got + ", due is " + want + (like ? "" : "; it changed something"));
        }
    }

    private static void refused(String name, Class<?> with, Step it) {
        compare(name, x -> 0, it, with);
    }

    /** A call of one number is refused below its bounds, above them, and at both ends of all numbers. */
    interface Call {
        int of(SkyCuts x, int v);
    }

    private static void bounds(String name, Class<?> with, int least, int greatest, Call call) {
        refused(name + " below", with, x -> call.of(x, least - 1));
        refused(name + " above", with, x -> call.of(x, greatest + 1));
        for (int v : BELOW_AND_ABOVE) {
            refused(name + " far out", with, x -> call.of(x, v));
        }
    }

    private static int span(SkyCuts x, int s, int early, int late) {
        x.span(s, early, late);
        return 0;
    }

    private static int flowed(SkyCuts x, int s, int from, int to, int count) {
        x.flow(s, from, to, count);
        return 0;
    }

    private static void airAndPieces() {
        bounds("stream", ILLEGAL, 0, 20, (x, v) -> x.stream(v));
        bounds("rules", ILLEGAL, 0, 20, (x, v) -> x.rules(v));
        bounds("way", MISSING, 0, 2, (x, v) -> x.way(v, 0));
        bounds("flow of", MISSING, 0, 2, (x, v) -> flowed(x, v, 0, 23, 9));
        bounds("flow from", ILLEGAL, 0, 23, (x, v) -> flowed(x, 0, v, 23, 9));
        bounds("flow to", ILLEGAL, 0, 23, (x, v) -> flowed(x, 0, 0, v, 9));
        bounds("flow count", ILLEGAL, 0, 50, (x, v) -> flowed(x, 0, 0, 23, v));
        refused("flow 5 to 4", ILLEGAL, x -> flowed(x, 0, 5, 4, 9));
        bounds("span of", MISSING, 0, 2, (x, v) -> span(x, v, 2, 2));
        bounds("span early", ILLEGAL, 0, 2, (x, v) -> span(x, 0, v, 2));
        bounds("span late", ILLEGAL, 0, 2, (x, v) -> span(x, 0, 2, v));
        bounds("most of", MISSING, 0, 2, (x, v) -> x.most(v, 0));
        bounds("most in", ILLEGAL, 0, 23, (x, v) -> x.most(0, v));
        bounds("assign", OUTSIDE, 0, 127, (x, v) -> x.assign(v, 3));
        bounds("assign to", ILLEGAL, -1, 7, (x, v) -> x.assign(0, v));
        bounds("paint from", OUTSIDE, 0, 127, (x, v) -> x.paint(v, 63, 3));
        bounds("paint to", OUTSIDE, 0, 127, (x, v) -> x.paint(0, v, 3));
        bounds("paint with", ILLEGAL, -1, 7, (x, v) -> x.paint(0, 63, v));
        refused("paint of two layers", ILLEGAL, x -> x.paint(0, 127, 3));
        refused("paint of x", ILLEGAL, x -> x.paint(1, 56, 3));
        refused("paint of y", ILLEGAL, x -> x.paint(8, 7, 3));
        bounds("limit of", ILLEGAL, 0, 7, (x, v) -> x.limit(v, 3));
        bounds("limit", ILLEGAL, 0, 9999, (x, v) -> x.limit(0, v));
        bounds("hears of", ILLEGAL, 0, 7, (x, v) -> x.hears(v, 0, 0));
        bounds("hears in", ILLEGAL, 0, 23, (x, v) -> x.hears(0, v, 0));
        bounds("hears what", ILLEGAL, 0, 4, (x, v) -> x.hears(0, 0, v));
        bounds("peak of", ILLEGAL, 0, 7, (x, v) -> x.peak(v, 0));
        bounds("peak what", ILLEGAL, 0, 1, (x, v) -> x.peak(0, v));
    }

    private static void partings() {
        bounds("whole", ILLEGAL, 0, 7, (x, v) -> x.whole(v) ? 1 : 0);
        bounds("neck", ILLEGAL, 0, 7, (x, v) -> x.neck(v, 0));
        bounds("shorts", ILLEGAL, 0, 7, (x, v) -> x.shorts(v));
        bounds("length", ILLEGAL, 0, 9, (x, v) -> x.length(v));
        bounds("edge", ILLEGAL, 0, 7, (x, v) -> x.edge(v));
        bounds("better", ILLEGAL, 0, 2, (x, v) -> x.better(v));
        bounds("grow", ILLEGAL, 0, 20, (x, v) -> x.grow(v));
        bounds("region", OUTSIDE, 0, 127, (x, v) -> x.region(v));
        bounds("parted into", ILLEGAL, 1, 3, (x, v) -> x.parted(v, 0));
        bounds("parted what", ILLEGAL, -2, 7, (x, v) -> x.parted(1, v));
        bounds("worth", OUTSIDE, 0, 127, (x, v) -> x.worth(v, 3));
        bounds("worth to", ILLEGAL, 0, 7, (x, v) -> x.worth(0, v));
        refused("worth of a shut one", ILLEGAL, x -> x.worth(100, 3));
        refused("worth to its own", ILLEGAL, x -> x.worth(127, 2));
        bounds("quiet", OUTSIDE, 0, 127, (x, v) -> x.quiet(v));
    }

    private static void plansAndStorms() {
        bounds("configure", ILLEGAL, 0, 16777215, (x, v) -> x.configure(v));
        bounds("pairs of", MISSING, 0, 1, (x, v) -> x.pairs(v, 0));
        bounds("pairs in", ILLEGAL, 0, 23, (x, v) -> x.pairs(0, v));
        bounds("busy", ILLEGAL, 0, 100000, (x, v) -> x.busy(v));
        bounds("plan with", ILLEGAL, 0, 23, (x, v) -> x.plan(v, 0));
        bounds("plan what", ILLEGAL, -2, 23, (x, v) -> x.plan(0, v));
        bounds("hours what", ILLEGAL, 0, 1, (x, v) -> x.hours(v, 1));
        bounds("work", ILLEGAL, 1, 24, (x, v) -> x.hours(0, v));
        bounds("rest", ILLEGAL, 1, 8, (x, v) -> x.hours(1, v));
        bounds("ill", OUTSIDE, 0, 7, (x, v) -> x.ill(v, 1));
        bounds("ill from", ILLEGAL, 0, 24, (x, v) -> x.ill(0, v));
        bounds("rota of", ILLEGAL, 1, 8, (x, v) -> x.rota(v, 0, 0));
        bounds("rota with", ILLEGAL, 0, 23, (x, v) -> x.rota(1, v, 0));
        bounds("rota in", ILLEGAL, 0, 23, (x, v) -> x.rota(1, 0, v));
        bounds("lacks of", ILLEGAL, 1, 8, (x, v) -> x.lacks(v, 0));
        bounds("lacks with", ILLEGAL, 0, 23, (x, v) -> x.lacks(1, v));
        bounds("enough with", ILLEGAL, 0, 23, (x, v) -> x.enough(v));
        bounds("storm", OUTSIDE, 0, 127, (x, v) -> x.storm(v, true) ? 1 : 0);
        bounds("mends in", ILLEGAL, 0, 23, (x, v) -> x.mends(v, 0, 0, 0));
        bounds("mends held", ILLEGAL, 0, 8, (x, v) -> x.mends(0, v, 0, 0));
        bounds("mends refused", ILLEGAL, 0, 8, (x, v) -> x.mends(0, 0, v, 0));
        bounds("mends what", ILLEGAL, -2, 11, (x, v) -> x.mends(0, 0, 0, v));
        bounds("did of", ILLEGAL, 0, 7, (x, v) -> x.did(v, 0, 1, false));
        bounds("did in", ILLEGAL, 0, 23, (x, v) -> x.did(0, v, 1, false));
        bounds("did", ILLEGAL, 0, 9999, (x, v) -> x.did(0, 0, v, false));
        bounds("fit", ILLEGAL, 0, 5, (x, v) -> x.fit(v));
        bounds("lead of", ILLEGAL, 0, 7, (x, v) -> x.lead(v, 0, 0, false));
        bounds("lead in", ILLEGAL, 0, 23, (x, v) -> x.lead(0, v, 0, false));
    }

    private static int times(int many, Step step, SkyCuts x) {
        for (int i = 0; i < many; i++) {
            step.on(x);
        }
        return 0;
    }

    private static void byAnswer() {
        compare("feed above 200", x -> times(9, y -> y.feed(0, 0, 0, 0, 0), x), x -> x.feed(1, 2, 3, 4, 5), -1);
        compare("region that has it", x -> 0, x -> x.region(9), -2);
        compare("region of 8", x -> {
            for (int cell = 20; cell < 25; cell++) {
                x.region(cell);
            }
            return 0;
        }, x -> x.region(40), -1);
        compare("configure a 7th", x -> times(4, y -> y.configure(5), x), x -> x.configure(8), -1);
        compare("did a 41st", x -> times(38, y -> y.did(0, 0, 3, false), x), x -> x.did(1, 5, 9, true), -1);
        compare("mark a 5th", x -> times(3, SkyCuts::mark, x), SkyCuts::mark, -1);
        compare("back without", SkyCuts::back, SkyCuts::back, -1);
        compare("grow by none", x -> 0, x -> x.grow(0), 0);
        compare("way of no k", x -> 0, x -> x.way(0, 24), -1);
        compare("neck of no k", x -> 0, x -> x.neck(0, 128), -1);
        compare("lead of no k", x -> 0, x -> x.lead(0, 0, 12, true), -1);
        compare("count of others", x -> 0, x -> x.count(10), -1);
        // A fault leaves the rules and the streams as they were.
        compare("a fault of rules", RefusalsTest::faultyRules, RefusalsTest::faultyRules, -9);
        compare("a fault of a way", RefusalsTest::faultyWay, RefusalsTest::faultyWay, -9);
    }

    /** On the tape stands " 7 l 2", which is no rule; it is told anew. */
    private static int faultyRules(SkyCuts x) {
        int answer = x.rules(2);
        feed(x, " 7 l 2");
        return answer;
    }

    private static int faultyWay(SkyCuts x) {
        int answer = x.stream(1);
        feed(x, " 7 l 2");
        return answer;
    }

    public static void main(String[] args) {
        airAndPieces();
        partings();
        plansAndStorms();
        byAnswer();
        System.out.println("RefusalsTest: " + seen + " calls refused, " + wrong + " wrong");
        if (wrong > 0) {
            System.exit(1);
        }
    }
}
