/** Every sentence that names an edge of plans and rotas: ==== 4 and 5 of the terms, promises 27 to 35. */
public final class EdgesWatchTest extends Edges {
    private static final int[] NO_CHANGES = {-1, 24, LEAST, GREATEST};
    private static final int[] NO_PAIRS = {0, 9, -1, LEAST, GREATEST};

    /** The low layer is piece 0, the high one piece 1; together as configuration 0, apart as 1. */
    private static SkyCuts layers() {
        SkyCuts x = new SkyCuts();
        x.paint(64, 127, 1);
        stream(x, "0");
        stream(x, "64");
        x.configure(0);
        x.configure(8);
        return x;
    }

    /** Both layers hear so much in these quarters. */
    private static void flood(SkyCuts x, int from, int to, int count) {
        x.flow(0, from, to, count);
        x.flow(1, from, to, count);
    }

    private static void configurations() {
        says("CONFIGURATIONS, numbered from 0 on, 6 at most: a GROUP (0 to 7) for each PIECE.", () -> {
            SkyCuts x = new SkyCuts();
            for (int i = 0; i < 6; i++) {
                due("configuration " + i, x.configure(i), i);
                due("configurations", x.count(5), i + 1);
            }
            due("a 7th", x.configure(0), -1);
            due("configurations", x.count(5), 6);
            due("the 6th", x.pairs(5, 0), 1);
            missing("the 7th", () -> x.pairs(6, 0));
        });
        says("GROUPS as digits to the base 8, PIECE 0 the lowest: its number; -1: there are 6.", () -> {
            // Each piece with one other one: a digit alone parts them.
            for (int piece = 1; piece < 8; piece++) {
                SkyCuts x = new SkyCuts();
                x.assign(0, piece);
                due("number", x.configure(0), 0);
                due("number", x.configure(1 << 3 * piece), 1);
                due("number", x.configure(7 << 3 * piece), 2);
                due("number", x.configure(1), 3);
                due("number", x.configure(16777215 & ~(7 << 3 * piece) & ~7), 4);
                due("number", x.configure(16777215), 5);
                due("together", x.pairs(0, 0), 1);
                due("apart", x.pairs(1, 0), 2);
                due("apart by 7", x.pairs(2, 0), 2);
                due("apart by piece 0", x.pairs(3, 0), 2);
                due("together, but for the others", x.pairs(4, 0), 1);
                due("all in group 7", x.pairs(5, 0), 1);
            }
        });
        says("IllegalArgumentException: below 0, or 8 to the power of 8 or more.", () -> {
            SkyCuts x = new SkyCuts();
            for (int groups : new int[] {-1, 16777216, 16777217, LEAST, GREATEST}) {
                illegal("groups " + groups, () -> x.configure(groups));
            }
            due("configurations", x.count(5), 0);
            due("0", x.configure(0), 0);
            due("8 to the power of 8 less 1", x.configure(16777215), 1);
            for (int i = 2; i < 6; i++) {
                x.configure(i);
            }
            illegal("below 0, with 6", () -> x.configure(-1));
            illegal("too many, with 6", () -> x.configure(16777216));
        });
        says("It needs a pair for each GROUP that has CELLS.", () -> {
            SkyCuts x = shut();
            x.configure(076543210);
            x.configure(0);
            x.configure(011110000);
            due("no cells", x.pairs(0, 0), 0);
            for (int piece = 0; piece < 8; piece++) {
                x.assign(9 * piece, piece);
                due("each for itself", x.pairs(0, 0), piece + 1);
                due("all together", x.pairs(1, 0), 1);
                due("two groups", x.pairs(2, 0), piece < 4 ? 1 : 2);
            }
        });
    }

    private static void canBe() {
        says("LOAD is at most the LIMIT of its least PIECE with CELLS", () -> {
            SkyCuts x = layers();
            flood(x, 0, 23, 30);
            due("60 of 40", x.pairs(0, 0), -1);
            x.limit(0, 60);
            due("60 of 60", x.pairs(0, 0), 1);
            x.limit(1, 0);
            due("the other limit does not count", x.pairs(0, 0), 1);
            x.limit(0, 59);
            x.limit(1, 9999);
            due("60 of 59", x.pairs(0, 0), -1);
            due("apart, 30 of 59", x.pairs(1, 0), 2);
            x.limit(1, 30);
            due("apart, 30 of 30", x.pairs(1, 0), 2);
            x.limit(1, 29);
            due("apart, 30 of 29", x.pairs(1, 0), -1);
            x.limit(1, 30);
            x.limit(0, 29);
            due("the other one, 30 of 29", x.pairs(1, 0), -1);
            // A piece without cells is not the least one.
            x.paint(0, 63, -1);
            due("piece 1 alone, 30 of 30", x.pairs(0, 0), 1);
            x.limit(1, 29);
            due("piece 1 alone, 30 of 29", x.pairs(0, 0), -1);
            x.paint(64, 127, 2);
            due("piece 2 alone, 30 of 40", x.pairs(0, 0), 1);
        });
        says("(all its CELLS as one set)", () -> {
            SkyCuts x = new SkyCuts();
            x.paint(64, 127, 1);
            stream(x, "0c", 10);
            x.configure(0);
            x.configure(8);
            // Apart each hears 10 ways and 10 over, together 10 ways alone.
            x.limit(0, 10);
            x.limit(1, 20);
            due("together", x.pairs(0, 0), 1);
            due("apart", x.pairs(1, 0), -1);
            rules(x, "load climb;");
            x.limit(0, 0);
            due("climbing together", x.pairs(0, 0), -1);
            due("apart", x.pairs(1, 0), 2);
        });
        says("if it has several PIECES with CELLS, all joins hold for it.", () -> {
            SkyCuts x = layers();
            rules(x, "join 2 < 1;");
            due("two pieces", x.pairs(0, 0), -1);
            due("each for itself", x.pairs(1, 0), 2);
            x.paint(64, 127, -1);
            due("one with cells", x.pairs(0, 0), 1);
            x.paint(64, 127, 0);
            due("one piece", x.pairs(0, 0), 1);
            x.paint(64, 127, 1);
            rules(x, "join ways < 5; join cells = 128; join pieces = 2; join low = 64;");
            due("all hold", x.pairs(0, 0), 1);
            flood(x, 7, 7, 2);
            due("4 ways", x.pairs(0, 7), 1);
            flood(x, 7, 7, 3);
            due("6 ways", x.pairs(0, 7), -1);
            due("in another quarter", x.pairs(0, 8), 1);
        });
        says("Pairs that a CONFIGURATION needs; NONE: it CAN not be in that QUARTER.", () -> {
            SkyCuts x = layers();
            for (int q = 0; q < 24; q++) {
                flood(x, q, q, 21);
                for (int other = 0; other < 24; other += 23) {
                    due("quarter " + other, x.pairs(0, other), other == q ? -1 : 1);
                }
                due("quarter " + q, x.pairs(0, q), -1);
                due("quarter " + q + ", apart", x.pairs(1, q), 2);
                flood(x, q, q, 20);
                due("quarter " + q, x.pairs(0, q), 1);
                flood(x, q, q, 0);
            }
        });
        says("NoSuchElementException: no such CONFIGURATION.", () -> {
            SkyCuts x = new SkyCuts();
            missing("none at all", () -> x.pairs(0, 0));
            x.configure(0);
            for (int c : new int[] {-1, 1, 6, LEAST, GREATEST}) {
                missing("configuration " + c, () -> x.pairs(c, 0));
                missing("configuration " + c + ", no quarter", () -> x.pairs(c, 24));
            }
        });
    }

    private static void busy() {
        says("BUSY is a QUARTER, if the LOADS of all PIECES with CELLS together are above a told sum (1,000 at first).",
            () -> {
                SkyCuts x = layers();
                x.limit(0, 9999);
                x.limit(1, 9999);
                flood(x, 8, 11, 50);
                rules(x, "load ways * 10; join ways < 100;");
                due("1,000 is not above", x.plan(23, -1), 28);
                due("1,000 is not above", x.plan(23, 7), 0);
                rules(x, "load ways * 10 + low / 64; join ways < 100;");
                due("1,001 is above", x.plan(23, -1), 29);
                due("1,001 is above", x.plan(23, 7), 1);
                due("it was", x.busy(1001), 1000);
                due("1,001 is not above", x.plan(23, -1), 28);
                // Those without cells have a load, too, which does not count.
                rules(x, "load 100; join ways < 100;");
                x.busy(200);
                due("200 is not above", x.plan(23, -1), 28);
                x.busy(199);
                due("200 is above, everywhere", x.plan(23, -1), 48);
                due("200 is above, everywhere", x.plan(23, -2), 0);
                // Each is a piece alone.
                rules(x, "load ways * pieces + pieces * 100; join ways < 100;");
                x.busy(300);
                due("300 is not above", x.plan(23, -1), 28);
                x.busy(299);
                due("300 is above", x.plan(23, -1), 29);
                sumsWrap();
                inOneLayer(0);
                inOneLayer(64);
            });
        says("The sum above which a QUARTER is BUSY (0 to 100,000): what it was.", () -> {
            SkyCuts x = layers();
            due("at first", x.busy(0), 1000);
            due("0", x.busy(100000), 0);
            due("100,000", x.busy(5), 100000);
            for (int v : new int[] {-1, 100001, LEAST, GREATEST}) {
                illegal("busy " + v, () -> x.busy(v));
            }
            due("it stays", x.busy(0), 5);
            flood(x, 8, 11, 21);
            due("0 is not above 0", x.plan(23, -1), 29);
        });
    }

    /** Two pieces of one layer, the other one is shut; they can't be together in quarter 9. */
    private static void inOneLayer(int first) {
        SkyCuts x = shut();
        x.paint(first, first + 31, 0);
        x.paint(first + 32, first + 63, 1);
        stream(x, "" + first);
        stream(x, "" + (first + 63));
        x.configure(0);
        x.configure(8);
        flood(x, 9, 9, 25);
        x.busy(50);
        due("50 is not above 50", x.plan(23, -1), 25);
        x.busy(49);
        due("50 is above 49", x.plan(23, -1), 26);
    }

    /** Three times a load of -2^30 is 2^30; two times it is -2^31. */
    private static void sumsWrap() {
        SkyCuts x = layers();
        x.assign(127, 2);
        flood(x, 8, 11, 30);
        rules(x, "load 0 - 512 * 512 * 512 * 8; join ways < 60;");
        due("wrapped above", x.plan(23, -1), 48);
        x.assign(127, 1);
        due("below 0", x.plan(23, -1), 28);
    }

    /** Configuration 0 can be in even quarters alone, 1 in odd ones; each needs two pairs. */
    private static SkyCuts turns() {
        SkyCuts x = new SkyCuts();
        x.paint(64, 127, 1);
        x.assign(127, 2);
        stream(x, "0", 30);
        stream(x, "64");
        stream(x, "127");
        for (int q = 0; q < 24; q++) {
            x.flow(1 + (q + 1) % 2, q, q, 30);
        }
        x.configure(0100);
        x.configure(010);
        return x;
    }

    private static void plans() {
        says("PLAN with m CHANGES at most (0 to 23)", () -> {
            SkyCuts x = turns();
            due("pairs", x.plan(23, -1), 48);
            due("changes", x.plan(23, -2), 23);
            for (int q = 0; q < 24; q++) {
                due("quarter " + q, x.plan(23, q), q % 2);
            }
            for (int m = 0; m < 23; m++) {
                due("with " + m, x.plan(m, -1), -1);
                due("with " + m, x.plan(m, -2), -1);
                due("with " + m, x.plan(m, m), -1);
            }
            SkyCuts y = layers();
            flood(y, 8, 11, 30);
            int[] pairs = {48, 36, 28, 28};
            for (int m = 0; m < 4; m++) {
                due("pairs with " + m, y.plan(m, -1), pairs[m]);
                due("changes with " + m, y.plan(m, -2), Math.min(m, 2));
            }
        });
        says("for each QUARTER a CONFIGURATION that CAN be", () -> {
            for (int q = 0; q < 24; q++) {
                SkyCuts x = layers();
                flood(x, q, q, 21);
                due("apart in " + q, x.plan(23, q), 1);
                due("pairs", x.plan(23, -1), 25);
                due("changes", x.plan(23, -2), q == 0 || q == 23 ? 1 : 2);
                flood(x, q, q, 41);
                due("none in " + q, x.plan(23, -1), -1);
            }
        });
        says("no CHANGE to another one as a BUSY QUARTER begins.", () -> {
            SkyCuts x = turns();
            x.busy(60);
            due("60 is not above 60", x.plan(23, -1), 48);
            x.busy(59);
            due("60 is above 59", x.plan(23, -1), -1);
            // As the first quarter begins, nothing changes.
            x.flow(0, 0, 0, 40);
            x.busy(60);
            due("the first one is busy", x.plan(23, -2), 23);
            x.flow(0, 0, 0, 30);
            x.flow(0, 23, 23, 40);
            due("the last one is busy", x.plan(23, -2), -1);
            // A change may be ahead of a busy one, and behind it.
            SkyCuts y = layers();
            flood(y, 8, 11, 30);
            y.busy(59);
            for (int q = 0; q < 24; q++) {
                due("quarter " + q, y.plan(2, q), q >= 7 && q <= 11 ? 1 : 0);
            }
            due("pairs", y.plan(2, -1), 29);
        });
        says("of all the one with the fewest pairs in all QUARTERS together; of these with the fewest CHANGES", () -> {
            SkyCuts x = layers();
            due("the fewest pairs", x.plan(23, -1), 24);
            due("no changes", x.plan(23, -2), 0);
            // Between two quarters that part them, one is worth two changes.
            flood(x, 8, 8, 30);
            flood(x, 10, 10, 30);
            due("pairs", x.plan(23, -1), 26);
            due("changes", x.plan(23, -2), 4);
            due("pairs", x.plan(3, -1), 27);
            due("changes", x.plan(3, -2), 2);
            due("quarter 9", x.plan(3, 9), 1);
            SkyCuts y = layers();
            y.configure(0);
            y.configure(0);
            due("like ones don't take turns", y.plan(23, -2), 0);
            due("the first of them", y.plan(23, 23), 0);
        });
        says("of these the first (QUARTER by QUARTER the least CONFIGURATION). There may be none.", () -> {
            due("without configurations", new SkyCuts().plan(23, -1), -1);
            due("without configurations", new SkyCuts().plan(23, 0), -1);
            overlap(0100, 010, 15, 1000);
            overlap(010, 0100, 10, 1000);
            // In quarter 10 there are 35, in 11 to 15 there are 30: it is the first that is not busy.
            overlap(010, 0100, 11, 34);
            overlap(010, 0100, 10, 35);
        });
        says("BEST PLAN: what -1 pairs together, -2 CHANGES, or the CONFIGURATION of a QUARTER; NONE: there is none.",
            () -> {
                SkyCuts x = shut();
                x.configure(5);
                due("no cells, no pairs", x.plan(0, -1), 0);
                due("no changes", x.plan(0, -2), 0);
                due("quarter 0", x.plan(0, 0), 0);
                due("quarter 23", x.plan(0, 23), 0);
            });
        says("IllegalArgumentException: m, or what is not -2 to 23.", () -> {
            SkyCuts x = new SkyCuts();
            for (int m : NO_CHANGES) {
                illegal("m " + m, () -> x.plan(m, 0));
            }
            for (int what : new int[] {-3, 24, LEAST, GREATEST}) {
                illegal("what " + what, () -> x.plan(0, what));
            }
            x.configure(0);
            illegal("m 24", () -> x.plan(24, 0));
            illegal("what 24", () -> x.plan(0, 24));
        });
    }

    /** One can be in quarters 0 to 15 (pieces 0 and 1 together), the other in 10 to 23 (0 and 2): it changes once. */
    private static void overlap(int first, int second, int last, int busy) {
        SkyCuts x = new SkyCuts();
        x.paint(64, 127, 1);
        x.assign(127, 2);
        stream(x, "0", 30);
        stream(x, "64");
        stream(x, "127");
        x.flow(1, 16, 23, 30);
        x.flow(2, 0, 9, 30);
        x.flow(0, 10, 10, 35);
        x.busy(busy);
        x.configure(first);
        x.configure(second);
        int early = first == 0100 ? 0 : 1;
        due("changes", x.plan(23, -2), 1);
        for (int q = 0; q < 24; q++) {
            boolean turned = early == 0 ? q > last : q >= last;
            due("quarter " + q, x.plan(23, q), turned ? 1 - early : early);
        }
    }

    /** So many pieces of one cell each, and each for itself. */
    private static SkyCuts needing(int pairs) {
        SkyCuts x = shut();
        for (int piece = 0; piece < pairs; piece++) {
            x.assign(9 * piece, piece);
        }
        x.configure(076543210);
        return x;
    }

    private static void watches(SkyCuts x, int n, int... want) {
        for (int q = 0; q < want.length; q++) {
            due("rota of " + n + " in " + q, x.rota(n, 23, q), want[q]);
        }
    }

    private static void hours() {
        says("work WORK QUARTERS on end (1 to 24; 8 at first), then rest REST QUARTERS (1 to 8; 2 at first).", () -> {
            SkyCuts x = needing(1);
            watches(x, 1, 1, 1, 1, 1, 1, 1, 1, 1, 0, 0, 1, 1, 1, 1, 1, 1, 1, 1, 0, 0, 1, 1, 1, 1);
            due("work at first", x.hours(0, 1), 8);
            watches(x, 1, 1, 0, 0, 1, 0, 0, 1, 0, 0, 1, 0, 0, 1, 0, 0, 1, 0, 0, 1, 0, 0, 1, 0, 0);
            due("rest at first", x.hours(1, 1), 2);
            watches(x, 1, 1, 0, 1, 0, 1, 0, 1, 0, 1, 0, 1, 0, 1, 0, 1, 0, 1, 0, 1, 0, 1, 0, 1, 0);
            due("rest", x.hours(1, 8), 1);
            watches(x, 1, 1, 0, 0, 0, 0, 0, 0, 0, 0, 1, 0, 0, 0, 0, 0, 0, 0, 0, 1, 0, 0, 0, 0, 0);
            due("lacks", x.lacks(1, 0), 21);
            due("work", x.hours(0, 24), 1);
            due("lacks", x.lacks(1, 0), 0);
            due("work", x.hours(0, 23), 24);
            due("lacks", x.lacks(1, 0), 1);
            due("in the last quarter", x.rota(1, 0, 23), 0);
        });
        says("0 WORK, 1 REST: what it was.", () -> {
            SkyCuts x = new SkyCuts();
            due("work", x.hours(0, 24), 8);
            due("work", x.hours(0, 1), 24);
            due("rest", x.hours(1, 8), 2);
            due("rest", x.hours(1, 1), 8);
            for (int v : new int[] {0, 25, -1, LEAST, GREATEST}) {
                illegal("work " + v, () -> x.hours(0, v));
            }
            for (int v : new int[] {0, 9, -1, LEAST, GREATEST}) {
                illegal("rest " + v, () -> x.hours(1, v));
            }
            for (int what : new int[] {-1, 2, LEAST, GREATEST}) {
                illegal("what " + what, () -> x.hours(what, 1));
            }
            due("work stays", x.hours(0, 1), 1);
            due("rest stays", x.hours(1, 1), 1);
        });
    }

    /** Two are needed where both layers hear 30, else one. */
    private static SkyCuts tides(int... fromTo) {
        SkyCuts x = layers();
        for (int i = 0; i < fromTo.length; i += 2) {
            flood(x, fromTo[i], fromTo[i + 1], 30);
        }
        return x;
    }

    private static void rotas() {
        says("ROTA of the first n of them (1 to 8) for a BEST PLAN", () -> {
            SkyCuts x = needing(8);
            for (int n = 1; n <= 8; n++) {
                due("the first " + n, x.rota(n, 0, 0), (1 << n) - 1);
                due("the first " + n + " rest", x.rota(n, 0, 8), 0);
                due("the first " + n + " again", x.rota(n, 0, 10), (1 << n) - 1);
            }
            SkyCuts y = needing(3);
            for (int n = 1; n <= 8; n++) {
                due("three of " + n, y.rota(n, 0, 0), (1 << Math.min(n, 3)) - 1);
            }
            due("none needed", needing(0).rota(8, 0, 0), 0);
            // For the best plan with so many changes.
            SkyCuts z = tides(8, 11);
            due("apart all day", z.rota(8, 0, 0), 3);
            due("apart from the first on", z.rota(8, 1, 0), 3);
            due("together at first", z.rota(8, 2, 0), 1);
        });
        says("first those that watched in the one ahead and may go on, then those that may begin", () -> {
            SkyCuts x = needing(1);
            watches(x, 2, 1, 1, 1, 1, 1, 1, 1, 1, 2, 2, 2, 2, 2, 2, 2, 2, 1, 1, 1, 1, 1, 1, 1, 1);
            x.hours(0, 3);
            x.hours(1, 8);
            // 0 and 1 can't begin again ahead of 11 and 14.
            watches(x, 2, 1, 1, 1, 2, 2, 2, 0, 0, 0, 0, 0, 1, 1, 1, 2, 2, 2, 0, 0, 0, 0, 0, 1, 1);
            // One that goes on has watched more than one that might begin.
            SkyCuts y = tides(4, 5);
            watches(y, 3, 1, 1, 1, 1, 3, 3);
        });
        says("each by how many QUARTERS they watched in all (the fewest first), then by number", () -> {
            SkyCuts x = needing(1);
            watches(x, 3, 1, 1, 1, 1, 1, 1, 1, 1, 2, 2, 2, 2, 2, 2, 2, 2, 4, 4, 4, 4, 4, 4, 4, 4);
            // Of two that go on the one that watched less stays.
            SkyCuts y = tides(4, 5);
            watches(y, 3, 1, 1, 1, 1, 3, 3, 2, 2, 2, 2, 2, 2, 4);
            // Of two that watched alike the lesser number stays.
            SkyCuts z = tides(0, 3);
            watches(z, 3, 3, 3, 3, 3, 1, 1, 1, 1, 4, 4, 4, 4, 4, 4, 4, 4, 2, 2, 2, 2, 2, 2, 2, 2);
            // Of those that may begin the one that watched least.
            SkyCuts w = needing(1);
            w.hours(0, 1);
            w.hours(1, 1);
            watches(w, 4, 1, 2, 4, 8, 1, 2, 4, 8);
        });
        says("one that does not watch on rests from then (as if it had worked WORK ones).", () -> {
            SkyCuts x = tides(0, 3, 5, 8);
            watches(x, 2, 3, 3, 3, 3, 1, 1, 3, 3, 2, 2, 2, 2, 2, 2, 1);
            due("lacks", x.lacks(2, 23), 2);
            x.hours(1, 1);
            watches(x, 2, 3, 3, 3, 3, 1, 3, 3, 3, 2, 2);
            x.hours(1, 8);
            watches(x, 2, 3, 3, 3, 3, 1, 1, 1, 1, 0, 0, 0, 0, 2);
        });
        says("ILL from a QUARTER on (told) one watches no more.", () -> {
            SkyCuts x = needing(1);
            x.ill(0, 3);
            watches(x, 2, 1, 1, 1, 2, 2, 2, 2, 2, 2, 2, 2, 0, 0, 2, 2);
            x.ill(0, 0);
            watches(x, 2, 2, 2, 2, 2, 2, 2, 2, 2, 0, 0, 2);
            x.ill(1, 0);
            due("all ill", x.lacks(2, 0), 24);
            x.ill(0, 23);
            x.hours(0, 24);
            due("well in 22", x.rota(1, 0, 22), 1);
            due("ill in 23", x.rota(1, 0, 23), 0);
            x.ill(0, 24);
            due("well in 23", x.rota(1, 0, 23), 1);
        });
        says("A PAIR is ILL from a QUARTER on (24: not): what it was (24 at first).", () -> {
            SkyCuts x = new SkyCuts();
            for (int pair = 0; pair < 8; pair++) {
                due("at first", x.ill(pair, 0), 24);
                due("then", x.ill(pair, 23), 0);
                due("then", x.ill(pair, 24), 23);
                due("then", x.ill(pair, pair), 24);
            }
            for (int q : new int[] {-1, 25, LEAST, GREATEST}) {
                illegal("quarter " + q, () -> x.ill(3, q));
            }
            due("it stays", x.ill(3, 3), 3);
        });
        says("IndexOutOfBoundsException: no such PAIR.", () -> {
            SkyCuts x = new SkyCuts();
            for (int pair : new int[] {-1, 8, LEAST, GREATEST}) {
                outside("pair " + pair, () -> x.ill(pair, 0));
                outside("pair " + pair + ", no quarter", () -> x.ill(pair, 25));
            }
        });
    }

    private static void lacking() {
        says("which PAIRS watch in a QUARTER (bits); NONE: there is no PLAN. IllegalArgumentException: also n or m.", () -> {
            SkyCuts x = new SkyCuts();
            due("no plan", x.rota(8, 23, 23), -1);
            for (int turn = 0; turn < 2; turn++) {
                for (int n : NO_PAIRS) {
                    illegal("rota of n " + n, () -> x.rota(n, 0, 0));
                    illegal("lacks of n " + n, () -> x.lacks(n, 0));
                }
                for (int m : NO_CHANGES) {
                    illegal("rota of m " + m, () -> x.rota(1, m, 0));
                    illegal("lacks of m " + m, () -> x.lacks(1, m));
                    illegal("enough of m " + m, () -> x.enough(m));
                }
                x.configure(0);
            }
            due("bits", needing(8).rota(8, 0, 0), 255);
            SkyCuts y = turns();
            due("no plan with 22", y.rota(8, 22, 0), -1);
            due("a plan with 23", y.rota(8, 23, 0), 3);
        });
        says("LACKS: how many are wanting in all QUARTERS together.", () -> {
            SkyCuts x = needing(8);
            due("one of eight", x.lacks(1, 0), 7 * 24 + 4);
            due("eight", x.lacks(8, 0), 8 * 4);
            x.hours(0, 24);
            due("eight all day", x.lacks(8, 0), 0);
            due("seven all day", x.lacks(7, 0), 24);
            due("none needed", needing(0).lacks(1, 0), 0);
        });
        says("LACKS; NONE likewise.", () -> {
            due("no plan", new SkyCuts().lacks(1, 0), -1);
            due("no plan with 22", turns().lacks(8, 22), -1);
            due("a plan with 23", turns().lacks(8, 23), 0);
        });
        says("ENOUGH: the least n without LACKS; NONE.", () -> {
            for (int pairs = 1; pairs <= 8; pairs++) {
                SkyCuts x = needing(pairs);
                x.hours(0, 24);
                due("all day, " + pairs, x.enough(0), pairs);
                x.hours(0, 23);
                due("but for one quarter, " + pairs, x.enough(0), pairs <= 4 ? 2 * pairs : -1);
                x.hours(0, 24);
                x.ill(7, 23);
                due("one ill, " + pairs, x.enough(0), pairs < 8 ? pairs : -1);
                x.ill(0, 0);
                due("two ill, " + pairs, x.enough(0), pairs < 7 ? pairs + 1 : -1);
            }
            due("none needed", needing(0).enough(0), 1);
        });
        says("ENOUGH; NONE (also without PLAN).", () -> {
            due("no configuration", new SkyCuts().enough(23), -1);
            due("no plan with 22", turns().enough(22), -1);
            due("a plan with 23", turns().enough(23) > 0, true);
        });
    }

    public static void main(String[] args) {
        configurations();
        canBe();
        busy();
        plans();
        hours();
        rotas();
        lacking();
        close("EdgesWatchTest");
    }
}
