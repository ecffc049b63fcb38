/** Every sentence that names an edge of storms, rows and parts: ==== 6 and 7 of the terms, promises 36 to 40 and 45. */
public final class EdgesStormTest extends Edges {
    private static void storm(SkyCuts x, int... cells) {
        for (int cell : cells) {
            x.storm(cell, true);
        }
    }

    private static void storms() {
        says("A STORM shuts CELLS (told, besides those that are SHUT, which streams may cross) in a QUARTER.", () -> {
            SkyCuts x = new SkyCuts();
            stream(x, "0r3", 1);
            x.paint(0, 63, -1);
            due("shut cells hit nobody", x.mends(0, 0, 0, -2), 0);
            due("cells of the storm", x.count(7), 0);
            storm(x, 1);
            due("shut cells", x.count(3), 64);
            due("cells of the storm", x.count(7), 1);
            due("hit", x.mends(0, 0, 0, -2), 1);
            due("over shut cells it goes round", x.mends(0, 0, 0, -1), 4);
            // The storm is no end of a piece, and no way is told anew.
            SkyCuts y = new SkyCuts();
            stream(y, "0r3", 1);
            storm(y, 1, 2);
            due("its piece is whole", y.whole(0), true);
            due("nothing is at an edge", y.edge(0), 0);
            due("its way", y.way(0, 1), 1);
            due("it hears", y.hears(0, 0, 4), 1);
            due("shut cells", y.count(3), 0);
        });
        says("A STORM shuts a CELL, or not: what it was.", () -> {
            SkyCuts x = new SkyCuts();
            for (int cell : new int[] {0, 63, 64, 127}) {
                due("not so at first", x.storm(cell, false), false);
                due("then it is", x.storm(cell, true), false);
                due("again", x.storm(cell, true), true);
                due("then it is not", x.storm(cell, false), true);
                due("again", x.storm(cell, false), false);
                due("cells", x.count(7), 0);
            }
            for (int cell = 0; cell < 128; cell++) {
                x.storm(cell, true);
            }
            due("all cells", x.count(7), 128);
        });
        says("HIT are STREAMS with MOST above 0 there whose WAY has such a CELL.", () -> {
            for (int cell = 0; cell < 6; cell++) {
                SkyCuts x = new SkyCuts();
                stream(x, "1r3", 1);
                storm(x, cell);
                due("by cell " + cell, x.mends(0, 8, 8, -2), cell >= 1 && cell <= 4 ? 1 : 0);
                storm(x, 64 + cell);
                x.storm(cell, false);
                due("by cell " + (64 + cell), x.mends(0, 8, 8, -2), 0);
            }
            // Each of twelve by a cell of its own, in both layers.
            SkyCuts many = new SkyCuts();
            for (int s = 0; s < 12; s++) {
                stream(many, (s % 2 == 0 ? s : 64 + s) + "d", 1);
            }
            for (int s = 0; s < 12; s++) {
                int cell = s % 2 == 0 ? s : 64 + s;
                many.storm(cell, true);
                due("hit in " + cell, many.mends(0, 0, 0, -2), hitBy(cell));
                due("mends", many.mends(0, 8, 0, -1) >= 15, true);
                due("mend of " + s, many.mends(0, 8, 0, s), 2);
                many.storm(cell, false);
            }
            SkyCuts y = new SkyCuts();
            stream(y, "0");
            storm(y, 0);
            y.flow(0, 10, 10, 1);
            y.span(0, 1, 2);
            for (int q = 0; q < 24; q++) {
                due("in quarter " + q, y.mends(q, 0, 0, -2), q >= 9 && q <= 12 ? 1 : 0);
            }
        });
    }

    /** Streams s from cell s (64 + s, if it is odd) one cell down, by one that they have. */
    private static int hitBy(int cell) {
        int bits = 0;
        for (int s = 0; s < 12; s++) {
            int first = s % 2 == 0 ? s : 64 + s;
            if (cell == first || cell == first + 8) {
                bits |= 1 << s;
            }
        }
        return bits;
    }

    /** It goes round by these cells: in any other one it would be heard too much. */
    private static void round(String way, int[] shut, int... cells) {
        SkyCuts x = new SkyCuts();
        stream(x, way, 1);
        storm(x, shut);
        rules(x, "load ways;");
        x.limit(0, 0);
        put(x, 1, cells);
        due(way + " goes there", x.mends(0, 0, 0, 0), 1);
        for (int cell : cells) {
            x.assign(cell, 0);
            due(way + " goes by " + cell, x.mends(0, 0, 0, 0), -1);
            x.assign(cell, 1);
        }
    }

    private static void rounds() {
        says("over CELLS that are not shut by the STORM (of these ways the first: step by step the least CELL", () -> {
            round("0r3", new int[] {1}, 0, 8, 9, 10, 2, 3);
            round("0r3", new int[] {2}, 0, 1, 9, 10, 11, 3);
            round("3l3", new int[] {1}, 3, 2, 10, 9, 8, 0);
            round("0r2", new int[] {1, 9}, 0, 64, 65, 66, 2);
            round("64r2", new int[] {65}, 64, 0, 1, 2, 66);
            round("0rd", new int[] {1}, 0, 8, 9);
            round("0dr", new int[] {8}, 0, 1, 9);
            round("0r2d2", new int[] {2}, 0, 1, 9, 10, 18);
            round("18u2l2", new int[] {2}, 18, 10, 9, 1, 0);
            round("63l3", new int[] {62}, 63, 55, 54, 53, 52, 60);
            round("0cr", new int[] {64}, 0, 1, 65);
            round("65sl", new int[] {1}, 65, 64, 0);
        });
        says("none, if an end is shut or there is no way of 24 CELLS at most)", () -> {
            for (int cell = 0; cell < 5; cell++) {
                SkyCuts x = new SkyCuts();
                stream(x, "0r4", 1);
                storm(x, cell);
                due("round by " + cell, x.mends(0, 0, 0, 0), cell == 0 || cell == 4 ? -1 : 1);
                due("held by " + cell, x.mends(0, 8, 8, 0), cell == 0 || cell == 4 ? 2 : 1);
            }
            SkyCuts alone = new SkyCuts();
            stream(alone, "127", 1);
            storm(alone, 127);
            due("a cell alone", alone.mends(0, 0, 0, 0), -1);
            due("a cell alone, refused", alone.mends(0, 0, 1, 0), 3);
            corridor(5, 24);
            corridor(6, 25);
            corridor(4, 23);
            // Shut in: there is no way at all.
            SkyCuts y = new SkyCuts();
            stream(y, "0r", 1);
            stream(y, "0r2", 1);
            storm(y, 8, 64, 1);
            due("both are hit", y.mends(0, 0, 0, -2), 3);
            due("no way for either", y.mends(0, 0, 0, -1), -1);
            due("held", y.mends(0, 2, 0, -1), 30);
        });
        says("2 minutes for each CELL more than its WAY has and each of MOST (0 at least)", () -> {
            for (int most = 1; most <= 50; most += 7) {
                SkyCuts x = new SkyCuts();
                x.limit(0, 9999);
                stream(x, "0r2", most);
                storm(x, 1);
                due("2 cells more", x.mends(0, 0, 0, -1), 4 * most);
                storm(x, 9, 65);
                due("4 cells more", x.mends(0, 0, 0, -1), 8 * most);
            }
            SkyCuts y = new SkyCuts();
            stream(y, "0d2r2u2", 9);
            storm(y, 16);
            due("4 cells less", y.mends(0, 0, 0, -1), 0);
            due("its mend", y.mends(0, 8, 8, 0), 1);
            SkyCuts z = new SkyCuts();
            stream(z, "0rd", 9);
            storm(z, 1);
            due("as many cells", z.mends(0, 0, 0, -1), 0);
            // By most, not by count.
            SkyCuts w = new SkyCuts();
            stream(w, "0r2");
            w.flow(0, 3, 3, 7);
            w.span(0, 0, 2);
            storm(w, 1);
            due("late ones", w.mends(5, 0, 0, -1), 28);
            due("later ones", w.mends(6, 0, 0, -1), 0);
        });
    }

    /** Down x 0, up x 2 and down x 4 to y: a way of y + 19 cells. */
    private static void corridor(int y, int cells) {
        SkyCuts x = new SkyCuts();
        stream(x, "0r4d" + y, 1);
        for (int c = 0; c < 64; c++) {
            x.storm(64 + c, true);
            if (c % 8 == 1 && c < 56 || c % 8 == 3 && c > 8) {
                x.storm(c, true);
            }
        }
        due("a way of " + cells, x.mends(0, 0, 0, -1), cells <= 24 ? 2 * (cells - y - 5) : -1);
    }

    /** So many streams of one cell that the storm shuts: none goes round. */
    private static SkyCuts struck(int many) {
        SkyCuts x = new SkyCuts();
        for (int i = 0; i < many; i++) {
            stream(x, "0", 1);
        }
        storm(x, 0);
        x.limit(0, 9999);
        return x;
    }

    private static void heldAndRefused() {
        says("2 HELD: not in this QUARTER: 15 minutes each", () -> {
            for (int most = 1; most <= 50; most += 7) {
                SkyCuts x = struck(1);
                x.flow(0, 0, 0, most);
                due("held", x.mends(0, 1, 0, 0), 2);
                due("minutes", x.mends(0, 1, 0, -1), 15 * most);
            }
        });
        says("3 REFUSED: 60 minutes each, at most a told number of STREAMS. At most so many STREAMS are HELD, too.", () -> {
            for (int most = 1; most <= 50; most += 7) {
                SkyCuts x = struck(1);
                x.flow(0, 0, 0, most);
                due("refused", x.mends(0, 0, 1, 0), 3);
                due("minutes", x.mends(0, 0, 1, -1), 60 * most);
            }
            SkyCuts y = struck(8);
            for (int held = 0; held <= 8; held++) {
                for (int refused = 0; refused <= 8; refused++) {
                    int want = held + refused < 8 ? -1 : 15 * held + 60 * (8 - held);
                    due(held + " held, " + refused + " refused", y.mends(0, held, refused, -1), want);
                }
            }
        });
        says("with so many HELD and REFUSED at most (0 to 8 each)", () -> {
            SkyCuts x = struck(1);
            due("0 and 0", x.mends(0, 0, 0, -1), -1);
            due("8 and 8", x.mends(0, 8, 8, -1), 15);
            for (int many : new int[] {-1, 9, LEAST, GREATEST}) {
                illegal("held " + many, () -> x.mends(0, many, 0, -2));
                illegal("refused " + many, () -> x.mends(0, 0, many, -2));
            }
        });
    }

    private static void best() {
        says("BEST MENDS: for all HIT ones (8 at most, else none)", () -> {
            for (int many = 0; many <= 12; many++) {
                SkyCuts x = struck(many);
                due("hit", x.mends(0, 8, 8, -2), (1 << many) - 1);
                due(many + " are hit", x.mends(0, 8, 8, -1), many <= 8 ? 15 * many : -1);
                due("the first", x.mends(0, 8, 8, 0), many == 0 ? 0 : many <= 8 ? 2 : -1);
                due("the last", x.mends(0, 8, 8, 11), many <= 8 ? 0 : -1);
            }
            SkyCuts y = struck(9);
            y.flow(3, 0, 0, 0);
            due("8 in quarter 0", y.mends(0, 8, 8, -1), 120);
            due("9 in quarter 1", y.mends(1, 8, 8, -1), -1);
            due("the last one", y.mends(0, 8, 8, 8), 2);
            due("the one without", y.mends(0, 8, 8, 3), 0);
            // All eight go round.
            SkyCuts z = new SkyCuts();
            z.limit(0, 9999);
            for (int s = 0; s < 8; s++) {
                stream(z, "0r3", 1);
            }
            storm(z, 1);
            due("all go round", z.mends(0, 8, 8, -1), 8 * 4);
            for (int s = 0; s < 8; s++) {
                due("stream " + s, z.mends(0, 8, 8, s), 1);
            }
            z.limit(0, 7);
            due("all but the last", z.mends(0, 8, 8, -1), 7 * 4 + 15);
            due("the last", z.mends(0, 8, 8, 7), 2);
            // One that was hit in another quarter is hit there alone.
            SkyCuts w = struck(2);
            w.flow(1, 5, 5, 0);
            due("hit in 4", w.mends(4, 8, 8, 1), 2);
            due("not hit in 5", w.mends(5, 8, 8, 1), 0);
            due("minutes in 5", w.mends(5, 8, 8, -1), 15);
            w.flow(0, 6, 6, 0);
            due("the other one in 6", w.mends(6, 8, 8, 1), 2);
            due("not hit in 6", w.mends(6, 8, 8, 0), 0);
        });
        says("such that no PIECE is FULL in that QUARTER (by the WAYS that are then; HELD and REFUSED ones have MOST 0)",
            () -> {
                // Round it comes to piece 1, which may hear nothing.
                SkyCuts x = new SkyCuts();
                stream(x, "0r3", 2);
                storm(x, 1);
                x.paint(8, 63, 1);
                due("it may", x.mends(0, 0, 0, 0), 1);
                // 2 ways and 2 steps over in both.
                x.limit(1, 6);
                x.limit(0, 6);
                due("6 of 6", x.mends(0, 0, 0, 0), 1);
                x.limit(1, 5);
                due("6 of 5", x.mends(0, 0, 0, 0), -1);
                due("6 of 5, held", x.mends(0, 1, 0, 0), 2);
                due("6 of 5, refused", x.mends(0, 0, 1, 0), 3);
                x.limit(1, 6);
                x.limit(0, 5);
                due("6 of 5 in the other one", x.mends(0, 0, 0, 0), -1);
                x.limit(0, 0);
                due("held it is not heard", x.mends(0, 1, 0, 0), 2);
                due("refused it is not heard", x.mends(0, 0, 1, 0), 3);
                // Others that are not hit are heard all the same.
                stream(x, "7");
                x.flow(1, 3, 3, 1);
                due("in that quarter", x.mends(3, 8, 8, 0), -1);
                due("in another quarter", x.mends(2, 8, 8, 0), 2);
                x.flow(0, 0, 23, 0);
                due("nobody is hit, one is full", x.mends(3, 8, 8, -1), -1);
                due("nobody is hit", x.mends(3, 8, 8, -2), 0);
                due("nobody is hit, none is full", x.mends(2, 0, 0, -1), 0);
                crossings();
            });
        says("of all the least minutes; of these the first (STREAM by STREAM the least MEND). There may be none.", () -> {
            SkyCuts x = struck(3);
            mendsAre(x, 1, 2, 2, 3, 3);
            mendsAre(x, 2, 1, 2, 2, 3);
            mendsAre(x, 3, 0, 2, 2, 2);
            mendsAre(x, 0, 3, 3, 3, 3);
            x.flow(2, 0, 23, 2);
            mendsAre(x, 1, 2, 3, 3, 2);
            mendsAre(x, 2, 1, 2, 3, 2);
            x.flow(0, 0, 23, 3);
            mendsAre(x, 2, 1, 2, 3, 2);
            mendsAre(x, 1, 2, 2, 3, 3);
            due("none", x.mends(0, 1, 1, 0), -1);
            // Two that go round alike, of which one alone may.
            SkyCuts y = new SkyCuts();
            stream(y, "0r3", 2);
            stream(y, "0r3", 2);
            storm(y, 1);
            y.limit(0, 2);
            mendsAre(y, 2, 2, 1, 2);
            y.limit(0, 4);
            mendsAre(y, 2, 2, 1, 1);
            y.limit(0, 1);
            mendsAre(y, 1, 2, 2, 3);
            // One goes round, and the one behind it can't.
            SkyCuts w = new SkyCuts();
            stream(w, "0r3", 1);
            stream(w, "1", 1);
            storm(w, 1);
            mendsAre(w, 1, 0, 1, 2);
            mendsAre(w, 0, 1, 1, 3);
            mendsAre(w, 0, 0, -1, -1);
            mendsAre(w, 1, 1, 1, 2);
            // Held for 15 it is cheaper than round for 16.
            SkyCuts z = new SkyCuts();
            stream(z, "0r2", 1);
            storm(z, 1, 9, 17, 65, 73);
            due("6 cells more", z.mends(0, 8, 8, -1), 12);
            due("round", z.mends(0, 8, 8, 0), 1);
            storm(z, 25, 81);
            due("8 cells more", z.mends(0, 8, 8, -1), 15);
            due("held", z.mends(0, 8, 8, 0), 2);
            due("round, if none is held", z.mends(0, 0, 8, -1), 16);
        });
        says("or the MEND of a STREAM (0: it is not HIT); NONE: there are none (but for -2).", () -> {
            SkyCuts x = struck(1);
            stream(x, "9", 1);
            due("hit", x.mends(0, 1, 0, 0), 2);
            for (int what = 1; what < 12; what++) {
                due("not hit, " + what, x.mends(0, 1, 0, what), 0);
            }
            due("hit ones, if there are none", x.mends(0, 0, 0, -2), 1);
            for (int what = -1; what < 12; what++) {
                due("none, " + what, x.mends(0, 0, 0, what), -1);
            }
        });
        says("IllegalArgumentException: also what is not -2 to 11.", () -> {
            SkyCuts x = struck(12);
            for (int what : new int[] {-3, 12, LEAST, GREATEST}) {
                illegal("what " + what, () -> x.mends(0, 0, 0, what));
            }
        });
    }

    private static void mendsAre(SkyCuts x, int held, int refused, int... want) {
        for (int s = 0; s < want.length; s++) {
            due("mend of " + s + " with " + held + " and " + refused, x.mends(0, held, refused, s), want[s]);
        }
    }

    /** On its way round a stream crosses another one, which it did not ahead of it. */
    private static void crossings() {
        SkyCuts x = new SkyCuts();
        stream(x, "0r3", 2);
        stream(x, "9r", 5);
        storm(x, 1);
        rules(x, "load cross;");
        due("they did not cross", x.hears(0, 0, 1), 0);
        // By 8, 9, 10, 2: to the right in 9, up in 10.
        x.limit(0, 2);
        due("cross 2 of 2", x.mends(0, 0, 0, 0), 1);
        x.limit(0, 1);
        due("cross 2 of 1", x.mends(0, 0, 0, 0), -1);
        due("they do not cross still", x.hears(0, 0, 1), 0);
        x.storm(1, false);
        x.limit(0, 0);
        due("they cross no more", x.mends(0, 0, 0, -1), 0);
        // A piece alone is one.
        rules(x, "load pieces * 40;");
        x.limit(0, 40);
        due("40 of 40", x.mends(0, 0, 0, -1), 0);
        x.limit(0, 39);
        due("40 of 39", x.mends(0, 0, 0, -1), -1);
        climbingOnce();
    }

    /** Round by the layer above, and then no more: where it climbed it goes down, unlike one that climbs there. */
    private static void climbingOnce() {
        SkyCuts x = new SkyCuts();
        stream(x, "1r2", 1);
        stream(x, "1c", 1);
        storm(x, 2, 9);
        rules(x, "load cross;");
        // In 1 both climb; in 65 one goes on to the right, and one has climbed there.
        x.limit(0, 1);
        due("it climbs at 1", x.mends(0, 0, 0, 0), 1);
        x.limit(0, 0);
        due("it does not go alike in 65", x.mends(0, 0, 0, 0), -1);
        x.storm(9, false);
        due("it goes down at 1", x.mends(0, 0, 0, 0), -1);
        x.limit(0, 1);
        due("it goes down at 1", x.mends(0, 0, 0, 0), 1);
        // Back from above: 65 by 1 and 2 to 67, with one that goes down there.
        SkyCuts y = new SkyCuts();
        stream(y, "65r2", 1);
        stream(y, "65s", 1);
        storm(y, 66);
        rules(y, "load cross;");
        y.limit(0, 1);
        due("it goes down at 65", y.mends(0, 0, 0, 0), 1);
        y.limit(0, 0);
        due("not alike in 1", y.mends(0, 0, 0, 0), -1);
        storm(y, 2);
        due("by 73 it does not go alike in 65", y.mends(0, 0, 0, 0), -1);
        y.limit(0, 1);
        due("by 73 it does not go alike in 65", y.mends(0, 0, 0, 0), 1);
    }

    private static void rows() {
        says("ROWS, numbered from 0 on, 40 at most", () -> {
            SkyCuts x = new SkyCuts();
            for (int i = 0; i < 40; i++) {
                due("row " + i, x.did(i % 8, i % 24, i, i % 3 == 0), i);
                due("rows", x.count(6), i + 1);
            }
            due("a 41st", x.did(0, 0, 0, false), -1);
            due("rows", x.count(6), 40);
        });
        says("A ROW: its number; -1: there are 40. IllegalArgumentException: also what a pair did.", () -> {
            SkyCuts x = new SkyCuts();
            for (int turn = 0; turn < 2; turn++) {
                for (int work : new int[] {-1, 10000, LEAST, GREATEST}) {
                    illegal("did " + work, () -> x.did(0, 0, work, false));
                }
                for (int i = 0; i < 40; i++) {
                    due("did", x.did(0, 0, 9999 * (i % 2), false), turn == 0 ? i : -1);
                }
            }
            due("off", x.fit(4), 20 * 9999);
        });
        says("(as they are when it is told)", () -> {
            SkyCuts x = new SkyCuts();
            stream(x, "0r3");
            x.flow(0, 5, 5, 5);
            x.did(0, 5, 15, false);
            x.flow(0, 0, 23, 50);
            x.paint(0, 63, -1);
            rules(x, "load 7;");
            due("the weight", x.fit(0), 3);
            due("off", x.fit(4), 0);
            x.did(0, 5, 15, false);
            due("shut it heard nothing", x.fit(4), 15);
            due("the weight", x.fit(0), 3);
        });
        says("KEPT BACK or not.", () -> {
            SkyCuts x = new SkyCuts();
            stream(x, "0r3", 5);
            x.did(0, 0, 20, true);
            fits(x, -1, -1, -1, -1, -1, -1);
            x.did(0, 0, 5, false);
            fits(x, 1, 0, 0, 0, 0, 15);
            x.did(0, 0, 0, true);
            fits(x, 1, 0, 0, 0, 0, 20);
        });
    }

    private static void fits(SkyCuts x, int... want) {
        for (int what = 0; what < 6; what++) {
            due("fit " + what, x.fit(what), want[what]);
        }
    }

    private static void weights() {
        says("four weights 0 to 4 (for ways, cross, over, climb)", () -> {
            int[] work = {0, 4, 5, 10, 15, 20, 25, 9999};
            int[] weight = {0, 1, 1, 2, 3, 4, 4, 4};
            int[] off = {0, 1, 0, 0, 0, 0, 5, 9979};
            for (int i = 0; i < work.length; i++) {
                SkyCuts x = new SkyCuts();
                stream(x, "0r3", 5);
                x.did(0, 0, work[i], false);
                fits(x, weight[i], 0, 0, 0, off[i], 0);
            }
            // Each weight for itself: in quarter 1 there are ways alone, which make no work.
            eachWeight(1, "27r", "27d", 1);
            eachWeight(2, "0r3", "63", 3);
            eachWeight(3, "0c", "63", 1);
        });
        says("of how far what a pair did is from the weighted sum is least", () -> {
            SkyCuts x = new SkyCuts();
            stream(x, "0r3", 5);
            x.did(0, 0, 12, false);
            fits(x, 2, 0, 0, 0, 2, 0);
            x.did(0, 0, 13, false);
            fits(x, 2, 0, 0, 0, 5, 0);
            x.did(0, 0, 13, false);
            fits(x, 3, 0, 0, 0, 7, 0);
            x.did(0, 0, 2, false);
            fits(x, 2, 0, 0, 0, 16, 0);
        });
        says("of these the first (weight by weight, the least). OFF: that least sum", () -> {
            SkyCuts x = new SkyCuts();
            stream(x, "0r3", 5);
            x.assign(0, 1);
            // 5 ways and 5 over: 0 and 2 ahead of 1 and 1.
            x.did(1, 0, 10, false);
            fits(x, 0, 0, 2, 0, 0, 0);
            x.did(1, 0, 30, false);
            fits(x, 0, 0, 2, 0, 20, 0);
            x.did(1, 0, 30, false);
            fits(x, 2, 0, 4, 0, 20, 0);
            SkyCuts y = new SkyCuts();
            y.did(0, 0, 7, false);
            fits(y, 0, 0, 0, 0, 7, 0);
            // Ways 2, cross 2 and climb 2: the last ones first.
            SkyCuts z = new SkyCuts();
            stream(z, "0c", 1);
            stream(z, "64s", 1);
            z.did(0, 0, 10, false);
            fits(z, 0, 1, 0, 4, 0, 0);
            z.did(0, 0, 10, true);
            z.did(0, 0, 13, true);
            z.did(0, 0, 4, true);
            fits(z, 0, 1, 0, 4, 0, 9);
            // All of them at once, as much as they may be: 2 ways, 1 cross, 2 over and 1 climb.
            SkyCuts w = new SkyCuts();
            stream(w, "0cr", 1);
            stream(w, "0r", 1);
            put(w, 1, 65, 1);
            int[] heard = {2, 1, 2, 1};
            for (int what = 0; what < 4; what++) {
                due("heard", w.hears(0, 0, what), heard[what]);
            }
            w.did(0, 0, 9999, false);
            fits(w, 4, 4, 4, 4, 9999 - 24, 0);
        });
        says("OFF BACK: likewise of ROWS KEPT BACK, with those weights.", () -> {
            SkyCuts x = new SkyCuts();
            stream(x, "0r3", 5);
            x.did(0, 0, 10, false);
            due("none kept back", x.fit(5), 0);
            for (int i = 1; i < 40; i++) {
                x.did(0, 0, 9999, true);
            }
            fits(x, 2, 0, 0, 0, 0, 39 * 9989);
        });
        says("FIT: what 0 to 3 its weights, 4 OFF, 5 OFF BACK; NONE: there is no ROW that is not KEPT BACK.", () -> {
            SkyCuts x = new SkyCuts();
            fits(x, -1, -1, -1, -1, -1, -1);
            x.did(0, 0, 0, true);
            fits(x, -1, -1, -1, -1, -1, -1);
            x.did(0, 0, 0, false);
            fits(x, 0, 0, 0, 0, 0, 0);
        });
        says("IllegalArgumentException: another what.", () -> {
            SkyCuts x = new SkyCuts();
            for (int turn = 0; turn < 2; turn++) {
                for (int what : new int[] {-1, 6, LEAST, GREATEST}) {
                    illegal("what " + what, () -> x.fit(what));
                }
                x.did(0, 0, 0, false);
            }
        });
    }

    private static void eachWeight(int which, String one, String other, int heard) {
        SkyCuts x = new SkyCuts();
        stream(x, one);
        stream(x, other);
        stream(x, "127");
        x.flow(0, 0, 0, 1);
        x.flow(1, 0, 0, 1);
        x.flow(2, 1, 1, 50);
        if (which == 2) {
            put(x, 1, 1, 3);
        }
        due("heard", x.hears(0, 0, which), heard);
        x.did(0, 1, 0, false);
        x.did(0, 0, 4 * heard, false);
        int[] want = new int[6];
        want[which] = 4;
        fits(x, want);
        x.did(0, 2, 7, false);
        want[4] = 7;
        fits(x, want);
    }

    private static void led(SkyCuts x, int... streamsAndParts) {
        for (int k = 0; k <= streamsAndParts.length / 2; k++) {
            boolean is = 2 * k < streamsAndParts.length;
            due("led " + k, x.lead(0, 0, k, false), is ? streamsAndParts[2 * k] : -1);
            due("part " + k, x.lead(0, 0, k, true), is ? streamsAndParts[2 * k + 1] : -1);
        }
    }

    private static void parts() {
        says("that LOAD less what it would be if that STREAM had MOST 0.", () -> {
            SkyCuts x = new SkyCuts();
            stream(x, "0r3", 5);
            stream(x, "1d", 3);
            // They cross in 1: 8 ways and 2 times 3.
            led(x, 0, 11, 1, 9);
            x.assign(0, 1);
            led(x, 0, 16, 1, 9);
            rules(x, "load least(ways, 5);");
            led(x, 0, 2);
            rules(x, "load 9 / ways;");
            led(x, 0, -2);
        });
        says("LED: STREAMS with a PART that is not 0, the greatest first, then by number.", () -> {
            SkyCuts x = new SkyCuts();
            int[] counts = {4, 9, 0, 4, 50, 9};
            for (int count : counts) {
                stream(x, "0", count);
            }
            led(x, 4, 50, 1, 9, 5, 9, 0, 4, 3, 4);
            rules(x, "load 0 - ways;");
            led(x, 0, -4, 3, -4, 1, -9, 5, -9, 4, -50);
            rules(x, "load 5;");
            led(x);
            SkyCuts y = new SkyCuts();
            for (int i = 0; i < 12; i++) {
                stream(y, "0", 1);
            }
            led(y, 0, 1, 1, 1, 2, 1, 3, 1, 4, 1, 5, 1, 6, 1, 7, 1, 8, 1, 9, 1, 10, 1, 11, 1);
            // Sums wrap: with both -2^31, with one 2^30.
            SkyCuts z = new SkyCuts();
            stream(z, "0", 1);
            stream(z, "0", 1);
            rules(z, "load ways * 512 * 512 * 512 * 8;");
            led(z, 0, 1 << 30, 1, 1 << 30);
        });
        says("The k-th STREAM that is LED to (or, part, its PART); NONE.", () -> {
            SkyCuts x = new SkyCuts();
            led(x);
            stream(x, "0", 5);
            for (int k : new int[] {-1, 1, 12, LEAST, GREATEST}) {
                due("led " + k, x.lead(0, 0, k, false), -1);
                due("part " + k, x.lead(0, 0, k, true), -1);
            }
            due("led", x.lead(0, 23, 0, false), 0);
            due("part", x.lead(0, 23, 0, true), 5);
            due("of another piece", x.lead(7, 0, 0, true), -1);
            x.flow(0, 0, 0, 0);
            due("in a quarter without", x.lead(0, 0, 0, true), -1);
        });
    }

    private static void counts() {
        says("8 MARKS, 9 bytes of the TAPE; NONE for others.", () -> {
            SkyCuts x = new SkyCuts();
            for (int what : new int[] {-1, -2, 10, 11, LEAST, GREATEST}) {
                due("count " + what, x.count(what), -1);
            }
            stream(x, "0");
            rules(x, "load 1; load 2;");
            x.assign(0, 5);
            x.assign(1, 6);
            for (int i = 0; i < 5; i++) {
                x.assign(100 + i, -1);
            }
            for (int i = 0; i < 6; i++) {
                x.region(i);
                x.configure(0);
            }
            x.configure(0);
            for (int i = 0; i < 7; i++) {
                x.did(0, 0, 0, true);
            }
            for (int i = 0; i < 8; i++) {
                x.storm(120 + i, true);
            }
            for (int i = 0; i < 4; i++) {
                x.mark();
            }
            feed(x, " ".repeat(40));
            int[] want = {1, 2, 3, 5, 6, 6, 7, 8, 4, 40};
            for (int what = 0; what < want.length; what++) {
                due("count " + what, x.count(what), want[what]);
            }
        });
    }

    public static void main(String[] args) {
        storms();
        rounds();
        heldAndRefused();
        best();
        rows();
        weights();
        parts();
        counts();
        close("EdgesStormTest");
    }
}
