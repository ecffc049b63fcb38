/** Every sentence that names an edge of partings, moves and regions: ==== 3 of the terms, promises 15 to 26, 41 to 44. */
public final class EdgesPartingTest extends Edges {
    private static void wholes() {
        says("A PIECE is WHOLE, if its CELLS hang together (BESIDE by BESIDE; also with none).", () -> {
            SkyCuts x = new SkyCuts();
            due("all cells", x.whole(0), true);
            due("no cells", x.whole(7), true);
            SkyCuts y = shut();
            due("no cells left", y.whole(0), true);
            for (int cell : new int[] {0, 63, 64, 127}) {
                y.assign(cell, 1);
                due("one cell, " + cell, y.whole(1), true);
                y.assign(cell, -1);
            }
            // Both layers as one long row there and back, joined at 127 and 63 alone.
            for (int row = 0; row < 8; row += 2) {
                y.paint(8 * row, 8 * row + 7, 2);
                y.paint(64 + 8 * row, 64 + 8 * row + 7, 3);
            }
            due("rows apart", y.whole(2), false);
            put(y, 2, 15, 24, 47);
            due("rows joined at their ends", y.whole(2), true);
            put(y, 3, 64 + 15, 64 + 24, 64 + 47);
            due("rows joined at their ends, high", y.whole(3), true);
            y.assign(24, -1);
            due("cut", y.whole(2), false);
            y.assign(88, 2);
            due("a cell of the other layer beside nothing of it", y.whole(2), false);
            y.assign(80, 2);
            y.assign(96, 2);
            due("round by the other layer", y.whole(2), true);
            SkyCuts z = shut();
            put(z, 1, 0, 9, 18, 27);
            due("aslant", z.whole(1), false);
            put(z, 1, 64, 73, 82, 91);
            due("four columns aslant", z.whole(1), false);
            put(z, 1, 1, 74, 19);
            due("joined in either layer", z.whole(1), true);
        });
        says("Whether a PIECE is WHOLE.", () -> {
            SkyCuts x = new SkyCuts();
            put(x, 3, 0, 2);
            for (int piece = 0; piece < 8; piece++) {
                due("piece " + piece, x.whole(piece), piece != 3);
            }
            x.assign(1, -1);
            due("a shut cell joins nothing", x.whole(3), false);
        });
    }

    private static void necks(SkyCuts x, int piece, int... want) {
        for (int k = 0; k <= want.length; k++) {
            due("neck " + k, x.neck(piece, k), k < want.length ? want[k] : -1);
        }
    }

    private static void necks() {
        says("NECK: a CELL without which the others of its WHOLE PIECE are not WHOLE.", () -> {
            SkyCuts x = shut();
            necks(x, 1);
            x.assign(5, 1);
            necks(x, 1);
            x.assign(6, 1);
            necks(x, 1);
            x.assign(7, 1);
            necks(x, 1, 6);
            put(x, 1, 15, 23);
            necks(x, 1, 6, 7, 15);
            // A ring has no neck, but with a tail.
            put(x, 1, 13, 21, 22);
            necks(x, 1);
            x.assign(4, 1);
            necks(x, 1, 5);
            SkyCuts y = shut();
            y.paint(0, 1, 2);
            y.paint(64 + 1, 64 + 2, 2);
            necks(y, 2, 1, 65);
            y.assign(64, 2);
            necks(y, 2, 65);
            y.assign(2, 2);
            necks(y, 2);
            SkyCuts z = shut();
            put(z, 1, 7, 8);
            necks(z, 1);
            SkyCuts all = new SkyCuts();
            necks(all, 0);
            // Each cell with two beside it that are not beside each other.
            for (int cell = 0; cell < 128; cell++) {
                SkyCuts w = shut();
                int side = cell % 8 < 7 ? cell + 1 : cell - 1;
                put(w, 3, cell, side, cell ^ 64);
                necks(w, 3, cell);
                w.assign(side ^ 64, 3);
                necks(w, 3);
            }
        });
        says("The k-th NECK of a PIECE (rising); NONE (also of one that is not WHOLE).", () -> {
            SkyCuts x = shut();
            put(x, 1, 127, 126, 125, 61, 53, 45);
            necks(x, 1, 53, 61, 125, 126);
            for (int k : new int[] {-1, 4, 5, 127, 128, LEAST, GREATEST}) {
                due("neck " + k, x.neck(1, k), -1);
            }
            x.assign(0, 1);
            necks(x, 1);
            x.assign(0, -1);
            necks(x, 1, 53, 61, 125, 126);
            x.assign(61, 0);
            necks(x, 1);
            // The longest: 8 cells in a row have 6 necks.
            SkyCuts y = shut();
            y.paint(56, 63, 7);
            necks(y, 7, 57, 58, 59, 60, 61, 62);
        });
    }

    private static void shorts() {
        says("if some stretch of its WAY in it (as long as it goes on there) has fewer CELLS than LENGTH", () -> {
            SkyCuts x = new SkyCuts();
            stream(x, "0r7");
            stream(x, "8r3");
            stream(x, "127");
            x.length(8);
            due("8 cells, 4 and 1", x.shorts(0), 6);
            x.length(9);
            due("fewer than 9", x.shorts(0), 7);
            x.length(4);
            due("4 cells are not fewer than 4", x.shorts(0), 4);
            x.length(1);
            due("1 cell is not fewer than 1", x.shorts(0), 0);
            due("not where it does not come", x.shorts(5), 0);
            x.length(9);
            due("not where it does not come", x.shorts(5), 0);
            // Stretches of 2 in piece 0, 1 in piece 1, 3 in piece 0, 2 shut.
            x.assign(2, 1);
            x.paint(6, 7, -1);
            x.length(2);
            due("a stretch of 2 and one of 3", x.shorts(0) & 1, 0);
            due("a stretch of 1", x.shorts(1), 1);
            x.length(3);
            due("one of 2 is enough", x.shorts(0) & 1, 1);
            x.assign(1, 1);
            x.assign(0, 1);
            due("one of 3 alone", x.shorts(0) & 1, 0);
            due("one of 3 at the beginning", x.shorts(1), 0);
            x.assign(7, 0);
            due("one of 1 at the end", x.shorts(0) & 1, 1);
            // Cells that are side by side are no stretch, if the way goes elsewhere between them.
            SkyCuts y = new SkyCuts();
            stream(y, "0dru");
            y.paint(8, 15, 1);
            y.length(2);
            due("twice one cell", y.shorts(0), 1);
            due("two cells", y.shorts(1), 0);
            // In each cell, with the one above or below it in another piece.
            for (int cell = 0; cell < 128; cell++) {
                SkyCuts z = new SkyCuts();
                stream(z, "" + cell);
                z.assign(cell, 1);
                z.length(2);
                due("in cell " + cell, z.shorts(1), 1);
                due("not in the others", z.shorts(0), 0);
            }
        });
        says("(0 to 9; 0 at first). AT EDGE", () -> {
            SkyCuts x = new SkyCuts();
            stream(x, "0");
            due("at first none is short", x.shorts(0), 0);
            due("at first", x.length(9), 0);
            due("9", x.length(0), 9);
            for (int v : new int[] {-1, 10, LEAST, GREATEST}) {
                illegal("length " + v, () -> x.length(v));
            }
            due("it stays", x.length(1), 0);
            SkyCuts y = new SkyCuts();
            stream(y, "0dr7d");
            y.length(9);
            due("10 cells", y.shorts(0), 0);
            stream(y, "0r7d");
            due("9 cells", y.shorts(0), 0);
            stream(y, "0r7");
            due("8 cells", y.shorts(0), 4);
        });
        says("STREAMS that are SHORT in a PIECE, as bits.", () -> {
            SkyCuts x = new SkyCuts();
            x.length(2);
            for (int i = 0; i < 12; i++) {
                stream(x, i % 2 == 0 ? "0" : "0r");
                due("after stream " + i, x.shorts(0), 0x555 & (1 << i + 1) - 1);
            }
            x.length(3);
            due("all", x.shorts(0), 4095);
        });
    }

    private static void edges() {
        says("AT EDGE: a CELL in which two STREAMS that do not GO alike meet (of any MOST)", () -> {
            SkyCuts x = new SkyCuts();
            stream(x, "27r");
            stream(x, "27r");
            x.assign(28, 1);
            due("alike", x.edge(0), 0);
            stream(x, "27d");
            due("unlike, of no count", x.edge(0), 1);
            x.flow(0, 0, 23, 50);
            due("of some count", x.edge(0), 1);
            due("alike in the other one", x.edge(1), 0);
            stream(x, "28");
            due("in the other one, too", x.edge(1), 1);
            stream(x, "27");
            due("a cell counts once", x.edge(0), 1);
        });
        says("with a CELL BESIDE it that is of another PIECE, or SHUT.", () -> {
            for (int cell = 0; cell < 128; cell++) {
                edgeOfCell(cell, 0);
                edgeOfCell(cell, 64);
            }
            // The end of the air is no edge.
            for (int corner : new int[] {0, 7, 56, 63, 64, 71, 120, 127}) {
                SkyCuts x = new SkyCuts();
                stream(x, "" + corner);
                stream(x, corner + (corner % 8 == 0 ? "r" : "l"));
                due("corner " + corner, x.edge(0), 0);
                x.assign(corner ^ 64, 1);
                due("corner " + corner + " by the other layer", x.edge(0), 1);
            }
        });
        says("How many CELLS of a PIECE are AT EDGE.", () -> {
            SkyCuts x = new SkyCuts();
            stream(x, "0r7");
            stream(x, "7l7");
            due("all of one piece", x.edge(0), 0);
            x.paint(8, 15, 1);
            due("all eight", x.edge(0), 8);
            due("none of the other one", x.edge(1), 0);
            x.paint(0, 7, -1);
            due("shut ones are of none", x.edge(0), 0);
        });
    }

    /** Two streams meet in a cell alone; each cell of a layer in turn is of another piece, or shut. */
    private static void edgeOfCell(int cell, int layer) {
        SkyCuts x = new SkyCuts();
        stream(x, "" + cell);
        stream(x, cell + (cell % 8 < 7 ? "r" : "l"));
        for (int other = layer; other < layer + 64; other++) {
            int steps = Math.abs(cell % 8 - other % 8) + Math.abs(cell / 8 % 8 - other / 8 % 8)
                + Math.abs(cell / 64 - other / 64);
            x.assign(other, 3);
            due(cell + " by " + other, x.edge(0), steps == 1 ? 1 : 0);
            x.assign(other, -1);
            due(cell + " by " + other + " shut", x.edge(0), steps == 1 ? 1 : 0);
            x.assign(other, 0);
        }
    }

    private static void holding() {
        says("A parting HOLDS, if all PIECES are WHOLE and none is ever FULL.", () -> {
            for (int piece = 0; piece < 8; piece++) {
                SkyCuts x = shut();
                due("no cells at all", x.holds(), true);
                put(x, piece, 0);
                due("one cell", x.holds(), true);
                put(x, piece, 2);
                due("two apart", x.holds(), false);
                put(x, piece, 1);
                due("three", x.holds(), true);
                stream(x, "1");
                x.flow(0, 23, 23, 41);
                due("full in the last quarter", x.holds(), false);
                x.limit(piece, 41);
                due("never full", x.holds(), true);
                x.flow(0, 0, 0, 42);
                due("full in the first quarter", x.holds(), false);
                SkyCuts y = shut();
                stream(y, "127", 41);
                put(y, piece, 127);
                due("full in the high layer", y.holds(), false);
                put(y, piece, 125);
                y.limit(piece, 41);
                due("two apart in the high layer", y.holds(), false);
                put(y, piece, 126);
                due("three in the high layer", y.holds(), true);
                put(y, piece, 0);
                due("and one in the low layer", y.holds(), false);
            }
        });
    }

    private static void costs() {
        says("COUNTS of all QUARTERS for each step of a WAY between two CELLS that are not of one PIECE (or one is SHUT)",
            () -> {
                SkyCuts x = new SkyCuts();
                rules(x, "load 0;");
                stream(x, "0r3", 1);
                due("of one piece", x.cost(), 0);
                x.assign(1, 1);
                due("two steps", x.cost(), 48);
                x.assign(1, -1);
                due("two steps to shut", x.cost(), 48);
                x.assign(0, -1);
                due("one of them between two that are shut", x.cost(), 48);
                x.paint(0, 63, -1);
                due("all shut", x.cost(), 72);
                x.paint(0, 63, 5);
                due("of one piece again", x.cost(), 0);
                x.flow(0, 0, 23, 0);
                x.flow(0, 7, 7, 9);
                x.span(0, 2, 2);
                x.assign(3, 0);
                due("counts, not mosts", x.cost(), 9);
                stream(x, "67s", 50);
                x.assign(67, 4);
                due("up and down", x.cost(), 9 + 1200);
            });
        says("10 times what the greatest PEAK is above the least (of PIECES with CELLS).", () -> {
            SkyCuts x = new SkyCuts();
            rules(x, "load cells;");
            due("one piece", x.cost(), 0);
            x.paint(0, 31, 6);
            due("96 and 32", x.cost(), 640);
            x.assign(127, 3);
            due("95, 32 and 1", x.cost(), 940);
            rules(x, "load 0 - cells;");
            due("below 0", x.cost(), 940);
            x.paint(0, 63, -1);
            x.paint(64, 127, -1);
            due("no piece", x.cost(), 0);
            x.assign(9, 7);
            due("one cell", x.cost(), 0);
            // Peaks, not loads of one quarter.
            SkyCuts y = new SkyCuts();
            rules(y, "load ways;");
            stream(y, "0");
            stream(y, "64");
            y.paint(64, 127, 1);
            y.flow(0, 3, 3, 9);
            y.flow(1, 4, 4, 7);
            due("of two quarters", y.cost(), 20);
            y.span(1, 2, 2);
            due("by mosts", y.cost(), 20);
            // Sums wrap: 10 times 2 to the power of 30.
            SkyCuts z = new SkyCuts();
            z.assign(0, 1);
            rules(z, "load (cells / 127) * 512 * 512 * 512 * 8;");
            due("wrapped", z.cost(), (int) (10L << 30));
        });
    }

    private static void best(SkyCuts x, int cell, int piece, int cost) {
        due("the cell", x.better(0), cell);
        due("the piece", x.better(1), piece);
        due("the cost then", x.better(2), cost);
    }

    private static void none(SkyCuts x) {
        best(x, -1, -1, -1);
        due("grow", x.grow(20), 0);
    }

    /** All cells are shut, and the load is how many there are. */
    private static SkyCuts byCells() {
        SkyCuts x = shut();
        rules(x, "load cells;");
        return x;
    }

    private static void moves() {
        says("A MOVE OF a CELL to the PIECE of a CELL BESIDE it (another one; neither is SHUT)", () -> {
            none(new SkyCuts());
            none(shut());
            SkyCuts x = byCells();
            put(x, 0, 1, 2, 3, 4, 12);
            x.assign(6, 1);
            none(x);
            x.assign(13, 1);
            x.assign(6, -1);
            best(x, 12, 1, 20);
            x.assign(13, -1);
            x.assign(12, -1);
            x.assign(0, 1);
            best(x, 1, 1, 10);
            // Over a shut cell nothing goes, nor does it go itself.
            SkyCuts y = shut();
            put(y, 0, 2, 3);
            put(y, 1, 5, 6);
            stream(y, "3r2", 1);
            due("cost", y.cost(), 48);
            none(y);
            // Not from the end of a row to the next one, nor from the last low cell to the first high one.
            SkyCuts z = byCells();
            put(z, 0, 5, 6, 7);
            put(z, 1, 8);
            none(z);
            SkyCuts w = byCells();
            put(w, 0, 61, 62, 63);
            put(w, 1, 64);
            none(w);
            // But from one layer to the other.
            put(w, 1, 127);
            w.assign(64, -1);
            best(w, 63, 1, 0);
            put(w, 1, 126, 125, 124);
            put(w, -1, 61, 62);
            best(w, 127, 0, 10);
            everyDirection();
        });
        says("is GOOD, if the old PIECE keeps a CELL", () -> {
            SkyCuts x = shut();
            rules(x, "load 0;");
            put(x, 0, 3);
            put(x, 1, 4);
            stream(x, "3r", 1);
            due("cost", x.cost(), 24);
            none(x);
            put(x, 1, 5);
            best(x, 4, 0, 0);
            put(x, 0, 2);
            best(x, 3, 1, 0);
        });
        says("both are WHOLE, and neither is ever FULL then.", () -> {
            SkyCuts x = byCells();
            put(x, 0, 0, 1, 2);
            put(x, 1, 9);
            none(x);
            put(x, 0, 8);
            best(x, 8, 1, 10);
            SkyCuts y = byCells();
            put(y, 0, 16, 8, 0, 1, 2);
            put(y, 1, 3, 60);
            none(y);
            put(y, -1, 60);
            put(y, 1, 11);
            best(y, 2, 1, 10);
            // What it was ahead of the move makes nothing of it.
            SkyCuts parts = byCells();
            put(parts, 0, 0, 1, 5);
            put(parts, 1, 6);
            best(parts, 5, 1, 0);
            SkyCuts bridge = byCells();
            put(bridge, 1, 2, 4);
            put(bridge, 0, 3, 11, 19, 27);
            best(bridge, 3, 1, 0);
            fullThen();
        });
        says("of all GOOD ones that cost less the one of least COST then", () -> {
            SkyCuts x = byCells();
            put(x, 0, 0, 1, 2);
            put(x, 1, 3, 4);
            due("cost", x.cost(), 10);
            none(x);
            SkyCuts y = byCells();
            put(y, 0, 1, 2, 3, 4);
            put(y, 2, 0, 8);
            put(y, 1, 5);
            best(y, 4, 1, 10);
            threePieces();
        });
        says("of these the first (by the CELL, then by the PIECE).", () -> {
            SkyCuts x = byCells();
            put(x, 0, 1, 2, 3, 4);
            put(x, 2, 0);
            put(x, 1, 5);
            best(x, 1, 2, 20);
            for (int turn = 0; turn < 2; turn++) {
                SkyCuts y = byCells();
                put(y, 0, 9, 10, 11, 12);
                put(y, 1 + turn, 1);
                put(y, 2 - turn, 17);
                best(y, 9, 1, 20);
            }
            SkyCuts z = byCells();
            put(z, 7, 9, 10, 11, 12);
            put(z, 5, 73);
            put(z, 4, 8);
            put(z, 6, 1);
            best(z, 9, 4, 20);
        });
        says("BEST MOVE: what 0 the CELL, 1 the PIECE, 2 the COST then; NONE: there is none.", () -> {
            SkyCuts x = byCells();
            for (int what : new int[] {-1, 3, LEAST, GREATEST}) {
                illegal("what " + what, () -> x.better(what));
            }
            none(x);
            put(x, 3, 126);
            put(x, 7, 127, 119, 111);
            best(x, 127, 3, 0);
        });
    }

    /** Piece 0 has four cells and piece 1 one: cell 3 may go over. */
    private static SkyCuts fourAndOne() {
        SkyCuts x = byCells();
        put(x, 0, 0, 1, 2, 3);
        put(x, 1, 4);
        return x;
    }

    private static void fullThen() {
        SkyCuts x = fourAndOne();
        best(x, 3, 1, 10);
        x.limit(0, 3);
        due("it is full", x.holds(), false);
        best(x, 3, 1, 10);
        x.limit(0, 2);
        none(x);
        x.limit(0, 40);
        x.limit(1, 2);
        best(x, 3, 1, 10);
        x.limit(1, 1);
        none(x);
        // Another piece that is not whole and full has no part in it.
        SkyCuts y = fourAndOne();
        put(y, 2, 60, 62);
        y.limit(2, 0);
        best(y, 3, 1, 10);
        for (int q = 0; q < 24; q += 23) {
            SkyCuts z = fourAndOne();
            rules(z, "load cells + ways * 10;");
            stream(z, "3");
            z.flow(0, q, q, 1);
            z.limit(1, 12);
            best(z, 3, 1, 90);
            z.limit(1, 11);
            none(z);
        }
    }

    /** A row of four cells whose end lies beside a cell of another piece, in each of the six ways. */
    private static void everyDirection() {
        int[][] rows = {{27, 26, 25, 24}, {27, 28, 29, 30}, {27, 19, 11, 3}, {27, 35, 43, 51}, {27, 26, 25, 24},
            {91, 90, 89, 88}, {64, 65, 66, 67}, {64, 72, 80, 88}};
        int[] other = {28, 26, 35, 19, 91, 27, 0, 65};
        for (int i = 0; i < rows.length; i++) {
            SkyCuts x = byCells();
            put(x, 2, rows[i]);
            put(x, 6, other[i]);
            best(x, rows[i][0], 6, 10);
        }
        // The load may count the low cells alone.
        SkyCuts y = shut();
        rules(y, "load low;");
        put(y, 0, 0, 1, 2, 3);
        put(y, 1, 4);
        best(y, 3, 1, 10);
        // A piece alone is one.
        SkyCuts z = shut();
        rules(z, "load cells * pieces;");
        put(z, 0, 0, 1, 2, 3);
        put(z, 1, 4);
        z.limit(0, 3);
        z.limit(1, 2);
        due("cost", z.cost(), 30);
        best(z, 3, 1, 10);
        z.limit(1, 1);
        none(z);
    }

    /** Moves between two pieces are weighed with the third one as it is: 24 in 1, 24 between 0 and 1, 48 between 0 and 2. */
    private static void threePieces() {
        SkyCuts x = shut();
        rules(x, "load 0;");
        put(x, 1, 0, 1);
        put(x, 0, 2, 3, 4, 5);
        put(x, 2, 6, 7);
        stream(x, "0r", 1);
        stream(x, "1r", 1);
        stream(x, "5r", 2);
        due("cost", x.cost(), 72);
        best(x, 5, 2, 24);
        due("grow", x.grow(1), 1);
        best(x, 2, 1, 0);
        due("grow", x.grow(20), 1);
        due("cost", x.cost(), 0);
        none(x);
    }

    private static void growing() {
        says("So many BEST MOVES are made at most (0 to 20): how many.", () -> {
            SkyCuts x = new SkyCuts();
            rules(x, "load cells;");
            x.limit(0, 9999);
            x.limit(1, 9999);
            x.assign(0, 1);
            int[] many = {0, 1, 20, 19, 20, 20, 20};
            int[] made = {0, 1, 20, 19, 20, 3, 0};
            int cells = 1;
            for (int i = 0; i < many.length; i++) {
                due("grow " + many[i], x.grow(many[i]), made[i]);
                cells += made[i];
                due("cells then", x.hears(1, 0, 4), cells);
                due("cost then", x.cost(), 10 * (128 - 2 * cells));
            }
            due("both are whole", x.holds(), true);
            for (int wrong : new int[] {-1, 21, LEAST, GREATEST}) {
                illegal("grow " + wrong, () -> x.grow(wrong));
            }
            due("all is as it was", x.cost(), 0);
            SkyCuts y = fourAndOne();
            due("the best one first", y.grow(1), 1);
            due("cell 3", y.assign(3, 1), 1);
            due("no more", y.grow(1), 0);
        });
    }

    private static void parts(SkyCuts x, int m, int peak, int over, int... heaps) {
        due("greatest peak of " + m, x.parted(m, -1), peak);
        due("over of " + m, x.parted(m, -2), over);
        for (int what = 0; what < 8; what++) {
            due("heap of " + m + " for " + what, x.parted(m, what), what < heaps.length ? heaps[what] : -1);
        }
    }

    private static void noParts(SkyCuts x, int m) {
        parts(x, m, -1, -1);
    }

    private static SkyCuts region(String rules, int... cells) {
        SkyCuts x = new SkyCuts();
        rules(x, rules);
        for (int cell : cells) {
            x.region(cell);
        }
        return x;
    }

    private static void regions() {
        says("REGION: up to 8 CELLS, told (none twice).", () -> {
            SkyCuts x = new SkyCuts();
            for (int i = 1; i <= 8; i++) {
                due("cell " + i, x.region(i * 15), i);
                due("cells", x.count(4), i);
                if (i < 8) {
                    due("the first again", x.region(15), -2);
                    due("the last again", x.region(i * 15), -2);
                }
            }
            due("a ninth", x.region(0), -1);
            due("cells", x.count(4), 8);
        });
        says("how many it has; -1: it has 8; -2: it is there.", () -> {
            SkyCuts x = new SkyCuts();
            x.assign(5, -1);
            due("a shut one", x.region(5), 1);
            due("it again", x.region(5), -2);
            x.clear();
            due("it, once it is empty", x.region(5), 1);
            for (int i = 0; i < 7; i++) {
                x.region(100 + i);
            }
            due("with 8", x.region(0), -1);
            due("with 8, one that is there", x.region(5), -1);
            outside("with 8, no cell", () -> x.region(128));
        });
        says("The REGION is empty: how many it had.", () -> {
            SkyCuts x = new SkyCuts();
            due("none", x.clear(), 0);
            for (int i = 0; i < 8; i++) {
                x.region(i);
            }
            due("eight", x.clear(), 8);
            due("none", x.clear(), 0);
            due("cells", x.count(4), 0);
            noParts(x, 3);
            due("the first", x.region(0), 1);
        });
    }

    private static void partings() {
        says("BEST PARTING of it into m HEAPS at most (1 to 3)", () -> {
            SkyCuts x = region("load cells;", 0, 1, 2, 3, 4, 5, 6, 7);
            parts(x, 1, 8, 0, 0, 0, 0, 0, 0, 0, 0, 0);
            parts(x, 2, 4, 0, 0, 0, 0, 0, 1, 1, 1, 1);
            parts(x, 3, 3, 0, 0, 0, 0, 1, 1, 1, 2, 2);
            // Fewer heaps, if these are better.
            SkyCuts y = region("load 0 - cells;", 0, 1, 2);
            for (int m = 1; m <= 3; m++) {
                parts(y, m, -3, 0, 0, 0, 0);
            }
            SkyCuts z = region("load cells;", 127);
            for (int m = 1; m <= 3; m++) {
                parts(z, m, 1, 0, 0);
            }
        });
        says("of all ways to part it into HEAPS that hang together", () -> {
            noParts(region("load 1;", 0, 2), 1);
            parts(region("load 1;", 0, 2), 2, 1, 0, 0, 1);
            noParts(region("load 1;", 0, 2, 4), 2);
            parts(region("load 1;", 0, 2, 4), 3, 1, 0, 0, 1, 2);
            noParts(region("load 1;", 0, 2, 4, 6), 3);
            noParts(region("load 1;", 7, 8), 1);
            noParts(region("load 1;", 63, 64), 1);
            noParts(region("load 1;", 0, 9), 1);
            parts(region("load 1;", 0, 64), 1, 1, 0, 0, 0);
            parts(region("load 1;", 0, 65, 1), 1, 1, 0, 0, 0, 0);
            parts(region("load 1;", 0, 2, 1), 1, 1, 0, 0, 0, 0);
        });
        says("the one whose greatest PEAK (of the HEAPS as sets) is least", () -> {
            SkyCuts x = region("", 0, 1, 2, 3);
            stream(x, "0r3", 5);
            for (int m = 1; m <= 3; m++) {
                parts(x, m, 5, 0, 0, 0, 0, 0);
            }
            // Pieces, limits and shut cells make nothing of it.
            x.assign(1, 3);
            x.assign(2, -1);
            x.limit(0, 0);
            parts(x, 2, 5, 0, 0, 0, 0, 0);
            // The greatest of all quarters: in 3 the first two hear 9, in 4 the last two.
            SkyCuts y = region("load ways;", 0, 1, 2, 3);
            stream(y, "0r");
            stream(y, "2r");
            y.flow(0, 3, 3, 9);
            y.flow(1, 4, 4, 9);
            parts(y, 2, 9, 0, 0, 0, 0, 0);
            y.flow(1, 3, 3, 1);
            parts(y, 2, 9, 0, 0, 0, 1, 1);
            y.flow(1, 3, 3, 0);
            y.span(1, 1, 0);
            parts(y, 2, 9, 0, 0, 0, 1, 1);
            parts(y, 1, 18, 0, 0, 0, 0, 0);
        });
        says("of these with the least over of all HEAPS in all QUARTERS together", () -> {
            SkyCuts x = region("load cells;", 0, 1, 2, 3);
            stream(x, "1r");
            x.flow(0, 0, 0, 5);
            parts(x, 2, 2, 10, 0, 0, 1, 1);
            parts(x, 3, 2, 0, 0, 1, 1, 2);
            x.span(0, 0, 2);
            parts(x, 2, 2, 30, 0, 0, 1, 1);
            x.flow(0, 0, 23, 5);
            parts(x, 2, 2, 240, 0, 0, 1, 1);
            // A step out of the region is over, too.
            stream(x, "3r", 1);
            parts(x, 1, 4, 24, 0, 0, 0, 0);
            parts(x, 3, 2, 24, 0, 1, 1, 2);
        });
        says("of these the first (CELL by CELL as they were told: its HEAP, numbered as they come first).", () -> {
            parts(region("load cells;", 3, 0, 2, 1), 2, 2, 0, 0, 1, 0, 1);
            parts(region("load cells;", 1, 0, 2, 3), 3, 2, 0, 0, 0, 1, 1);
            parts(region("load cells;", 1, 2, 0, 3), 3, 2, 0, 0, 0, 1, 2);
            parts(region("load cells;", 1, 2, 0, 3), 2, 2, 0, 0, 1, 0, 1);
            parts(region("load cells;", 0, 1, 2), 2, 2, 0, 0, 0, 1);
            parts(region("load cells;", 2, 1, 0), 2, 2, 0, 0, 0, 1);
            parts(region("load cells;", 0, 2, 1), 2, 2, 0, 0, 1, 0);
            parts(region("load 1;", 0, 1, 2), 3, 1, 0, 0, 0, 0);
        });
        says("NONE: no such CELL in it (or it is empty). IllegalArgumentException: m, or what is not -2 to 7.", () -> {
            SkyCuts x = new SkyCuts();
            for (int m = 1; m <= 3; m++) {
                noParts(x, m);
            }
            for (int m : new int[] {0, 4, -1, LEAST, GREATEST}) {
                illegal("m " + m, () -> x.parted(m, 0));
            }
            for (int what : new int[] {-3, 8, LEAST, GREATEST}) {
                illegal("what " + what, () -> x.parted(1, what));
            }
            for (int i = 0; i < 7; i++) {
                x.region(i);
            }
            due("the 7th cell", x.parted(1, 6), 0);
            due("no 8th cell", x.parted(1, 7), -1);
            x.region(7);
            due("the 8th cell", x.parted(1, 7), 0);
        });
    }

    private static void worths() {
        says("WORTH of a CELL to another PIECE: COST as it is less COST if the CELL were of that one.", () -> {
            SkyCuts x = new SkyCuts();
            rules(x, "load cells;");
            for (int piece = 1; piece < 8; piece++) {
                due("to one without cells", x.worth(127, piece), -1260);
            }
            x.assign(0, 1);
            due("its last cell", x.worth(0, 0), 1260);
            due("to a third one", x.worth(0, 2), 0);
            due("a cell beside it", x.worth(1, 1), 20);
            due("a cell far from it", x.worth(127, 1), 20);
            due("a cell to a third one", x.worth(127, 2), 10);
            due("all is as it was", x.cost(), 1260);
            due("all is as it was", x.count(2), 2);
            x.limit(0, 0);
            x.limit(1, 0);
            due("full ones, too", x.worth(1, 1), 20);
            rules(x, "load 0;");
            stream(x, "0r2", 1);
            due("a step less", x.worth(0, 0), 24);
            due("a step more, one less", x.worth(1, 1), 0);
            due("two steps more", x.worth(1, 5), -24);
            x.assign(2, -1);
            due("beside a shut one", x.worth(1, 1), 24);
            SkyCuts y = new SkyCuts();
            rules(y, "load cells / 127 * 512 * 512 * 512 * 4;");
            due("a sum that wraps", y.worth(0, 1), -(1 << 30));
        });
        says("IllegalArgumentException: also if the CELL is SHUT or of that PIECE.", () -> {
            SkyCuts x = new SkyCuts();
            x.assign(5, -1);
            x.assign(6, 7);
            for (int piece = 0; piece < 8; piece++) {
                int to = piece;
                illegal("a shut one to " + piece, () -> x.worth(5, to));
            }
            illegal("of that one", () -> x.worth(0, 0));
            illegal("of that one", () -> x.worth(6, 7));
            illegal("to none", () -> x.worth(6, -1));
            due("of another one", x.worth(6, 0), 0);
        });
        says("QUIET: COUNTS of all STREAMS that come to a CELL in all QUARTERS.", () -> {
            SkyCuts x = new SkyCuts();
            due("no streams", x.quiet(0), 0);
            for (int i = 0; i < 12; i++) {
                stream(x, "0r3", 50);
            }
            for (int cell = 0; cell < 5; cell++) {
                due("cell " + cell, x.quiet(cell), cell < 4 ? 12 * 24 * 50 : 0);
            }
            due("the cell above", x.quiet(64), 0);
            x.assign(0, -1);
            due("a shut one", x.quiet(0), 14400);
            for (int i = 1; i < 12; i++) {
                x.flow(i, 0, 23, 0);
            }
            x.flow(0, 1, 23, 0);
            x.span(0, 2, 2);
            due("counts, not mosts", x.quiet(0), 50);
            x.flow(0, 23, 23, 1);
            due("to the last quarter", x.quiet(0), 51);
        });
    }

    private static void marks() {
        says("MARKS, 4 at most: of which PIECE each CELL is, is kept", () -> {
            SkyCuts x = new SkyCuts();
            for (int i = 0; i < 4; i++) {
                x.assign(i, i == 3 ? -1 : i + 1);
                due("mark", x.mark(), i + 1);
                due("marks", x.count(8), i + 1);
            }
            x.paint(64, 127, 7);
            due("a fifth", x.mark(), -1);
            due("marks", x.count(8), 4);
            for (int i = 3; i >= 0; i--) {
                due("back", x.back(), i);
                due("marks", x.count(8), i);
                due("shut cells", x.count(3), i == 3 ? 1 : 0);
                due("pieces with cells", x.count(2), Math.min(i, 2) + 2);
                due("cell 127", x.assign(127, 0), 0);
                for (int cell = 0; cell < 4; cell++) {
                    int want = cell > i ? 0 : cell == 3 ? -1 : cell + 1;
                    due("cell " + cell, x.assign(cell, want), want);
                }
            }
            due("none is left", x.back(), -1);
        });
        says("to go BACK makes it so again (the latest MARK, which is gone then).", () -> {
            SkyCuts x = new SkyCuts();
            x.mark();
            x.limit(0, 7);
            x.length(5);
            x.region(1);
            x.storm(1, true);
            x.configure(0);
            stream(x, "0", 9);
            rules(x, "load ways;");
            x.paint(0, 63, 1);
            due("back", x.back(), 0);
            due("pieces", x.count(2), 1);
            // But for of which piece each cell is, nothing goes back.
            due("limit", x.limit(0, 40), 7);
            due("length", x.length(0), 5);
            due("region", x.count(4), 1);
            due("storm", x.count(7), 1);
            due("configurations", x.count(5), 1);
            due("streams", x.count(0), 1);
            due("load", x.hears(0, 0, 4), 9);
            // Once it is gone, there is room for another one.
            for (int i = 1; i <= 4; i++) {
                x.mark();
            }
            due("back", x.back(), 3);
            x.assign(0, 5);
            due("mark", x.mark(), 4);
            x.assign(0, 6);
            due("back", x.back(), 3);
            due("the latest one", x.assign(0, 5), 5);
            due("back", x.back(), 2);
            due("the one ahead of it", x.assign(0, 0), 0);
        });
        says("A MARK: how many there are; -1: there are 4.", () -> {
            SkyCuts x = new SkyCuts();
            for (int i = 1; i <= 6; i++) {
                due("mark " + i, x.mark(), i <= 4 ? i : -1);
            }
        });
        says("BACK: how many MARKS are left; -1: there is none.", () -> {
            SkyCuts x = new SkyCuts();
            x.assign(0, 1);
            due("none", x.back(), -1);
            due("nothing was done", x.assign(0, 1), 1);
            x.mark();
            due("one", x.back(), 0);
            due("none", x.back(), -1);
            due("none", x.back(), -1);
            due("marks", x.count(8), 0);
            due("mark", x.mark(), 1);
        });
    }

    public static void main(String[] args) {
        wholes();
        necks();
        shorts();
        edges();
        holding();
        costs();
        moves();
        growing();
        regions();
        partings();
        worths();
        marks();
        close("EdgesPartingTest");
    }
}
