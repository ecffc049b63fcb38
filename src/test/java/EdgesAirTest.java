/** Every sentence that names an edge of the air and its streams: ==== 1 of the terms, promises 1 to 9. */
public final class EdgesAirTest extends Edges {
    private static final int[] CORNERS = {0, 7, 56, 63, 64, 71, 120, 127};
    private static final int[] NO_CELLS = {-1, 128, LEAST, GREATEST};
    private static final int[] NO_QUARTERS = {-1, 24, LEAST, GREATEST};
    private static final int[] NO_STREAMS = {-1, 1, 12, LEAST, GREATEST};
    // Three rows there and back: 24 cells from 0 to 23.
    private static final String SNAKE = "0r7dl7dr7";

    private static void cells() {
        says("x, y 0 to 7; z 0 (low) or 1 (high).", () -> {
            for (int cell : CORNERS) {
                SkyCuts x = new SkyCuts();
                due("assign " + cell, x.assign(cell, 1), 0);
                due("paint " + cell, x.paint(cell, cell, 2), 1);
                due("region " + cell, x.region(cell), 1);
                due("storm " + cell, x.storm(cell, true), false);
                due("worth " + cell, x.worth(cell, 1), 0);
                due("quiet " + cell, x.quiet(cell), 0);
            }
        });
        says("IndexOutOfBoundsException: no such CELL (so below)", () -> {
            for (int cell : NO_CELLS) {
                SkyCuts x = new SkyCuts();
                outside("assign " + cell, () -> x.assign(cell, 0));
                outside("paint from " + cell, () -> x.paint(cell, 0, 0));
                outside("paint to " + cell, () -> x.paint(0, cell, 0));
                outside("region " + cell, () -> x.region(cell));
                outside("storm " + cell, () -> x.storm(cell, true));
                outside("worth " + cell, () -> x.worth(cell, 1));
                outside("quiet " + cell, () -> x.quiet(cell));
                // What is named first by the face is thrown first.
                outside("assign " + cell + " to no piece", () -> x.assign(cell, 8));
                outside("paint " + cell + " with no piece", () -> x.paint(cell, cell, 8));
                outside("worth " + cell + " to no piece", () -> x.worth(cell, 8));
                due("cells of the region", x.count(4), 0);
                due("cells of the storm", x.count(7), 0);
            }
        });
        says("BESIDE one another are two with one step between them in x, y or z alone.", () -> {
            for (int a = 0; a < 128; a++) {
                SkyCuts x = shut();
                x.assign(a, 1);
                for (int b = a + 1; b < 128; b++) {
                    x.assign(b, 1);
                    due(a + " and " + b, x.whole(1), stepsBetween(a, b) == 1);
                    x.assign(b, -1);
                }
            }
            for (int a = 0; a < 128; a++) {
                for (int b = a + 1; b < 128; b++) {
                    if (stepsBetween(a, b) == 1) {
                        threeCells(a, b);
                    }
                }
            }
        });
    }

    private static int stepsBetween(int a, int b) {
        return Math.abs(a % 8 - b % 8) + Math.abs(a / 8 % 8 - b / 8 % 8) + Math.abs(a / 64 - b / 64);
    }

    /** Two that are beside one another, with any third one. */
    private static void threeCells(int a, int b) {
        SkyCuts x = shut();
        put(x, 1, a, b);
        for (int c = 0; c < 128; c++) {
            if (c != a && c != b) {
                x.assign(c, 1);
                boolean joined = stepsBetween(a, c) == 1 || stepsBetween(b, c) == 1;
                due(a + ", " + b + " and " + c, x.whole(1), joined);
                x.assign(c, -1);
            }
        }
    }

    private static void quarters() {
        says("QUARTERS 0 to 23.", () -> {
            SkyCuts x = new SkyCuts();
            stream(x, "0");
            x.configure(0);
            for (int q : new int[] {0, 23}) {
                x.flow(0, q, q, 3);
                due("most " + q, x.most(0, q), 3);
                due("hears " + q, x.hears(0, q, 0), 3);
                due("pairs " + q, x.pairs(0, q), 1);
                due("plan " + q, x.plan(0, q), 0);
                due("rota " + q, x.rota(8, 0, q) > 0, true);
                due("mends " + q, x.mends(q, 0, 0, -1), 0);
                due("did " + q, x.did(0, q, 0, false) >= 0, true);
                due("lead " + q, x.lead(0, q, 0, false), 0);
                due("ill " + q, x.ill(q / 4, q), 24);
            }
        });
        says("IllegalArgumentException: no such QUARTER (so below).", () -> {
            for (int q : NO_QUARTERS) {
                SkyCuts x = new SkyCuts();
                stream(x, "0");
                x.configure(0);
                illegal("flow from " + q, () -> x.flow(0, q, 23, 3));
                illegal("flow to " + q, () -> x.flow(0, 0, q, 3));
                illegal("flow from and to " + q, () -> x.flow(0, q, q, 3));
                illegal("most " + q, () -> x.most(0, q));
                illegal("hears " + q, () -> x.hears(0, q, 0));
                illegal("pairs " + q, () -> x.pairs(0, q));
                illegal("rota " + q, () -> x.rota(1, 0, q));
                illegal("mends " + q, () -> x.mends(q, 0, 0, -2));
                illegal("did " + q, () -> x.did(0, q, 0, false));
                illegal("lead " + q, () -> x.lead(0, q, 0, false));
                illegal("ill " + q, () -> x.ill(0, q == 24 ? 25 : q));
                due("rows", x.count(6), 0);
                due("most 0", x.most(0, 0), 0);
                due("most 23", x.most(0, 23), 0);
            }
        });
        says("NoSuchElementException: no such STREAM (so below).", () -> {
            for (int s : NO_STREAMS) {
                SkyCuts x = new SkyCuts();
                stream(x, "0");
                missing("way of " + s, () -> x.way(s, 0));
                missing("flow of " + s, () -> x.flow(s, 0, 0, 1));
                missing("span of " + s, () -> x.span(s, 0, 0));
                missing("most of " + s, () -> x.most(s, 0));
                // What is named first by the face is thrown first.
                missing("flow of " + s + ", wrong", () -> x.flow(s, -1, 24, 51));
                missing("span of " + s + ", wrong", () -> x.span(s, 3, 3));
                missing("most of " + s + ", wrong", () -> x.most(s, 24));
            }
            SkyCuts none = new SkyCuts();
            missing("way without streams", () -> none.way(0, 0));
            missing("flow without streams", () -> none.flow(0, 0, 0, 0));
        });
    }

    private static void streams() {
        says("STREAMS, numbered from 0 on, 12 at most", () -> {
            SkyCuts x = new SkyCuts();
            for (int i = 0; i < 12; i++) {
                due("stream " + i, stream(x, "" + (100 + i)), i);
                due("streams", x.count(0), i + 1);
            }
            due("the 13th", stream(x, "5"), -1);
            due("streams", x.count(0), 12);
            for (int i = 0; i < 12; i++) {
                due("way of " + i, x.way(i, 0), 100 + i);
                x.flow(i, 0, 23, i + 1);
                due("most of " + i, x.most(i, 23), i + 1);
            }
            due("what all of them cost", x.cost(), 0);
            x.paint(64, 127, 1);
            due("no move is better", x.better(0), -1);
            due("their counts", x.quiet(111), 12 * 24);
            due("short ones", x.shorts(1), 0);
            due("the greatest part", x.lead(1, 0, 0, false), 11);
            due("mends of none", x.mends(0, 0, 0, -1), -1);
            x.limit(1, 78);
            x.storm(111, true);
            due("mends of the 12th", x.mends(0, 1, 0, -1), 15 * 12);
            due("mend of the 12th", x.mends(0, 1, 0, 11), 2);
            missing("way of the 13th", () -> x.way(12, 0));
            missing("flow of the 13th", () -> x.flow(12, 0, 0, 0));
        });
        says("-1: there are 12.", () -> {
            SkyCuts x = new SkyCuts();
            for (int i = 0; i < 11; i++) {
                stream(x, "0");
            }
            due("a fault", stream(x, "x"), -9);
            due("the 12th", stream(x, "0"), 11);
            feed(x, "1r2                      ");
            due("the 13th", x.stream(3), -1);
            due("the tape", x.count(9), 0);
            due("fault", x.fault(), -1);
            due("the 12th is as it was", x.way(11, 1), -1);
            due("the 13th again", stream(x, "0"), -1);
        });
        says("a WAY, told as a text of up to 100 bytes", () -> {
            fine("5" + " ".repeat(99), 1, 5);
            fine(" ".repeat(97) + "127", 1, 127);
            fine(" ".repeat(98) + "0r", 2, 1);
            faulty(" ".repeat(100), 1, 100);
            faulty(" ".repeat(99) + "?", 1, 99);
            fine("0" + "r".repeat(7) + " ".repeat(92), 8, 7);
            SkyCuts x = new SkyCuts();
            feed(x, "0" + " ".repeat(99) + "?");
            illegal("101 bytes", () -> x.stream(101));
            due("the tape stays", x.count(9), 120);
            due("100 of them", x.stream(100), 0);
        });
    }

    private static void moves() {
        says("N (the first CELL), { MOVE }", () -> {
            for (int cell : CORNERS) {
                fine("" + cell, 1, cell);
            }
            faulty("r", 1, 0);
            faulty("c0", 1, 0);
        });
        says("each with an N behind it or without (so many times, 1 to 7; 1 without)", () -> {
            String[] ahead = {"0r", "7l", "0d", "56u", "64r", "71l", "64d", "120u"};
            int[] first = {0, 7, 0, 56, 64, 71, 64, 120};
            int[] step = {1, -1, 8, -8, 1, -1, 8, -8};
            for (int i = 0; i < ahead.length; i++) {
                fine(ahead[i], 2, first[i] + step[i]);
                for (int n = 1; n <= 7; n++) {
                    fine(ahead[i] + n, n + 1, first[i] + n * step[i]);
                }
                faulty(ahead[i] + "0", 2, ahead[i].length());
                faulty(ahead[i] + "8", 2, ahead[i].length());
                faulty(ahead[i] + "00", 2, ahead[i].length());
                faulty(ahead[i] + "10", 2, ahead[i].length());
            }
        });
        says("\"c\" (z 0 to 1), \"s\" (z 1 to 0)", () -> {
            for (int cell = 0; cell < 64; cell += 9) {
                fine(cell + "c", 2, cell + 64);
                fine(cell + 64 + "s", 2, cell);
            }
            fine("0crs", 4, 1);
            // No N stands behind them.
            faulty("0c1", 1, 2);
            faulty("64s1", 1, 3);
            faulty("0c 1", 1, 3);
        });
        says("N: digits, as many as stand there", () -> {
            fine("005r02", 3, 7);
            fine("0000000000000000000127", 1, 127);
            fine("0r0000000000000000000007", 8, 7);
            faulty("1 2", 1, 2);
            faulty("0r1 1", 1, 4);
            faulty("1272", 2, 0);
            faulty("0r77", 2, 2);
        });
        says("blanks (32) may stand ahead of all these, and at the end.", () -> {
            fine("   0   r   3   c   d   2   s   ", 8, 19);
            fine("0r3cdds", 8, 19);
            for (int other : new int[] {0, 9, 10, 13, 31, 33, 160, 255}) {
                String sign = "" + (char) other;
                faulty(sign + "0r", 1, 0);
                faulty("0" + sign + "r", 1, 1);
                faulty("0r" + sign + "2", 1, 2);
                faulty("0r2" + sign, 1, 3);
            }
        });
        says("A WAY has at most 24 CELLS, none twice.", () -> {
            fine(SNAKE, 24, 23);
            fine("0r7dl7dr6", 23, 22);
            fine("0crsdclds", 9, 16);
            faulty(SNAKE + "d", 4, 9);
            faulty(SNAKE + "c", 4, 9);
            faulty("0r7dl7dr6d2", 4, 9);
            fine("0r7dl7dr6d", 24, 30);
        });
    }

    private static void faults() {
        says("FAULTS, the first from the left, at its first byte", () -> {
            faulty("0r?7r9", 1, 2);
            faulty("128x", 2, 0);
            faulty("0lx", 3, 1);
            faulty("0rlx", 4, 2);
            faulty("0xl", 1, 1);
            faulty("0r8?", 2, 2);
            faulty("?128", 1, 0);
            faulty("  128", 2, 2);
            faulty("0r  08", 2, 4);
            faulty("0  l", 3, 3);
            faulty("0 r  l", 4, 5);
            faulty("  ?", 1, 2);
        });
        says("1 what can't stand there (at the length, if the text ends too early)", () -> {
            faulty("", 1, 0);
            faulty(" ", 1, 1);
            faulty("     ", 1, 5);
            faulty("-1", 1, 0);
            faulty("+1", 1, 0);
            faulty("0R", 1, 1);
            faulty("0x", 1, 1);
            faulty("0;", 1, 1);
            faulty("0rx", 1, 2);
            faulty("0/", 1, 1);
            faulty("0:", 1, 1);
            for (int other = 128; other < 256; other += 18) {
                faulty("0r" + (char) other, 1, 2);
            }
            // A byte is a sign of its own: one with its highest bit set is no digit and no letter.
            faulty("" + (char) ('0' + 128), 1, 0);
            faulty("0" + (char) ('r' + 128), 1, 1);
        });
        says("2 an N that is none such (0 to 127 for the first CELL)", () -> {
            fine("0", 1, 0);
            fine("127", 1, 127);
            String[] great = {"128", "255", "256", "999", "2147483647", "2147483648", "4294967296", "4294967423",
                "18446744073709551616", "9".repeat(100)};
            for (String n : great) {
                faulty(n, 2, 0);
            }
            for (String n : new String[] {"8", "9", "256", "4294967297", "18446744073709551617", "9".repeat(98)}) {
                faulty("0r" + n, 2, 2);
                faulty("0d" + n, 2, 2);
            }
        });
        says("3 a MOVE (at its letter) that leaves the air", () -> {
            for (int i = 0; i < 8; i++) {
                int left = 8 * i;
                int top = i;
                faulty(left + "l", 3, ("" + left).length());
                faulty(left + 7 + "r", 3, ("" + (left + 7)).length());
                faulty(top + "u", 3, 1);
                faulty(56 + top + "d", 3, 2);
                faulty(64 + left + "l", 3, ("" + (64 + left)).length());
                faulty(64 + left + 7 + "r", 3, ("" + (64 + left + 7)).length());
                faulty(64 + top + "u", 3, 2);
                faulty(120 + top + "d", 3, 3);
                faulty(left + "s", 3, ("" + left).length());
                faulty(64 + left + "c", 3, ("" + (64 + left)).length());
            }
            fine("5r2", 3, 7);
            faulty("5r3", 3, 1);
            faulty("2l3", 3, 1);
            faulty("48d2", 3, 2);
            faulty("8u2", 3, 1);
        });
        says("4 one that makes a 25th CELL, or comes to a CELL of the WAY again", () -> {
            faulty(SNAKE + "d7", 4, 9);
            faulty("0rl", 4, 2);
            faulty("1lr", 4, 2);
            faulty("0du", 4, 2);
            faulty("8ud", 4, 2);
            faulty("0cs", 4, 2);
            faulty("64sc", 4, 3);
            faulty("0rdlu", 4, 4);
            faulty("0r3dl2u", 4, 6);
            faulty("0r3d2l2u2", 4, 7);
            fine("0r3d2l2u", 9, 9);
        });
        says("of one the least (of one MOVE told several times the first that is so; behind its N).", () -> {
            // It would be a 25th cell, and out of the air.
            faulty(SNAKE + "r", 3, 9);
            faulty(SNAKE + "s", 3, 9);
            faulty("0r7dl7dr6r3", 3, 9);
            // A cell again comes ahead of the air's end, and so does a 25th cell.
            faulty("0rl3", 4, 2);
            faulty("72usr7dl7dr5r3", 4, 12);
            // The N is none such, whatever the move does.
            faulty("7r9", 2, 2);
            faulty("7r 0", 2, 3);
            faulty("0rl0", 2, 3);
            faulty(SNAKE + "d8", 2, 10);
            // The move comes ahead of what can't stand behind it.
            faulty("7r?", 3, 1);
            faulty("7r1?", 3, 1);
            faulty("0rl1?", 4, 2);
            faulty("64c1", 3, 2);
            faulty("0cs1", 4, 2);
        });
    }

    private static void counts() {
        says("COUNT of a STREAM in a QUARTER: 0 to 50 (0 at first)", () -> {
            SkyCuts x = new SkyCuts();
            stream(x, "0");
            for (int q = 0; q < 24; q++) {
                due("most at first, " + q, x.most(0, q), 0);
            }
            due("quiet at first", x.quiet(0), 0);
            x.flow(0, 0, 23, 50);
            due("most", x.most(0, 12), 50);
            due("quiet", x.quiet(0), 24 * 50);
            for (int count : new int[] {-1, 51, LEAST, GREATEST}) {
                illegal("count " + count, () -> x.flow(0, 0, 23, count));
            }
            due("most stays", x.most(0, 0), 50);
            x.flow(0, 0, 23, 0);
            due("most", x.most(0, 0), 0);
        });
        says("EARLY, LATE: 0 to 2 (0 at first).", () -> {
            SkyCuts x = new SkyCuts();
            stream(x, "0");
            x.flow(0, 10, 10, 9);
            mosts(x, 10, 10);
            int[][] spans = {{0, 1}, {0, 2}, {1, 0}, {2, 0}, {2, 2}, {0, 0}, {1, 2}};
            for (int[] span : spans) {
                x.span(0, span[0], span[1]);
                mosts(x, 10 - span[0], 10 + span[1]);
            }
            for (int wrong : new int[] {-1, 3, LEAST, GREATEST}) {
                illegal("early " + wrong, () -> x.span(0, wrong, 0));
                illegal("late " + wrong, () -> x.span(0, 0, wrong));
            }
            mosts(x, 9, 12);
        });
        says("from LATE QUARTERS ahead to EARLY QUARTERS behind that (as far as there are such).", () -> {
            SkyCuts x = new SkyCuts();
            stream(x, "0");
            x.span(0, 2, 2);
            x.flow(0, 0, 0, 5);
            mostsAre(x, 5, 5, 5, 0);
            due("23 sees nothing of 0", x.most(0, 23), 0);
            due("22 sees nothing of 0", x.most(0, 22), 0);
            x.flow(0, 0, 0, 0);
            x.flow(0, 23, 23, 7);
            due("0 sees nothing of 23", x.most(0, 0), 0);
            due("1 sees nothing of 23", x.most(0, 1), 0);
            for (int q = 19; q < 24; q++) {
                due("most " + q, x.most(0, q), q < 21 ? 0 : 7);
            }
            x.flow(0, 0, 4, 1);
            x.flow(0, 2, 2, 3);
            mostsAre(x, 3, 3, 3, 3, 3, 1, 1, 0);
        });
        says("the greatest of its COUNTS", () -> {
            SkyCuts x = new SkyCuts();
            stream(x, "0");
            stream(x, "0", 50);
            x.flow(0, 4, 4, 2);
            x.flow(0, 5, 5, 8);
            x.flow(0, 6, 6, 4);
            x.span(0, 1, 1);
            mostsAre(x, 0, 0, 0, 2, 8, 8, 8, 4, 0);
            due("of the other one", x.most(1, 7), 50);
        });
    }

    private static void mosts(SkyCuts x, int first, int last) {
        for (int q = 6; q < 15; q++) {
            due("most " + q, x.most(0, q), q >= first && q <= last ? 9 : 0);
        }
    }

    private static void mostsAre(SkyCuts x, int... want) {
        for (int q = 0; q < want.length; q++) {
            due("most " + q, x.most(0, q), want[q]);
        }
    }

    /** Whether two streams that meet in a cell do not go alike there: what a piece of that cell alone hears. */
    private static void meet(String one, String other, int cell, boolean unlike) {
        SkyCuts x = new SkyCuts();
        stream(x, one, 3);
        stream(x, other, 5);
        x.assign(cell, 1);
        due(one + " and " + other + " in " + cell, x.hears(1, 0, 1), unlike ? 3 : 0);
        due(one + " and " + other + " at edge in " + cell, x.edge(1), unlike ? 1 : 0);
    }

    private static void goes() {
        says("the step to the next one (0 to 5: r, l, d, u, c, s)", () -> {
            String[] from = {"27r", "27l", "27d", "27u", "27c"};
            for (String one : from) {
                for (String other : from) {
                    meet(one, other, 27, !one.equals(other));
                }
            }
            String[] high = {"91r", "91l", "91d", "91u", "91s"};
            for (String one : high) {
                for (String other : high) {
                    meet(one, other, 91, !one.equals(other));
                }
            }
            // It is the step out of the cell that counts, not the one into it.
            meet("26r2", "19dr", 27, false);
            meet("26r2", "26rd", 27, true);
        });
        says("in the last CELL the step by which it came", () -> {
            meet("26r", "27r", 27, false);
            meet("26r", "19d", 27, true);
            meet("26r", "27d", 27, true);
            meet("28l", "27l", 27, false);
            meet("35u", "27u", 27, false);
            meet("19d", "27d", 27, false);
            meet("27c", "90r", 91, true);
            meet("91s", "26r", 27, true);
            meet("25r2", "26r", 27, false);
        });
        says("6 if it has one CELL alone.", () -> {
            meet("27", "27", 27, false);
            meet("27", "27r", 27, true);
            meet("27", "26r", 27, true);
            meet("27", "91s", 27, true);
            meet("91", "27c", 91, true);
        });
    }

    private static void newObject() {
        says("All CELLS are of PIECE 0; no STREAMS.", () -> {
            SkyCuts x = new SkyCuts();
            due("streams", x.count(0), 0);
            due("pieces with cells", x.count(2), 1);
            due("shut cells", x.count(3), 0);
            for (int cell = 0; cell < 128; cell++) {
                due("cell " + cell, x.assign(cell, 0), 0);
            }
            due("clauses", x.count(1), 0);
            due("the region", x.count(4), 0);
            due("configurations", x.count(5), 0);
            due("rows", x.count(6), 0);
            due("the storm", x.count(7), 0);
            due("marks", x.count(8), 0);
            due("the tape", x.count(9), 0);
        });
        says("public static final int NONE = -1;", () -> due("NONE", SkyCuts.NONE, -1));
    }

    private static void tape() {
        says("Twenty bytes come on the TAPE, of each number the highest first", () -> {
            // "  1 2 7 " can't be told from where it stands, so a number of three digits goes over two of them.
            for (int at = 0; at < 18; at++) {
                String text = " ".repeat(at) + "127" + " ".repeat(17 - at);
                fine(text, 1, 127);
                faulty(" ".repeat(at) + "?", 1, at);
            }
            SkyCuts x = new SkyCuts();
            due("feed", x.feed(0x20202020, 0x20202020, 0x20202031, 0x32372020, 0x20202020), 20);
            due("stream", x.stream(20), 0);
            due("way", x.way(0, 0), 127);
            due("feed of numbers below 0", x.feed(-1, LEAST, -2, 0x80808080, 0xFFFFFFFF), 20);
            due("stream", x.stream(20), -9);
        });
        says("how many there are; NONE, doing nothing, if there would be more than 200.", () -> {
            SkyCuts x = new SkyCuts();
            for (int i = 1; i <= 10; i++) {
                due("feed " + i, x.feed(0x31202020, 0x20202020, 0x20202020, 0x20202020, 0x20202020), 20 * i);
                due("bytes", x.count(9), 20 * i);
            }
            due("feed 11", x.feed(0, 0, 0, 0, 0), -1);
            due("feed 12", x.feed(0, 0, 0, 0, 0), -1);
            due("bytes", x.count(9), 200);
            due("the last number can't stand there", x.rules(200), -9);
            due("bytes", x.count(9), 0);
            due("feed again", x.feed(0x35202020, 0x20202020, 0x20202020, 0x20202020, 0x20202020), 20);
            due("stream", x.stream(20), 0);
            due("nothing is left of what there was", x.way(0, 0), 5);
            SkyCuts y = new SkyCuts();
            feed(y, "load 12;" + " ".repeat(191) + "?");
            due("feed", y.feed(0x20202020, 0x20202020, 0x20202020, 0x20202020, 0x20202020), -1);
            due("the 200th byte is as it was", y.rules(200), -9);
            due("its place", y.fault(), 199);
        });
        says("The first n bytes of the TAPE (empty then) are a STREAM: its number, or its FAULT less 10", () -> {
            SkyCuts x = new SkyCuts();
            feed(x, "12 r 2 d ?");
            due("the first one", x.stream(1), 0);
            due("the tape", x.count(9), 0);
            due("its cell", x.way(0, 0), 1);
            feed(x, "12 r 2 d ?");
            due("the first 2", x.stream(2), 1);
            due("its cell", x.way(1, 0), 12);
            feed(x, "12 r 2 d ?");
            due("the first 4", x.stream(4), 2);
            due("its last cell", x.way(2, 1), 13);
            feed(x, "12 r 2 d ?");
            due("the first 8", x.stream(8), 3);
            due("its last cell", x.way(3, 3), 22);
            feed(x, "12 r 2 d ?");
            due("the first 10", x.stream(10), -9);
            due("the tape", x.count(9), 0);
            feed(x, "12 r 2 d ?");
            due("the first none", x.stream(0), -9);
            due("fault", x.fault(), 0);
            due("the tape", x.count(9), 0);
            due("none of none", x.stream(0), -9);
            feed(x, "999");
            due("fault 2", x.stream(3), -8);
            feed(x, "0l");
            due("fault 3", x.stream(2), -7);
            feed(x, "0rl");
            due("fault 4", x.stream(3), -6);
        });
        says("n is not 0 to the TAPE's bytes, or above 100 (it stays).", () -> {
            SkyCuts x = new SkyCuts();
            illegal("1 of none", () -> x.stream(1));
            illegal("-1 of none", () -> x.stream(-1));
            feed(x, "0" + " ".repeat(19));
            for (int n : new int[] {-1, 21, 100, 101, LEAST, GREATEST}) {
                illegal(n + " of 20", () -> x.stream(n));
                due("the tape stays", x.count(9), 20);
            }
            due("20 of 20", x.stream(20), 0);
            feed(x, "1" + " ".repeat(199));
            for (int n : new int[] {-1, 101, 200, 201}) {
                illegal(n + " of 200", () -> x.stream(n));
                due("the tape stays", x.count(9), 200);
            }
            due("100 of 200", x.stream(100), 1);
            due("streams", x.count(0), 2);
        });
    }

    private static void places() {
        says("The place of the FAULT of the latest stream() or rules(); NONE without.", () -> {
            SkyCuts x = new SkyCuts();
            due("at first", x.fault(), -1);
            stream(x, "?");
            due("of a stream, 0", x.fault(), 0);
            due("asked again", x.fault(), 0);
            stream(x, "0r2 ?");
            due("of a stream, 4", x.fault(), 4);
            rules(x, "load 1; ?");
            due("of rules, 8", x.fault(), 8);
            stream(x, "0");
            due("of a stream without", x.fault(), -1);
            rules(x, " ?");
            due("of rules, 1", x.fault(), 1);
            rules(x, "load 1;");
            due("of rules without", x.fault(), -1);
            rules(x, "load 1;" + " ".repeat(192) + "?");
            due("of rules, 199", x.fault(), 199);
            x.rules(0);
            due("of empty rules", x.fault(), -1);
            stream(x, " ".repeat(100));
            due("of a stream, 100", x.fault(), 100);
            rules(x, "load 1" + " ".repeat(194));
            due("of rules, 200", x.fault(), 200);
            x.feed(0, 0, 0, 0, 0);
            x.assign(0, 1);
            due("other calls leave it", x.fault(), 200);
        });
        says("The k-th CELL of a WAY; NONE.", () -> {
            SkyCuts x = new SkyCuts();
            stream(x, SNAKE);
            stream(x, "64");
            for (int k = 0; k < 24; k++) {
                due("cell " + k, x.way(0, k), k / 8 == 1 ? 23 - k : k);
            }
            for (int k : new int[] {24, 25, -1, LEAST, GREATEST}) {
                due("cell " + k, x.way(0, k), -1);
            }
            due("cell 0 of one", x.way(1, 0), 64);
            due("cell 1 of one", x.way(1, 1), -1);
            due("cell -1 of one", x.way(1, -1), -1);
        });
        says("COUNT from a QUARTER to another one (both).", () -> {
            SkyCuts x = new SkyCuts();
            stream(x, "0");
            x.flow(0, 4, 6, 5);
            mostsAre(x, 0, 0, 0, 0, 5, 5, 5, 0);
            x.flow(0, 5, 5, 2);
            mostsAre(x, 0, 0, 0, 0, 5, 2, 5, 0);
            x.flow(0, 0, 23, 1);
            due("the first", x.most(0, 0), 1);
            due("the last", x.most(0, 23), 1);
            due("all of them", x.quiet(0), 24);
        });
        says("IllegalArgumentException: QUARTERS, from above to, or the COUNT.", () -> {
            SkyCuts x = new SkyCuts();
            stream(x, "0", 1);
            illegal("from 1 to 0", () -> x.flow(0, 1, 0, 5));
            illegal("from 23 to 0", () -> x.flow(0, 23, 0, 5));
            illegal("from -1", () -> x.flow(0, -1, 0, 5));
            illegal("to 24", () -> x.flow(0, 23, 24, 5));
            illegal("of 51", () -> x.flow(0, 0, 23, 51));
            illegal("of -1", () -> x.flow(0, 0, 23, -1));
            due("all is as it was", x.quiet(0), 24);
        });
    }

    public static void main(String[] args) {
        cells();
        quarters();
        streams();
        moves();
        faults();
        counts();
        goes();
        newObject();
        tape();
        places();
        close("EdgesAirTest");
    }
}
