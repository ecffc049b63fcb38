/** Every sentence that names an edge of pieces, what they hear, and rules: ==== 2 of the terms, promises 4, 10 to 14. */
public final class EdgesHearTest extends Edges {
    private static final int[] NO_PIECES = {-1, 8, LEAST, GREATEST};

    private static void pieces() {
        says("PIECES 0 to 7: each CELL is of one, or SHUT (all of PIECE 0 at first).", () -> {
            SkyCuts x = new SkyCuts();
            int was = 0;
            for (int piece = -1; piece < 8; piece++) {
                due("assign to " + piece, x.assign(64, piece), was);
                due("cells that are shut", x.count(3), piece < 0 ? 1 : 0);
                due("pieces with cells", x.count(2), piece < 1 ? 1 : 2);
                was = piece;
            }
            for (int piece = 0; piece < 8; piece++) {
                due("limit of " + piece, x.limit(piece, 41), 40);
                due("hears of " + piece, x.hears(piece, 0, 4), 0);
                due("peak of " + piece, x.peak(piece, 0), 0);
                due("whole of " + piece, x.whole(piece), true);
                due("neck of " + piece, x.neck(piece, 0), -1);
                due("shorts of " + piece, x.shorts(piece), 0);
                due("edge of " + piece, x.edge(piece), 0);
                due("did of " + piece, x.did(piece, 0, 0, false), piece);
                due("lead of " + piece, x.lead(piece, 0, 0, false), -1);
                if (piece > 0) {
                    due("worth to " + piece, x.worth(0, piece), 0);
                }
            }
        });
        says("IllegalArgumentException: no such PIECE (so below).", () -> {
            for (int piece : NO_PIECES) {
                SkyCuts x = new SkyCuts();
                if (piece != -1) {
                    illegal("assign to " + piece, () -> x.assign(0, piece));
                    illegal("paint with " + piece, () -> x.paint(0, 63, piece));
                }
                illegal("limit of " + piece, () -> x.limit(piece, 0));
                illegal("hears of " + piece, () -> x.hears(piece, 0, 0));
                illegal("peak of " + piece, () -> x.peak(piece, 0));
                illegal("whole of " + piece, () -> x.whole(piece));
                illegal("neck of " + piece, () -> x.neck(piece, 0));
                illegal("shorts of " + piece, () -> x.shorts(piece));
                illegal("edge of " + piece, () -> x.edge(piece));
                illegal("did of " + piece, () -> x.did(piece, 0, 0, false));
                illegal("lead of " + piece, () -> x.lead(piece, 0, 0, false));
                illegal("worth to " + piece, () -> x.worth(0, piece));
                due("pieces with cells", x.count(2), 1);
                due("shut cells", x.count(3), 0);
                due("rows", x.count(6), 0);
            }
            SkyCuts y = new SkyCuts();
            illegal("assign to -2", () -> y.assign(0, -2));
            illegal("paint with -2", () -> y.paint(0, 0, -2));
            due("cell 0", y.assign(0, 0), 0);
        });
        says("A CELL is of a PIECE (NONE: SHUT): the one it was of.", () -> {
            SkyCuts x = new SkyCuts();
            due("to 7", x.assign(127, 7), 0);
            due("to 7 again", x.assign(127, 7), 7);
            due("shut", x.assign(127, -1), 7);
            due("shut again", x.assign(127, -1), -1);
            due("to 0", x.assign(127, 0), -1);
            due("cell 126", x.assign(126, 0), 0);
            due("cell 63", x.assign(63, 0), 0);
        });
    }

    private static void painting() {
        says("All CELLS of one z with x and y from .. to (both) are of a PIECE (NONE: SHUT): how many were not.", () -> {
            SkyCuts x = new SkyCuts();
            due("a cell", x.paint(0, 0, 1), 1);
            due("the last cell", x.paint(127, 127, 1), 1);
            due("a row", x.paint(8, 15, 1), 8);
            due("a column", x.paint(1, 57, 1), 8 - 1);
            due("a layer", x.paint(0, 63, 1), 64 - 16);
            due("it again", x.paint(0, 63, 1), 0);
            due("the other layer", x.paint(64, 127, 0), 1);
            due("shut", x.paint(64, 127, -1), 64);
            due("shut again", x.paint(64, 127, -1), 0);
            SkyCuts y = new SkyCuts();
            due("x 2 to 4, y 1 to 3, z 1", y.paint(64 + 10, 64 + 28, 3), 9);
            for (int cell = 0; cell < 128; cell++) {
                boolean in = cell >= 64 && cell % 8 >= 2 && cell % 8 <= 4 && cell / 8 % 8 >= 1 && cell / 8 % 8 <= 3;
                due("cell " + cell, y.assign(cell, in ? 3 : 0), in ? 3 : 0);
            }
        });
        says("IllegalArgumentException: also x, y, z (at from and to one z).", () -> {
            SkyCuts x = new SkyCuts();
            illegal("z", () -> x.paint(0, 64, 1));
            illegal("z back", () -> x.paint(64, 0, 1));
            illegal("z, all", () -> x.paint(0, 127, 1));
            illegal("x", () -> x.paint(1, 8, 1));
            illegal("x, one row", () -> x.paint(1, 0, 1));
            illegal("x, far", () -> x.paint(7, 56, 1));
            illegal("y", () -> x.paint(8, 1, 1));
            illegal("y, one column", () -> x.paint(8, 0, 1));
            illegal("x and y", () -> x.paint(63, 0, 1));
            illegal("x, high", () -> x.paint(65, 72, 1));
            illegal("y, high", () -> x.paint(72, 65, 1));
            due("nothing is painted", x.count(2), 1);
            due("one of x is enough", x.paint(7, 63, 1), 8);
            due("one of y is enough", x.paint(56, 63, 2), 8);
        });
    }

    private static void all(SkyCuts x, int piece, int... want) {
        for (int what = 0; what < want.length; what++) {
            due("hears " + piece + " what " + what, x.hears(piece, 0, what), want[what]);
        }
    }

    /** All 66 couples meet somewhere without going alike: 59 in 27, 3 in 26 and 28, 1 in 19, 20, 35 and 91. */
    private static void eachTwoOfTwelve() {
        SkyCuts x = new SkyCuts();
        String[] ways = {"27r", "27ru", "27l", "27lu", "28l2d", "27d", "27dr", "27u", "27ur", "27c", "27cr", "27"};
        for (String way : ways) {
            stream(x, way, 1);
        }
        due("cross of all", x.hears(0, 0, 1), 59 + 3 + 3 + 1 + 1 + 1 + 1);
        int[] cells = {27, 26, 28, 19, 20, 35, 91, 18};
        int[] want = {59, 3, 3, 1, 1, 1, 1, 0};
        for (int i = 0; i < cells.length; i++) {
            x.assign(cells[i], 1);
            due("cross in " + cells[i], x.hears(1, 0, 1), want[i]);
            due("at edge in " + cells[i], x.edge(1), want[i] > 0 ? 1 : 0);
            x.assign(cells[i], 0);
        }
        x.limit(0, 12 + 2 * 69 - 1);
        due("full by one", x.mends(0, 0, 0, -1), -1);
        x.limit(0, 12 + 2 * 69);
        due("not full", x.mends(0, 0, 0, -1), 0);
    }

    private static void hearing() {
        says("ways: of those with a CELL in it, together", () -> {
            SkyCuts x = new SkyCuts();
            stream(x, "0r3", 5);
            stream(x, "56r3", 7);
            put(x, 1, 0, 2);
            all(x, 1, 5, 0, 15, 0, 20);
            all(x, 0, 12, 0, 15, 0, 27);
            all(x, 2, 0, 0, 0, 0, 0);
            x.paint(0, 63, -1);
            all(x, 0, 0, 0, 0, 0, 0);
        });
        says("for each of its CELLS and each two STREAMS that come there and do not GO alike the lesser MOST, together",
            () -> {
                SkyCuts x = new SkyCuts();
                stream(x, "27r", 5);
                stream(x, "27l", 3);
                stream(x, "27d", 9);
                all(x, 0, 17, 3 + 5 + 3, 0, 0, 17 + 22);
                stream(x, "27d", 50);
                all(x, 0, 67, 11 + 5 + 3);
                x.flow(0, 0, 23, 0);
                all(x, 0, 62, 3 + 3);
                // Two that meet in two cells cross in both.
                SkyCuts y = new SkyCuts();
                stream(y, "0r", 2);
                stream(y, "1l", 4);
                all(y, 0, 6, 4, 0, 0, 14);
                y.assign(1, 1);
                all(y, 0, 6, 2, 6, 0, 16);
                all(y, 1, 6, 2, 6, 0, 16);
                eachTwoOfTwelve();
            });
        says("over: MOST for each step of a WAY between a CELL in it and one that is not", () -> {
            SkyCuts x = new SkyCuts();
            stream(x, "0r7", 2);
            put(x, 1, 1, 3, 4);
            all(x, 1, 2, 0, 8);
            all(x, 0, 2, 0, 8);
            x.assign(2, -1);
            all(x, 1, 2, 0, 8);
            all(x, 0, 2, 0, 4);
            x.assign(2, 7);
            all(x, 7, 2, 0, 4);
            // From row to row there is no step.
            SkyCuts y = new SkyCuts();
            stream(y, "7l7", 1);
            y.paint(8, 15, 1);
            all(y, 0, 1, 0, 0);
            all(y, 1, 0, 0, 0);
        });
        says("climb: MOST for each step c or s within it.", () -> {
            SkyCuts x = new SkyCuts();
            stream(x, "0crs", 4);
            all(x, 0, 4, 0, 0, 8, 4);
            x.assign(64, 1);
            all(x, 0, 4, 0, 8, 4, 12);
            all(x, 1, 4, 0, 8, 0, 12);
            x.assign(0, 1);
            all(x, 0, 4, 0, 4, 4, 8);
            all(x, 1, 4, 0, 4, 4, 8);
            x.paint(64, 127, -1);
            all(x, 0, 4, 0, 4, 0, 8);
        });
        says("What a set of CELLS hears in a QUARTER, by MOST of all STREAMS", () -> {
            SkyCuts x = new SkyCuts();
            for (int i = 0; i < 12; i++) {
                stream(x, "0");
                x.flow(i, i, i, 50);
            }
            for (int q = 0; q < 24; q++) {
                due("quarter " + q, x.hears(0, q, 0), q < 12 ? 50 : 0);
            }
            x.span(11, 2, 2);
            due("late ones", x.hears(0, 13, 0), 50);
            due("early ones", x.hears(0, 9, 0), 100);
            x.span(0, 0, 1);
            due("late ones", x.hears(0, 1, 0), 100);
            SkyCuts y = new SkyCuts();
            for (int i = 0; i < 12; i++) {
                stream(y, "0", 50);
            }
            due("all of them", y.hears(0, 23, 0), 600);
        });
        says("0 ways, 1 cross, 2 over, 3 climb, 4 LOAD. IllegalArgumentException: also another what.", () -> {
            SkyCuts x = new SkyCuts();
            for (int what : new int[] {-1, 5, LEAST, GREATEST}) {
                illegal("what " + what, () -> x.hears(0, 0, what));
            }
            illegal("no piece, no quarter, no what", () -> x.hears(8, 24, 5));
        });
    }

    /** A load of piece 0 without streams. */
    private static void worked(String sum, int want) {
        SkyCuts x = new SkyCuts();
        due("rules of " + sum, rules(x, "load " + sum + ";"), 1);
        due(sum, x.hears(0, 0, 4), want);
    }

    /** Whether pieces 0 and 1 may be joined. */
    private static void joined(String test, boolean want) {
        SkyCuts x = new SkyCuts();
        x.paint(64, 127, 1);
        x.configure(0);
        due("rules of " + test, rules(x, "join " + test + ";"), 1);
        due(test, x.pairs(0, 0), want ? 1 : -1);
    }

    private static void texts() {
        says("RULES are a text of up to 200 bytes: { CLAUSE \";\" }", () -> {
            fineRules("", 0);
            fineRules(" ", 0);
            fineRules(" ".repeat(200), 0);
            String longest = "load 1" + "+1".repeat(96) + " ;";
            due("its bytes", longest.length(), 200);
            SkyCuts x = new SkyCuts();
            due("200 bytes", rules(x, longest), 1);
            due("its value", x.hears(0, 0, 4), 97);
            faultyRules("load 1" + "+1".repeat(97), 1, 200);
            faultyRules("load 1", 1, 6);
            faultyRules(";", 1, 0);
            faultyRules("load 1;;", 1, 7);
            faultyRules("load 1,", 1, 6);
        });
        says("CLAUSE: \"load\" E or \"join\" C.", () -> {
            faultyRules("load;", 1, 4);
            faultyRules("join;", 1, 4);
            faultyRules("load 1 = 1;", 1, 7);
            faultyRules("join 1;", 1, 6);
            faultyRules("ways;", 1, 0);
            faultyRules("1;", 1, 0);
            faultyRules("loads 1;", 1, 0);
            faultyRules("loa 1;", 1, 0);
            fineRules("load 1;join 1=1;load 2;", 3);
        });
        says("U: N (0 to 999)", () -> {
            worked("0", 0);
            worked("999", 999);
            worked("0000000999", 999);
            faultyRules("load 1000;", 2, 5);
            faultyRules("load 4294967296;", 2, 5);
            faultyRules("load 4294967297;", 2, 5);
            faultyRules("load 18446744073709551617;", 2, 5);
            faultyRules("load " + "9".repeat(195), 2, 5);
            faultyRules("load 999 + 1000;", 2, 11);
            faultyRules("load -1;", 1, 5);
        });
        says("\"cells\" (how many CELLS the set has), \"low\" (how many with z 0)", () -> {
            SkyCuts x = new SkyCuts();
            rules(x, "load cells * 999 + low;");
            due("all", x.hears(0, 0, 4), 128 * 999 + 64);
            due("none", x.hears(1, 0, 4), 0);
            x.assign(63, 1);
            x.assign(64, 2);
            due("one low", x.hears(1, 0, 4), 999 + 1);
            due("one high", x.hears(2, 0, 4), 999);
            due("all but these", x.hears(0, 0, 4), 126 * 999 + 63);
        });
        says("(how many PIECES with CELLS it is made of; 1 of a PIECE alone, and of a HEAP)", () -> {
            SkyCuts x = new SkyCuts();
            rules(x, "load pieces; join pieces = 3;");
            due("a piece", x.hears(0, 0, 4), 1);
            due("the peak of a piece", x.peak(0, 0), 1);
            x.region(5);
            x.region(6);
            due("a heap", x.parted(1, -1), 1);
            x.assign(5, 1);
            due("a heap of two pieces", x.parted(1, -1), 1);
            x.configure(0);
            due("two pieces", x.pairs(0, 0), -1);
            x.assign(9, 7);
            due("three of eight", x.pairs(0, 0), 1);
            x.limit(0, 2);
            due("a load of 3", x.pairs(0, 0), -1);
            x.limit(0, 3);
            due("a load of 3", x.pairs(0, 0), 1);
        });
        says("WORDS: small letters, as many as stand there", () -> {
            faultyRules("loadways;", 1, 0);
            faultyRules("load wayscross;", 1, 5);
            faultyRules("load way s;", 1, 5);
            faultyRules("load Ways;", 1, 5);
            faultyRules("LOAD 1;", 1, 0);
            faultyRules("load ways2;", 1, 9);
            faultyRules("load 2ways;", 1, 6);
            faultyRules("load leas(1,2);", 1, 5);
            faultyRules("join 1<2 andnot 1<2;", 1, 9);
            faultyRules("join notnot 1<2;", 1, 5);
            fineRules("load2;", 1);
            fineRules("join1<2and not1<2or2<1;", 1);
            fineRules("load least(most(1,2),3);", 1);
        });
        says("blanks and N as above.", () -> {
            fineRules("  load  least  (  1  +  2  ,  ways  )  ;  join  not  [  1  <  2  ]  ;  ", 2);
            fineRules("load least(1+2,ways);join not[1<2];", 2);
            for (int other : new int[] {0, 9, 10, 31, 160}) {
                faultyRules("load " + (char) other + "1;", 1, 5);
                faultyRules("load 1;" + (char) other, 1, 7);
            }
            faultyRules("load 1 2;", 1, 7);
        });
        says("At most 8 CLAUSES; the last load counts, all joins.", () -> {
            fineRules("load 1;".repeat(8), 8);
            fineRules("join 1<2;".repeat(8), 8);
            SkyCuts x = new SkyCuts();
            x.paint(64, 127, 1);
            x.configure(0);
            rules(x, "load 1;load 2;load 3;load 4;load 5;load 6;load 7;load 8;");
            due("the last", x.hears(0, 0, 4), 8);
            rules(x, "load 3; join 1 < 2;");
            due("the last load, not the last clause", x.hears(0, 0, 4), 3);
            for (int i = 0; i < 8; i++) {
                StringBuilder joins = new StringBuilder();
                for (int j = 0; j < 8; j++) {
                    joins.append(i == j ? "join 2<1;" : "join 1<2;");
                }
                rules(x, joins.toString());
                due("join " + i, x.pairs(0, 0), -1);
            }
            rules(x, "join 1<2;".repeat(8));
            due("all joins", x.pairs(0, 0), 1);
        });
    }

    private static void grammar() {
        says("E: T { + or - T }. T: U { * or / U }.", () -> {
            worked("5", 5);
            worked("2 - 3 - 4", -5);
            worked("2 - (3 - 4)", 3);
            worked("2 + 3 * 4", 14);
            worked("2 * 3 + 4", 10);
            worked("(2 + 3) * 4", 20);
            worked("20 / 2 / 5", 2);
            worked("20 / (10 / 5)", 10);
            worked("20 / 10 * 5", 10);
            worked("20 - 6 / 2 - 1", 16);
            faultyRules("load + 1;", 1, 5);
            faultyRules("load 1 + ;", 1, 9);
            faultyRules("load 1 + * 2;", 1, 9);
            faultyRules("load 1 * - 2;", 1, 9);
            faultyRules("load 1 / / 2;", 1, 9);
            faultyRules("load 1 - - 2;", 1, 9);
            faultyRules("load 1 % 2;", 1, 7);
        });
        says("\"least\" or \"most\" \"(\" E \",\" E \")\".", () -> {
            worked("least(3, 4)", 3);
            worked("least(4, 3)", 3);
            worked("least(3, 3)", 3);
            worked("most(3, 4)", 4);
            worked("most(4, 3)", 4);
            worked("most(3, 3)", 3);
            worked("least(1 + 2, 2 * 3) * most(5, 6 / 2)", 15);
            faultyRules("load least 3, 4;", 1, 11);
            faultyRules("load least[3, 4];", 1, 10);
            faultyRules("load least(3 4);", 1, 13);
            faultyRules("load least(3);", 1, 12);
            faultyRules("load least(, 3);", 1, 11);
            faultyRules("load least(3, );", 1, 14);
            faultyRules("load least(1 < 2, 3);", 1, 13);
        });
        says("C: A { \"or\" A }. A: B { \"and\" B }. B: \"not\" B, \"[\" C \"]\", or E R E; R: <, > or =.", () -> {
            for (int a = 3; a <= 5; a++) {
                joined(a + " < 4", a < 4);
                joined(a + " > 4", a > 4);
                joined(a + " = 4", a == 4);
                joined("not " + a + " < 4", a >= 4);
                joined("not not " + a + " < 4", a < 4);
            }
            // All that two tests may be, with and ahead of or, and not ahead of both.
            for (int bits = 0; bits < 8; bits++) {
                boolean a = (bits & 1) != 0;
                boolean b = (bits & 2) != 0;
                boolean c = (bits & 4) != 0;
                String one = a ? "1=1" : "1=2";
                String two = b ? "1=1" : "1=2";
                String three = c ? "1=1" : "1=2";
                joined(one + " and " + two, a && b);
                joined(one + " or " + two, a || b);
                joined(one + " or " + two + " and " + three, a || b && c);
                joined(one + " and " + two + " or " + three, a && b || c);
                joined("[" + one + " or " + two + "] and " + three, (a || b) && c);
                joined("not " + one + " or " + two, !a || b);
                joined("not " + one + " and " + two, !a && b);
                joined("not [" + one + " and " + two + "] or " + three, !(a && b) || c);
            }
            faultyRules("join 1 < = 2;", 1, 9);
            faultyRules("join 1 == 2;", 1, 8);
            faultyRules("join 1 ! 2;", 1, 7);
            faultyRules("join [1] = 1;", 1, 7);
            faultyRules("join not [1 < 2;", 1, 15);
            faultyRules("join and 1 < 2;", 1, 5);
            faultyRules("join 1 < 2 not 1 < 2;", 1, 11);
            faultyRules("join 1 not < 2;", 1, 7);
        });
    }

    private static void faults() {
        says("FAULTS 1 and 2 (above 999) likewise", () -> {
            faultyRules("load 1 ? 1000", 1, 7);
            faultyRules("load 1000 ?", 2, 5);
            faultyRules("load (1", 1, 7);
            faultyRules("load (1   ", 1, 10);
            faultyRules("load ", 1, 5);
            faultyRules("join", 1, 4);
            faultyRules("join [1<2", 1, 9);
            faultyRules("join not", 1, 8);
            faultyRules("join 1", 1, 6);
            faultyRules("join 1<", 1, 7);
            faultyRules("load most(1,", 1, 12);
            faultyRules("load most", 1, 9);
            faultyRules("load )", 1, 5);
            faultyRules("load 1)", 1, 6);
            faultyRules("join ]", 1, 5);
            faultyRules("join 1<2]", 1, 8);
            faultyRules("load most(1);", 1, 11);
            faultyRules("load least(1,2,3);", 1, 14);
            faultyRules("load (1,2);", 1, 7);
            faultyRules("join [1]<2;", 1, 7);
            faultyRules("join (1<2);", 1, 7);
            faultyRules("join 1<2>3;", 1, 8);
            faultyRules("load 1;  1000;", 1, 9);
            faultyRules("load  1001;", 2, 6);
        });
        says("3: a 9th CLAUSE", () -> {
            faultyRules("load 1;".repeat(8) + "load 1;", 3, 56);
            faultyRules("load 1;".repeat(8) + "   join 1<2;", 3, 59);
            faultyRules("load 1;".repeat(8) + "load", 3, 56);
            faultyRules("load 1;".repeat(8) + "load 1000", 3, 56);
            fineRules("load 1;".repeat(8) + "   ", 8);
            faultyRules("load 1;".repeat(7) + "load 1000;load 1;", 2, 54);
        });
        says("a 7th of ( [ and not that is open at one time (a not till its B ends)", () -> {
            worked("((((((5))))))", 5);
            faultyRules("load (((((((5)))))));", 3, 11);
            joined("[[[[[[1<2]]]]]]", true);
            faultyRules("join [[[[[[[1<2]]]]]]];", 3, 11);
            joined("not not not not not not 1<2", true);
            faultyRules("join not not not not not not not 1<2;", 3, 29);
            joined("not [not [not [1<2]]]", false);
            faultyRules("join not [not [not [(1)<2]]];", 3, 20);
            faultyRules("join not [not [not [1<(2)]]];", 3, 22);
            faultyRules("join not [not [not [not 1<2]]];", 3, 20);
            // What is closed is open no more.
            worked("(1)+(1)+(1)+(1)+(1)+(1)+(1)+(1)", 8);
            worked("((((((1))))))+((((((1))))))", 2);
            joined("[1<2] and [1<2] and [1<2] and [1<2] and [1<2] and [1<2] and [1<2]", true);
            joined("not 1<2 or not 1<2 or not 1<2 or not 1<2 or not 1<2 or not 1<2 or not 2<1", true);
            // A not is open till its B ends: through both sums, no further.
            joined("not 1<(((((2)))))", false);
            faultyRules("join not 1<((((((2))))));", 3, 16);
            faultyRules("join not ((((((2))))))<1;", 3, 14);
            joined("not 2<1 and ((((((2))))))>1", true);
            joined("not [2<1] and [[[[[[2>1]]]]]]", true);
            joined("not 2<1 or not not not not not not 2<1", true);
            // Those of least and most are such, too.
            worked("least(1,least(2,least(3,least(4,least(5,most(0,9))))))", 1);
            faultyRules("load least(1,least(2,least(3,least(4,least(5,most(0,least(1,2)))))));", 3, 57);
            faultyRules("load least(1,least(2,least(3,least(4,least(5,most(0,(1)))))));", 3, 52);
            worked("least(1,2)+least(1,2)+least(1,2)+least(1,2)+least(1,2)+least(1,2)+least(1,2)", 7);
        });
        says("of one the least. VALUES, and all sums of them", () -> {
            // What can't stand there is no 7th that is open, and no 9th clause.
            faultyRules("load ((((((1(", 1, 12);
            faultyRules("load ((((((not", 1, 11);
            faultyRules("load (((((([", 1, 11);
            faultyRules("join [[[[[[1<2[", 1, 14);
            faultyRules("load 1;".repeat(8) + "ways;", 1, 56);
            faultyRules("load 1;".repeat(8) + "1000;", 1, 56);
            faultyRules("load 1;".repeat(8) + ";", 1, 56);
        });
        says("how many CLAUSES, or the FAULT less 10 (the RULES stay).", () -> {
            SkyCuts x = new SkyCuts();
            due("two", rules(x, "load 2 + 3; join 2 < 1;"), 2);
            due("fault 1", rules(x, "load 6; load"), -9);
            due("the load stays", x.hears(0, 0, 4), 5);
            due("fault 1", rules(x, "join 1 < 2 or 1 < 2 or 2 > 3; join"), -9);
            due("fault 2", rules(x, "load 6; load 1000;"), -8);
            due("fault 3", rules(x, "load 6; load (((((((1)))))));"), -7);
            due("the clauses stay", x.count(1), 2);
            due("the load stays", x.hears(0, 0, 4), 5);
            x.paint(64, 127, 1);
            x.configure(0);
            due("the join stays", x.pairs(0, 0), -1);
            due("none", rules(x, ""), 0);
            due("no load", x.hears(0, 0, 4), 0);
            due("no join", x.pairs(0, 0), 1);
            due("no clauses", x.count(1), 0);
            nothingIsLeft();
        });
        says("The first n bytes of the TAPE (empty then) are the RULES", () -> {
            SkyCuts x = new SkyCuts();
            feed(x, "load 5; load 6; load 7;");
            due("the first 7", x.rules(7), 1);
            due("the tape", x.count(9), 0);
            due("the load", x.hears(0, 0, 4), 5);
            feed(x, "load 5; load 6; load 7;");
            due("the first 15", x.rules(15), 2);
            due("the load", x.hears(0, 0, 4), 6);
            feed(x, "load 5; load 6; load 7;");
            due("the first none", x.rules(0), 0);
            due("the tape", x.count(9), 0);
            due("the load", x.hears(0, 0, 4), 0);
            feed(x, "load 5; load 6; load 7;");
            due("a word cut off", x.rules(10), -9);
            due("its place", x.fault(), 8);
            due("the tape", x.count(9), 0);
        });
        says("IllegalArgumentException: n is not 0 to the TAPE's bytes (it stays).", () -> {
            SkyCuts x = new SkyCuts();
            illegal("1 of none", () -> x.rules(1));
            due("0 of none", x.rules(0), 0);
            feed(x, "load 5;");
            for (int n : new int[] {-1, 21, 200, 201, LEAST, GREATEST}) {
                illegal(n + " of 20", () -> x.rules(n));
                due("the tape stays", x.count(9), 20);
            }
            due("the first 7", x.rules(7), 1);
            due("the tape", x.count(9), 0);
            feed(x, "load 6;" + " ".repeat(193));
            illegal("201 of 200", () -> x.rules(201));
            due("the load stays", x.hears(0, 0, 4), 5);
            due("200 of 200", x.rules(200), 1);
            due("the load", x.hears(0, 0, 4), 6);
            feed(x, "load 77;");
            due("the first 6 alone", x.rules(6), -9);
            due("its place", x.fault(), 6);
            // A word ends with the text, whatever stands behind it on the tape.
            feed(x, "load ways;");
            due("the first 8 alone", x.rules(8), -9);
            due("its place", x.fault(), 5);
            feed(x, "load 1; join 1 < 2 and 1 < 2;");
            due("the first 21 alone", x.rules(21), -9);
            due("its place", x.fault(), 19);
            feed(x, " ".repeat(191) + "load ways");
            due("a word at the tape's end", x.rules(200), -9);
            due("its place", x.fault(), 200);
            feed(x, " ".repeat(193) + "load 12");
            due("a number at the tape's end", x.rules(200), -9);
            due("its place", x.fault(), 200);
        });
    }

    /** Of rules that were, and of a text with a fault, nothing is left in those that come behind them. */
    private static void nothingIsLeft() {
        SkyCuts x = new SkyCuts();
        x.paint(64, 127, 1);
        x.configure(0);
        rules(x, "join 2 < 1; join 2 < 1;");
        rules(x, "load 0; join 1 < 2;");
        due("a load of 0 is no join", x.pairs(0, 0), 1);
        rules(x, "load 0;");
        due("a load of 0 is no join", x.pairs(0, 0), 1);
        rules(x, "load ((((((?");
        due("none is open still", rules(x, "load ((((((5))))));"), 1);
        rules(x, "join not [not [not [?");
        due("none is open still", rules(x, "join not not not not not not 2 < 1;"), 1);
        due("the join", x.pairs(0, 0), -1);
        rules(x, "join not 1 < 2;");
        rules(x, "");
        rules(x, "load 1 + 2;");
        due("no not behind it", x.hears(0, 0, 4), 3);
        rules(x, "load 1;".repeat(8) + "load 1;");
        due("eight may come again", rules(x, "load 1;".repeat(8)), 8);
    }

    private static void values() {
        says("whole numbers of 32 bits that wrap", () -> {
            worked("999*999*999", 997002999);
            worked("999*999*999*3", (int) 2991008997L);
            worked("999*999*999+999*999*999+999*999*999", (int) 2991008997L);
            worked("0-999*999*999-999*999*999-999*999*999", (int) -2991008997L);
            worked("512*512*512*16", LEAST);
            worked("512*512*512*16-1", GREATEST);
            worked("0-512*512*512*16", LEAST);
            worked("512*512*512*32", 0);
            worked("(512*512*512*16)/(0-1)", LEAST);
            worked("least(512*512*512*16,0)", LEAST);
            worked("most(512*512*512*16,0)", 0);
            worked("least(512*512*512*16-1,0)", 0);
            joined("512*512*512*16<0", true);
            joined("512*512*512*16-1>0", true);
            joined("512*512*512*32=0", true);
        });
        says("/ cuts, by 0 it is 0", () -> {
            worked("7/2", 3);
            worked("(0-7)/2", -3);
            worked("7/(0-2)", -3);
            worked("(0-7)/(0-2)", 3);
            worked("1/2", 0);
            worked("(0-1)/2", 0);
            worked("7/0", 0);
            worked("0/0", 0);
            worked("(0-7)/0", 0);
            worked("7/(3-3)+5", 5);
            worked("7/0*5", 0);
            worked("8/ways", 0);
            worked("100/7/2", 7);
            worked("9/2*2", 8);
            worked("2*9/4", 4);
        });
        says("or, and: both sides are worked.", () -> {
            joined("1<2 or 1/0=1", true);
            joined("1/0=1 or 1<2", true);
            joined("2<1 and 1/0=0", false);
            joined("2<1 or 1<2 and 1<2", true);
            joined("1<2 or 1<2 and 2<1", true);
            joined("2<1 and 1<2 or 1<2", true);
            joined("2<1 and [1<2 or 1<2]", false);
        });
        says("LOAD of a set in a QUARTER: the VALUE of load; without: ways + 2 cross + over.", () -> {
            SkyCuts x = new SkyCuts();
            stream(x, "0rc", 5);
            stream(x, "1d", 3);
            x.paint(64, 127, 1);
            all(x, 0, 8, 3, 5, 0, 8 + 6 + 5);
            rules(x, "join 1 < 2;");
            due("a join is no load", x.hears(0, 0, 4), 19);
            rules(x, "load ways * 100 + cross * 10 + over - climb;");
            due("by the rules", x.hears(0, 0, 4), 835);
            rules(x, "");
            due("without again", x.hears(0, 0, 4), 19);
        });
    }

    private static void limits() {
        says("LIMIT of a PIECE: 0 to 9,999 (40 at first).", () -> {
            SkyCuts x = new SkyCuts();
            for (int piece = 0; piece < 8; piece++) {
                due("at first", x.limit(piece, 9999), 40);
                due("then", x.limit(piece, 0), 9999);
                due("then", x.limit(piece, piece), 0);
            }
            for (int v : new int[] {-1, 10000, LEAST, GREATEST}) {
                illegal("limit " + v, () -> x.limit(3, v));
            }
            for (int piece = 0; piece < 8; piece++) {
                due("it stays", x.limit(piece, piece), piece);
            }
        });
        says("FULL is a PIECE with CELLS in a QUARTER with LOAD above LIMIT.", () -> {
            SkyCuts x = new SkyCuts();
            rules(x, "load 40;");
            due("as much", x.holds(), true);
            rules(x, "load 41;");
            due("more", x.holds(), false);
            x.limit(0, 41);
            due("one without cells is not full", x.holds(), true);
            x.limit(0, 40);
            x.paint(0, 63, -1);
            x.paint(64, 127, -1);
            due("without any cells", x.holds(), true);
            x.assign(5, 7);
            due("with a cell of another one", x.holds(), false);
            x.limit(7, 41);
            due("with its limit", x.holds(), true);
            SkyCuts y = new SkyCuts();
            stream(y, "0");
            for (int q = 0; q < 24; q++) {
                y.flow(0, q, q, 41);
                due("in quarter " + q, y.holds(), false);
                y.flow(0, q, q, 40);
                due("in quarter " + q, y.holds(), true);
                due("mends in quarter " + q, y.mends(q, 0, 0, -1), 0);
            }
        });
        says("PEAK: the greatest LOAD of all QUARTERS.", () -> {
            for (int q = 0; q < 24; q++) {
                SkyCuts x = new SkyCuts();
                stream(x, "0");
                x.flow(0, q, q, 3);
                due("in quarter " + q, x.peak(0, 0), 3);
                due("in quarter " + q, x.peak(0, 1), q);
                rules(x, "load 0 - ways;");
                due("the greatest is 0", x.peak(0, 0), 0);
                due("its quarter", x.peak(0, 1), q == 0 ? 1 : 0);
                x.flow(0, 0, 23, 7);
                x.flow(0, q, q, 3);
                due("below 0", x.peak(0, 0), -3);
                due("its quarter", x.peak(0, 1), q);
            }
        });
        says("PEAK of a PIECE (what 0), or the first QUARTER with it (1).", () -> {
            SkyCuts x = new SkyCuts();
            stream(x, "0");
            due("at first", x.peak(0, 1), 0);
            due("without cells", x.peak(7, 1), 0);
            x.flow(0, 4, 9, 3);
            due("the first", x.peak(0, 1), 4);
            x.flow(0, 7, 9, 5);
            due("the first of the greatest", x.peak(0, 1), 7);
            x.flow(0, 23, 23, 6);
            due("the last quarter", x.peak(0, 1), 23);
            rules(x, "load 999*999*999*3;");
            due("a wrapped one", x.peak(0, 0), (int) 2991008997L);
            due("its quarter", x.peak(0, 1), 0);
            for (int what : new int[] {-1, 2, LEAST, GREATEST}) {
                illegal("what " + what, () -> x.peak(0, what));
            }
        });
    }

    public static void main(String[] args) {
        pieces();
        painting();
        hearing();
        texts();
        grammar();
        faults();
        values();
        limits();
        close("EdgesHearTest");
    }
}
