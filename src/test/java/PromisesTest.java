import java.util.NoSuchElementException;

/** For each promise of the document, by its number: ordinary inputs, the edges it names, and wrong inputs. */
public final class PromisesTest {
    private static int wrong = 0;
    private static int seen = 0;
    private static int promise = 0;

    interface Call {
        void make();
    }

    private static void due(String call, long got, long want) {
        seen++;
        if (got != want) {
            wrong++;
            System.out.println("promise " + promise + ": " + call + " answered " + got + ", due is " + want);
        }
    }

    private static void due(String call, boolean got, boolean want) {
        due(call, got ? 1 : 0, want ? 1 : 0);
    }

    private static void refused(String call, Class<?> with, Call it) {
        seen++;
        Class<?> got = null;
        try {
            it.make();
        } catch (RuntimeException e) {
            got = e.getClass();
        }
        if (got != with) {
            wrong++;
            System.out.println("promise " + promise + ": " + call + " threw " + got + ", due is " + with);
        }
    }

    private static void illegal(String call, Call it) {
        refused(call, IllegalArgumentException.class, it);
    }

    private static void noCell(String call, Call it) {
        refused(call, IndexOutOfBoundsException.class, it);
    }

    private static void noElement(String call, Call it) {
        refused(call, NoSuchElementException.class, it);
    }

    private static void feedText(SkyCuts x, String text) {
        for (int i = 0; i < text.length(); i += 20) {
            int[] v = new int[5];
            for (int j = 0; j < 20; j++) {
                v[j / 4] = v[j / 4] << 8 | (i + j < text.length() ? text.charAt(i + j) : 0);
            }
            x.feed(v[0], v[1], v[2], v[3], v[4]);
        }
    }

    private static int stream(SkyCuts x, String text) {
        feedText(x, text);
        return x.stream(text.length());
    }

    private static int rules(SkyCuts x, String text) {
        feedText(x, text);
        return x.rules(text.length());
    }

    private static void fine(String text, int cells) {
        SkyCuts x = new SkyCuts();
        due("stream \"" + text + "\"", stream(x, text), 0);
        due("fault of \"" + text + "\"", x.fault(), -1);
        due("the last cell of \"" + text + "\"", x.way(0, cells - 1) >= 0 && x.way(0, cells) == -1, true);
    }

    private static void faulty(String text, int kind, int place) {
        SkyCuts x = new SkyCuts();
        due("stream \"" + text + "\"", stream(x, text), kind - 10);
        due("fault of \"" + text + "\"", x.fault(), place);
        due("streams after \"" + text + "\"", x.count(0), 0);
    }

    private static void fineRules(String text, int clauses) {
        SkyCuts x = new SkyCuts();
        due("rules \"" + text + "\"", rules(x, text), clauses);
        due("fault of \"" + text + "\"", x.fault(), -1);
        due("clauses of \"" + text + "\"", x.count(1), clauses);
    }

    private static void faultyRules(String text, int kind, int place) {
        SkyCuts x = new SkyCuts();
        rules(x, "load 7; join 1 < 2;");
        due("rules \"" + text + "\"", rules(x, text), kind - 10);
        due("fault of \"" + text + "\"", x.fault(), place);
        due("clauses after \"" + text + "\"", x.count(1), 2);
        due("load after \"" + text + "\"", x.hears(0, 0, 4), 7);
    }

    /** Piece 0 with streams: "0r3" of 5, "2d2" of 3, "3c" of 2, all in quarter 0. */
    private static SkyCuts three() {
        SkyCuts x = new SkyCuts();
        stream(x, "0r3");
        stream(x, "2d2");
        stream(x, "3c");
        x.flow(0, 0, 0, 5);
        x.flow(1, 0, 0, 3);
        x.flow(2, 0, 0, 2);
        return x;
    }

    private static int loadBy(String text) {
        SkyCuts x = three();
        x.paint(64, 127, 1);
        rules(x, text);
        return x.hears(0, 0, 4);
    }

    private static void newObject() {
        SkyCuts x = new SkyCuts();
        for (int what = 0; what <= 9; what++) {
            due("count " + what, x.count(what), what == 2 ? 1 : 0);
        }
        for (int c = 0; c < 128; c++) {
            due("assign " + c, x.assign(c, 0), 0);
        }
        due("fault", x.fault(), -1);
        due("cost", x.cost(), 0);
        due("holds", x.holds(), true);
        due("NONE", SkyCuts.NONE, -1);
        noElement("way", () -> x.way(0, 0));
        noElement("pairs", () -> x.pairs(0, 0));
    }

    private static void feed() {
        SkyCuts x = new SkyCuts();
        for (int i = 1; i <= 10; i++) {
            due("feed", x.feed(0x33723363, 0x20202020, 0x20202020, 0x20202020, 0x20202020), 20 * i);
        }
        due("feed", x.feed(1, 2, 3, 4, 5), -1);
        due("count", x.count(9), 200);
        due("stream", x.stream(20), 0);
        due("way", x.way(0, 4), 70);
        due("feed", x.feed(0xFF808182, 0, 0, 0, 0), 20);
        due("stream", x.stream(1), -9);
        // The fourth of the numbers begins with the twelfth byte.
        due("feed", x.feed(0x20202020, 0x20202020, 0x20202020, 0x35202020, 0x78202020), 20);
        due("stream", x.stream(20), -9);
        due("fault", x.fault(), 16);
    }

    private static void stream() {
        fine("0r3", 4);
        fine("127", 1);
        fine("  0012 r 2  d2 l u c  ", 8);
        fine("0r7dl7dr7", 24);
        fine("0crsdcr", 7);
        fine("5" + " ".repeat(99), 1);
        faulty("", 1, 0);
        faulty("   ", 1, 3);
        faulty("x", 1, 0);
        faulty("r", 1, 0);
        faulty("-1", 1, 0);
        faulty("0x", 1, 1);
        faulty("0 3", 1, 2);
        faulty("0c3", 1, 2);
        faulty("0cs3", 4, 2);
        faulty("0rR", 1, 2);
        faulty("0r3 4", 1, 4);
        faulty("0\tr", 1, 1);
        faulty("128", 2, 0);
        faulty("  99999999999999999999", 2, 2);
        faulty("  4294967296", 2, 2);
        faulty("0r0", 2, 2);
        faulty("0r8", 2, 2);
        faulty("0r 12", 2, 3);
        faulty("0d4294967297", 2, 2);
        faulty("7r9", 2, 2);
        faulty("7r", 3, 1);
        faulty("5r3", 3, 1);
        faulty("0l", 3, 1);
        faulty("0u", 3, 1);
        faulty("56d", 3, 2);
        faulty("0s", 3, 1);
        faulty("64c", 3, 2);
        faulty("7r?", 3, 1);
        faulty("0rl", 4, 2);
        faulty("0r3 l2", 4, 4);
        faulty("0cs", 4, 2);
        faulty("0r7dl7dr7d", 4, 9);
        faulty("0r7dl7dr6d2", 4, 9);
        faulty("0r7dl7dr7r", 3, 9);
        faulty("0r7dl7dr7r?", 3, 9);
        faulty("0rl?", 4, 2);
        SkyCuts x = new SkyCuts();
        for (int i = 0; i < 12; i++) {
            due("stream " + i, stream(x, "" + i), i);
        }
        due("the 13th", stream(x, "0"), -1);
        due("count", x.count(0), 12);
        due("the tape", x.count(9), 0);
        due("fault", x.fault(), -1);
        feedText(x, "0r3");
        illegal("stream -1", () -> x.stream(-1));
        illegal("stream 21", () -> x.stream(21));
        due("the tape", x.count(9), 20);
        feedText(x, " ".repeat(100));
        illegal("stream 101", () -> x.stream(101));
        due("the tape", x.count(9), 120);
        due("stream 100", x.stream(100), -9);
        due("the tape", x.count(9), 0);
        illegal("stream 1", () -> x.stream(1));
        SkyCuts y = new SkyCuts();
        feedText(y, "0r34");
        due("a number cut by n", y.stream(3), 0);
        due("its last cell", y.way(0, 3), 3);
        feedText(y, "12");
        due("a number cut by n", y.stream(1), 1);
        due("its cell", y.way(1, 0), 1);
    }

    private static void rules() {
        fineRules("", 0);
        fineRules("   ", 0);
        fineRules("load ways;", 1);
        fineRules(" load ways * 2 + cross / 3 - over ; join pieces < 3 and not cells > 9 or [ low = 1 ] ; ", 2);
        fineRules("load1;load 2;load3;load 4;join 1<2;join1<2;load least(1,2);load most ( 1 , 999 );", 8);
        fineRules("load ((((((1))))));", 1);
        fineRules("join not not not [[[1<2]]];", 1);
        fineRules("join [[[(((1)))<2]]];", 1);
        fineRules("join not 1 < 2 or not 1 < 2 or not 1<2 or not 1<2 or not 1<2 or not 1<2 or not 1 < 2;", 1);
        fineRules("load 0000000000000000000000999;", 1);
        fineRules("load 1;" + " ".repeat(193), 1);
        faultyRules("x", 1, 0);
        faultyRules("load", 1, 4);
        faultyRules("load 1", 1, 6);
        faultyRules("load 1 ", 1, 7);
        faultyRules("loadways;", 1, 0);
        faultyRules("Load ways;", 1, 0);
        faultyRules("load ways", 1, 9);
        faultyRules("load ways 1;", 1, 10);
        faultyRules("load wayss;", 1, 5);
        faultyRules("load waysz;", 1, 5);
        faultyRules("load xays;", 1, 5);
        faultyRules("load way;", 1, 5);
        faultyRules("load not 1 < 2;", 1, 5);
        faultyRules("load [1];", 1, 5);
        faultyRules("load 1 < 2;", 1, 7);
        faultyRules("load (1;", 1, 7);
        faultyRules("load ();", 1, 6);
        faultyRules("load least 1;", 1, 11);
        faultyRules("load least(1;", 1, 12);
        faultyRules("load least(1,2;", 1, 14);
        faultyRules("load 1+;", 1, 7);
        faultyRules("load -1;", 1, 5);
        faultyRules("load 1;;", 1, 7);
        faultyRules("join 1;", 1, 6);
        faultyRules("join (1<2);", 1, 7);
        faultyRules("join 1<2<3;", 1, 8);
        faultyRules("join [1<2;", 1, 9);
        faultyRules("join 1<2 and;", 1, 12);
        faultyRules("join 1<2 or or 1<2;", 1, 12);
        faultyRules("load 1000;", 2, 5);
        faultyRules("load 4294967296;", 2, 5);
        faultyRules("load 1;load 1;load 1;load 1;load 1;load 1;load 1;load 1; load 1;", 3, 57);
        faultyRules("load 1;load 1;load 1;load 1;load 1;load 1;load 1;load 1; 1", 1, 57);
        faultyRules("load (((((((1)))))));", 3, 11);
        faultyRules("join not not not not not not not 1<2;", 3, 29);
        faultyRules("join [[[not(least(1)", 1, 19);
        faultyRules("join [[[not(least((1,2)", 3, 18);
        faultyRules("join [[[not ( least ( ( 1,2) ", 3, 22);
        faultyRules("join [[[[[[[1<2]]]]]]];", 3, 11);
        rulesOnTape();
        rulesByValue();
        joins();
    }

    private static void rulesOnTape() {
        SkyCuts x = new SkyCuts();
        feedText(x, "load 5;");
        illegal("rules -1", () -> x.rules(-1));
        illegal("rules 21", () -> x.rules(21));
        due("the tape", x.count(9), 20);
        due("rules", x.rules(7), 1);
        due("the tape", x.count(9), 0);
        due("load", x.hears(0, 0, 4), 5);
        feedText(x, "load ways;");
        due("a word cut by n", x.rules(8), -9);
        feedText(x, "load 12;");
        due("a number cut by n", x.rules(6), -9);
        due("its place", x.fault(), 6);
        due("rules", x.rules(0), 0);
        due("load", x.hears(0, 0, 4), 0);
    }

    private static void rulesByValue() {
        due("without", loadBy(""), 22);
        due("ways", loadBy("load ways;"), 10);
        due("cross", loadBy("load cross;"), 5);
        due("over", loadBy("load over;"), 2);
        due("climb", loadBy("load climb;"), 0);
        due("cells", loadBy("load cells;"), 64);
        due("low", loadBy("load low;"), 64);
        due("pieces", loadBy("load pieces;"), 1);
        due("the last load", loadBy("load 1; load 2; join 1 > 2;"), 2);
        due("joins alone", loadBy("join 1 > 2;"), 22);
        due("2 - 3 - 4", loadBy("load 2 - 3 - 4;"), -5);
        due("2 + 3 * 4", loadBy("load 2 + 3 * 4;"), 14);
        due("(2 + 3) * 4", loadBy("load (2 + 3) * 4;"), 20);
        due("100 / 7 / 2", loadBy("load 100 / 7 / 2;"), 7);
        due("(0 - 7) / 2", loadBy("load (0 - 7) / 2;"), -3);
        due("7 / 0", loadBy("load 7 / 0;"), 0);
        due("7 / (cells - 64) + 1", loadBy("load 7 / (cells - 64) + 1;"), 1);
        due("least", loadBy("load least(3, 0 - 2);"), -2);
        due("most", loadBy("load most(3, least(9, 8));"), 8);
        due("wraps", loadBy("load 999 * 999 * 999 * 999;"), 999 * 999 * 999 * 999);
        due("least by minus one", loadBy("load (0 - 512 * 512 * 512 * 16) / (0 - 1);"), Integer.MIN_VALUE);
    }

    private static void joinsBy(String test, boolean want) {
        SkyCuts x = twoPairs();
        x.configure(0);
        rules(x, "join " + test + ";");
        due("join " + test, x.pairs(1, 0), want ? 1 : -1);
    }

    private static void joins() {
        joinsBy("1 < 2", true);
        joinsBy("1 < 1", false);
        joinsBy("2 < 1", false);
        joinsBy("2 > 1", true);
        joinsBy("1 > 1", false);
        joinsBy("1 > 2", false);
        joinsBy("1 = 1", true);
        joinsBy("1 = 2", false);
        joinsBy("2 = 1", false);
        joinsBy("not 1 = 2", true);
        joinsBy("not 1 = 1", false);
        joinsBy("not not 1 = 1", true);
        joinsBy("1 = 1 and 1 = 1", true);
        joinsBy("1 = 1 and 1 = 2", false);
        joinsBy("1 = 2 and 1 = 1", false);
        joinsBy("1 = 1 or 1 = 2", true);
        joinsBy("1 = 2 or 1 = 1", true);
        joinsBy("1 = 2 or 1 = 2", false);
        joinsBy("1 = 1 or 1 = 1 and 1 = 2", true);
        joinsBy("[1 = 1 or 1 = 1] and 1 = 2", false);
        joinsBy("not 1 = 1 or 1 = 1", true);
        joinsBy("not [1 = 1 or 1 = 1]", false);
        joinsBy("1 = 2 and 1 = 2 or not 1 + 1 * 2 < 3 and 7 / 2 = 3", true);
        faultyRules("join 1 < 2 or;", 1, 13);
        faultyRules("join 1 < 2 and 3;", 1, 16);
        faultyRules("join not;", 1, 8);
        faultyRules("join [];", 1, 6);
        faultyRules("join 1 <;", 1, 8);
        faultyRules("load 2 *;", 1, 8);
        faultyRules("load 2 * 1000;", 2, 9);
        faultyRules("load least(1,);", 1, 13);
    }

    private static void fault() {
        SkyCuts x = new SkyCuts();
        due("at first", x.fault(), -1);
        stream(x, "0r3?");
        due("of a stream", x.fault(), 3);
        illegal("stream -1", () -> x.stream(-1));
        due("after a refused call", x.fault(), 3);
        rules(x, "load 1");
        due("of rules", x.fault(), 6);
        stream(x, "0");
        due("after a stream", x.fault(), -1);
        stream(x, "?");
        rules(x, "load 1;");
        due("after rules", x.fault(), -1);
    }

    private static void way() {
        SkyCuts x = new SkyCuts();
        stream(x, "127u2");
        due("the first of stream 0", x.way(0, 0), 127);
        due("the last of stream 0", x.way(0, 2), 111);
        stream(x, "0 r2 d c l s");
        int[] cells = {0, 1, 2, 10, 74, 73, 9, -1};
        int s = x.count(0) - 1;
        for (int k = 0; k < cells.length; k++) {
            due("way " + k, x.way(s, k), cells[k]);
        }
        due("way -1", x.way(s, -1), -1);
        due("way of a great k", x.way(s, Integer.MAX_VALUE), -1);
        due("way of a least k", x.way(s, Integer.MIN_VALUE), -1);
        noElement("way of no stream", () -> x.way(s + 1, 0));
        noElement("way of stream -1", () -> x.way(-1, 0));
    }

    private static void flow() {
        SkyCuts x = new SkyCuts();
        stream(x, "0");
        stream(x, "1");
        x.flow(0, 3, 5, 50);
        x.flow(0, 4, 4, 0);
        x.flow(1, 0, 23, 1);
        int[] want = {0, 0, 0, 50, 0, 50, 0};
        for (int q = 0; q < want.length; q++) {
            due("most 0 " + q, x.most(0, q), want[q]);
        }
        due("most 1 0", x.most(1, 0), 1);
        due("most 1 23", x.most(1, 23), 1);
        illegal("flow from -1", () -> x.flow(0, -1, 3, 5));
        illegal("flow from 24", () -> x.flow(0, 24, 24, 5));
        illegal("flow to 24", () -> x.flow(0, 3, 24, 5));
        illegal("flow 5 to 4", () -> x.flow(0, 5, 4, 5));
        illegal("flow of -1", () -> x.flow(0, 3, 4, -1));
        illegal("flow of 51", () -> x.flow(0, 3, 4, 51));
        noElement("flow of no stream", () -> x.flow(2, 5, 4, 51));
        due("most is as it was", x.most(0, 3), 50);
    }

    private static void span() {
        SkyCuts x = new SkyCuts();
        stream(x, "0");
        x.flow(0, 10, 10, 7);
        x.span(0, 1, 2);
        for (int q = 0; q < 24; q++) {
            due("most " + q, x.most(0, q), q >= 9 && q <= 12 ? 7 : 0);
        }
        x.span(0, 2, 0);
        for (int q = 0; q < 24; q++) {
            due("most " + q, x.most(0, q), q >= 8 && q <= 10 ? 7 : 0);
        }
        illegal("early -1", () -> x.span(0, -1, 0));
        illegal("early 3", () -> x.span(0, 3, 0));
        illegal("late -1", () -> x.span(0, 0, -1));
        illegal("late 3", () -> x.span(0, 0, 3));
        noElement("no stream", () -> x.span(1, 3, 3));
        noElement("stream -1", () -> x.span(-1, 0, 0));
    }

    private static void most() {
        SkyCuts x = new SkyCuts();
        stream(x, "0");
        x.flow(0, 0, 0, 4);
        x.flow(0, 1, 1, 9);
        x.flow(0, 23, 23, 6);
        x.span(0, 2, 2);
        due("most 0", x.most(0, 0), 9);
        due("most 3", x.most(0, 3), 9);
        due("most 4", x.most(0, 4), 0);
        due("most 21", x.most(0, 21), 6);
        due("most 23", x.most(0, 23), 6);
        x.flow(0, 1, 1, 0);
        due("most 2", x.most(0, 2), 4);
        illegal("quarter -1", () -> x.most(0, -1));
        illegal("quarter 24", () -> x.most(0, 24));
        noElement("no stream", () -> x.most(1, 24));
    }

    private static void assign() {
        SkyCuts x = new SkyCuts();
        due("assign", x.assign(127, 7), 0);
        due("assign", x.assign(127, -1), 7);
        due("assign", x.assign(127, -1), -1);
        due("shut", x.count(3), 1);
        due("assign", x.assign(127, 2), -1);
        due("pieces", x.count(2), 2);
        noCell("cell -1", () -> x.assign(-1, 9));
        noCell("cell 128", () -> x.assign(128, 0));
        illegal("piece 8", () -> x.assign(0, 8));
        illegal("piece -2", () -> x.assign(0, -2));
        due("assign", x.assign(0, 0), 0);
    }

    private static void paint() {
        SkyCuts x = new SkyCuts();
        due("paint", x.paint(9, 27, 1), 9);
        due("paint", x.paint(18, 18, 2), 1);
        due("paint", x.paint(9, 27, 1), 1);
        due("paint", x.paint(0, 63, -1), 64);
        due("paint", x.paint(64, 127, 0), 0);
        due("shut", x.count(3), 64);
        due("paint", x.paint(79, 79, 3), 1);
        due("assign", x.assign(79, 3), 3);
        due("assign", x.assign(78, 0), 0);
        due("paint of a corner", x.paint(91, 125, 5), 15);
        due("assign", x.assign(126, 5), 0);
        due("assign", x.assign(125, 5), 5);
        due("assign", x.assign(96, 0), 0);
        noCell("from -1", () -> x.paint(-1, 0, 9));
        noCell("to 128", () -> x.paint(0, 128, 9));
        illegal("piece 8", () -> x.paint(0, 0, 8));
        illegal("piece -2", () -> x.paint(0, 0, -2));
        illegal("two layers", () -> x.paint(0, 64, 0));
        illegal("x above", () -> x.paint(1, 8, 0));
        illegal("y above", () -> x.paint(8, 1, 0));
    }

    private static void limit() {
        SkyCuts x = three();
        due("limit", x.limit(0, 19), 40);
        due("holds", x.holds(), false);
        due("limit", x.limit(0, 20), 19);
        due("holds", x.holds(), true);
        due("limit", x.limit(7, 9999), 40);
        due("limit", x.limit(7, 0), 9999);
        illegal("piece -1", () -> x.limit(-1, 0));
        illegal("piece 8", () -> x.limit(8, 0));
        illegal("v -1", () -> x.limit(0, -1));
        illegal("v 10000", () -> x.limit(0, 10000));
        due("limit", x.limit(7, 0), 0);
    }

    private static void hearsAll(SkyCuts x, int piece, int quarter, int... want) {
        for (int what = 0; what < 5; what++) {
            due("hears " + piece + " " + quarter + " " + what, x.hears(piece, quarter, what), want[what]);
        }
    }

    private static void hears() {
        SkyCuts x = three();
        hearsAll(x, 0, 0, 10, 5, 0, 2, 20);
        hearsAll(x, 0, 1, 0, 0, 0, 0, 0);
        hearsAll(x, 1, 0, 0, 0, 0, 0, 0);
        x.paint(64, 127, 1);
        hearsAll(x, 0, 0, 10, 5, 2, 0, 22);
        hearsAll(x, 1, 0, 2, 0, 2, 0, 4);
        x.assign(1, -1);
        hearsAll(x, 0, 0, 10, 5, 12, 0, 32);
        // One cell alone goes unlike all others, but like another one alone.
        stream(x, "10");
        stream(x, "10");
        x.flow(3, 0, 0, 2);
        x.flow(4, 0, 0, 50);
        due("cross", x.hears(0, 0, 1), 5 + 2 + 3);
        illegal("piece -1", () -> x.hears(-1, 0, 0));
        illegal("piece 8", () -> x.hears(8, 0, 0));
        illegal("quarter -1", () -> x.hears(0, -1, 0));
        illegal("quarter 24", () -> x.hears(0, 24, 0));
        illegal("what -1", () -> x.hears(0, 0, -1));
        illegal("what 5", () -> x.hears(0, 0, 5));
        hearsTheLastCell();
        hearsByGo();
    }

    /** Two streams by one cell, each in one of four goes, in both layers; and its cell as a piece of its own. */
    private static void hearsByGo() {
        String[][] ways = {{"26r2", "28l2", "19d2", "35u2"}, {"90r2", "92l2", "83d2", "99u2"}};
        for (int z = 0; z < 2; z++) {
            for (int a = 0; a < 4; a++) {
                for (int b = 0; b < 4; b++) {
                    SkyCuts x = new SkyCuts();
                    stream(x, ways[z][a]);
                    stream(x, ways[z][b]);
                    x.flow(0, 0, 0, 1);
                    x.flow(1, 0, 0, 1);
                    int like = a == b ? 0 : 1;
                    String name = ways[z][a] + " and " + ways[z][b];
                    hearsAll(x, 0, 0, 2, a / 2 == b / 2 ? 3 * like : 1, 0, 0, 2 + (a / 2 == b / 2 ? 6 * like : 2));
                    due(name + " at edge", x.edge(0), 0);
                    x.assign(27 + 64 * z, 1);
                    hearsAll(x, 1, 0, 2, like, 4, 0, 6 + 2 * like);
                    due(name + ", over", x.hears(0, 0, 2), 4);
                    due(name + " at edge", x.edge(1), like);
                    due(name + " short", x.shorts(1), 0);
                    x.length(2);
                    due(name + " short", x.shorts(1), 3);
                    x.length(1);
                    due(name + " short", x.shorts(1), 0);
                }
            }
        }
        SkyCuts y = new SkyCuts();
        String[] climbs = {"27c", "91s", "26r2", "90r2"};
        for (int s = 0; s < 4; s++) {
            stream(y, climbs[s]);
        }
        y.flow(0, 0, 1, 1);
        y.flow(1, 0, 0, 1);
        y.flow(2, 1, 1, 1);
        y.flow(3, 1, 1, 1);
        hearsAll(y, 0, 0, 2, 2, 0, 2, 6);
        hearsAll(y, 0, 1, 3, 2, 0, 1, 7);
        y.assign(91, 1);
        hearsAll(y, 0, 0, 2, 1, 2, 0, 6);
        hearsAll(y, 1, 0, 2, 1, 2, 0, 6);
        hearsAll(y, 1, 1, 2, 1, 3, 0, 7);
    }

    /** In its last cell a stream goes as it came. */
    private static void hearsTheLastCell() {
        SkyCuts x = new SkyCuts();
        stream(x, "0r");
        stream(x, "1r");
        stream(x, "2l");
        x.flow(0, 0, 23, 1);
        x.flow(1, 0, 23, 1);
        due("cross of like", x.hears(0, 0, 1), 0);
        x.flow(2, 0, 23, 1);
        due("cross of all", x.hears(0, 0, 1), 3);
    }

    private static void peak() {
        SkyCuts x = new SkyCuts();
        stream(x, "0r3");
        due("peak", x.peak(0, 0), 0);
        due("peak", x.peak(0, 1), 0);
        x.flow(0, 5, 7, 4);
        x.flow(0, 6, 6, 9);
        x.flow(0, 20, 20, 9);
        due("peak", x.peak(0, 0), 9);
        due("peak", x.peak(0, 1), 6);
        due("peak of none", x.peak(3, 0), 0);
        rules(x, "load 0 - ways - 1;");
        due("peak below 0", x.peak(0, 0), -1);
        due("its quarter", x.peak(0, 1), 0);
        x.flow(0, 0, 5, 1);
        due("its quarter", x.peak(0, 1), 8);
        illegal("piece 8", () -> x.peak(8, 0));
        illegal("piece -1", () -> x.peak(-1, 0));
        illegal("what 2", () -> x.peak(0, 2));
        illegal("what -1", () -> x.peak(0, -1));
    }

    private static void whole() {
        SkyCuts x = new SkyCuts();
        due("all", x.whole(0), true);
        due("none", x.whole(1), true);
        x.assign(7, 1);
        x.assign(8, 1);
        due("x 7 and the next row", x.whole(1), false);
        x.assign(8, 0);
        x.assign(71, 1);
        due("one above the other", x.whole(1), true);
        x.assign(70, 2);
        x.assign(63, 2);
        due("far apart", x.whole(2), false);
        x.paint(0, 63, -1);
        x.paint(64, 127, -1);
        due("none left", x.whole(0), true);
        for (int c : new int[] {0, 1, 2, 3, 4, 5, 6, 7, 15, 23, 22, 21, 20, 19, 18, 17, 16, 24, 32, 33, 34, 98, 99, 100}) {
            x.assign(c, 3);
        }
        due("a long snake", x.whole(3), true);
        x.assign(98, -1);
        due("a snake cut", x.whole(3), false);
        illegal("piece -1", () -> x.whole(-1));
        illegal("piece 8", () -> x.whole(8));
    }

    private static void neck() {
        SkyCuts x = new SkyCuts();
        x.paint(0, 4, 1);
        int[] necks = {1, 2, 3, -1};
        for (int k = 0; k < 4; k++) {
            due("neck " + k, x.neck(1, k), necks[k]);
        }
        x.paint(64, 68, 1);
        due("neck of two rows", x.neck(1, 0), -1);
        x.paint(65, 67, 0);
        for (int k = 0; k < 4; k++) {
            due("neck " + k, x.neck(1, k), new int[] {0, 1, 2, 3}[k]);
        }
        due("neck 4", x.neck(1, 4), 4);
        due("neck 5", x.neck(1, 5), -1);
        x.assign(2, 0);
        due("neck of one that is not whole", x.neck(1, 0), -1);
        x.assign(127, 2);
        due("neck of one cell", x.neck(2, 0), -1);
        due("neck of none", x.neck(3, 0), -1);
        due("neck -1", x.neck(1, -1), -1);
        due("neck of a great k", x.neck(1, Integer.MAX_VALUE), -1);
        illegal("piece -1", () -> x.neck(-1, 0));
        illegal("piece 8", () -> x.neck(8, 0));
    }

    private static void shorts() {
        SkyCuts x = new SkyCuts();
        stream(x, "0r7");
        stream(x, "8r7");
        x.paint(2, 3, 1);
        due("shorts", x.shorts(1), 0);
        x.length(3);
        due("shorts of 1", x.shorts(1), 1);
        due("shorts of 0", x.shorts(0), 1);
        x.length(2);
        due("shorts of 1", x.shorts(1), 0);
        due("shorts of 0", x.shorts(0), 0);
        x.assign(14, 2);
        due("shorts of 0", x.shorts(0), 2);
        due("shorts of 2", x.shorts(2), 2);
        x.length(9);
        due("shorts of 0", x.shorts(0), 3);
        due("shorts of none", x.shorts(5), 0);
        illegal("piece -1", () -> x.shorts(-1));
        illegal("piece 8", () -> x.shorts(8));
    }

    private static void length() {
        SkyCuts x = new SkyCuts();
        due("length", x.length(9), 0);
        due("length", x.length(0), 9);
        illegal("length -1", () -> x.length(-1));
        illegal("length 10", () -> x.length(10));
        due("length", x.length(1), 0);
    }

    private static void edge() {
        SkyCuts x = new SkyCuts();
        stream(x, "0r3");
        stream(x, "2d2");
        due("edge", x.edge(0), 0);
        x.assign(3, 1);
        due("edge", x.edge(0), 1);
        due("edge of the other", x.edge(1), 0);
        x.assign(3, -1);
        due("edge by shut", x.edge(0), 1);
        x.assign(3, 0);
        x.assign(66, 4);
        due("edge by the layer above", x.edge(0), 1);
        x.assign(66, 0);
        x.assign(11, 4);
        due("not aslant", x.edge(0), 0);
        stream(x, "3l");
        stream(x, "8");
        stream(x, "8");
        x.assign(7, 5);
        due("no edge from row to row, nor of two alone", x.edge(0), 1);
        x.paint(0, 63, 2);
        due("edge by the whole layer", x.edge(2), 2);
        illegal("piece -1", () -> x.edge(-1));
        illegal("piece 8", () -> x.edge(8));
    }

    private static void holds() {
        SkyCuts x = three();
        due("holds", x.holds(), true);
        x.limit(0, 19);
        due("full", x.holds(), false);
        x.limit(0, 20);
        x.assign(0, 1);
        x.assign(63, 1);
        due("not whole", x.holds(), false);
        x.assign(63, 0);
        due("over makes it full", x.holds(), false);
        x.limit(0, 25);
        due("holds", x.holds(), true);
        rules(x, "load 41 - ways;");
        x.paint(0, 63, 0);
        x.limit(1, 0);
        due("full in a quarter without ways", x.holds(), false);
        x.limit(0, 41);
        due("one without cells is never full", x.holds(), true);
        rules(x, "load pieces * 41;");
        due("a piece is one", x.holds(), true);
        x.limit(0, 40);
        due("a piece is one", x.holds(), false);
    }

    private static void cost() {
        SkyCuts x = new SkyCuts();
        stream(x, "0r3");
        x.flow(0, 0, 0, 5);
        x.flow(0, 1, 1, 3);
        x.span(0, 2, 2);
        due("one piece", x.cost(), 0);
        x.assign(2, 1);
        // Two steps of 8; peaks 5 + 2 * 5 on both sides.
        due("two pieces", x.cost(), 16);
        x.assign(0, -1);
        due("a step to shut", x.cost(), 24 + 10 * 5);
        x.assign(1, -1);
        due("a step between shut ones", x.cost(), 24 + 10 * (15 - 10));
        x.paint(0, 63, -1);
        x.paint(64, 127, -1);
        due("all shut", x.cost(), 24);
        x.assign(3, 1);
        due("one peak", x.cost(), 24);
        rules(x, "load cells * 999 * 999 * 999;");
        x.assign(0, 2);
        x.assign(127, 2);
        int one = 999 * 999 * 999;
        due("wraps", x.cost(), 24 + 10 * (Math.max(one, 2 * one) - Math.min(one, 2 * one)));
    }

    /** Two pieces side by side in the low layer, a stream of one over their edge in all quarters, the rest shut. */
    private static SkyCuts halves() {
        SkyCuts x = new SkyCuts();
        x.paint(64, 127, -1);
        x.paint(4, 63, 1);
        stream(x, "3r");
        x.flow(0, 0, 23, 1);
        return x;
    }

    private static void better() {
        SkyCuts x = halves();
        due("cost", x.cost(), 24);
        due("the cell", x.better(0), 3);
        due("the piece", x.better(1), 1);
        due("the cost then", x.better(2), 10);
        x.limit(1, 0);
        x.limit(0, 0);
        due("the cell, if both would be full", x.better(0), -1);
        x.limit(0, 1);
        due("the cell, if the other would be full", x.better(0), 4);
        due("the piece", x.better(1), 0);
        SkyCuts y = new SkyCuts();
        y.paint(0, 63, -1);
        y.paint(64, 127, -1);
        y.assign(3, 0);
        y.assign(4, 1);
        stream(y, "3r");
        y.flow(0, 0, 23, 1);
        due("the old one must keep a cell", y.better(0), -1);
        y.assign(2, 0);
        y.assign(5, 1);
        due("it keeps one", y.better(0), 3);
        y.assign(0, 0);
        due("one that is not whole takes none and gives none", y.better(0), -1);
        y.assign(0, -1);
        y.assign(11, 0);
        due("the old one may not fall apart", y.better(0), 4);
        y.assign(12, 1);
        due("neither may fall apart", y.better(2), -1);
        SkyCuts w = new SkyCuts();
        w.paint(0, 63, -1);
        w.paint(64, 127, -1);
        w.paint(64, 71, 1);
        w.assign(127, 2);
        rules(w, "load cells;");
        due("no cell of another piece is beside", w.better(0), -1);
        w.assign(72, 2);
        w.assign(127, -1);
        w.assign(64, 3);
        w.assign(65, 3);
        // Peaks 6, 1 and 2: cell 64 to piece 2 would only turn the lesser two round.
        due("the cell", w.better(0), 66);
        due("the piece", w.better(1), 3);
        due("the cost", w.better(2), 10 * (5 - 1));
        SkyCuts v = new SkyCuts();
        v.paint(8, 63, 1);
        v.paint(64, 127, -1);
        v.paint(1, 7, -1);
        v.assign(2, 0);
        v.assign(1, 0);
        stream(v, "0d");
        v.flow(0, 0, 23, 1);
        due("cell 0", v.better(0), 0);
        due("to the other one", v.better(1), 1);
        SkyCuts z = new SkyCuts();
        due("one piece", z.better(0), -1);
        illegal("what -1", () -> z.better(-1));
        illegal("what 3", () -> z.better(3));
    }

    private static void grow() {
        SkyCuts x = halves();
        due("grow 0", x.grow(0), 0);
        due("cost", x.cost(), 24);
        due("grow", x.grow(20), 1);
        due("the cell went", x.assign(3, 1), 1);
        due("cost", x.cost(), 10);
        due("grow", x.grow(20), 0);
        illegal("grow -1", () -> x.grow(-1));
        illegal("grow 21", () -> x.grow(21));
        SkyCuts y = halves();
        stream(y, "35r");
        y.flow(1, 0, 23, 1);
        due("grow by one", y.grow(1), 1);
        due("cost", y.cost() < 48, true);
        due("and on", y.grow(20) >= 1, true);
    }

    private static void region() {
        SkyCuts x = new SkyCuts();
        for (int i = 0; i < 7; i++) {
            due("region", x.region(127 - i), i + 1);
        }
        due("there", x.region(127), -2);
        due("region", x.region(0), 8);
        due("full", x.region(1), -1);
        due("full and there", x.region(0), -1);
        due("count", x.count(4), 8);
        noCell("cell -1", () -> x.region(-1));
        noCell("cell 128", () -> x.region(128));
    }

    private static void heaps(SkyCuts x, int m, int... want) {
        for (int i = 0; i < want.length; i++) {
            due("parted " + m + " " + i, x.parted(m, i), want[i]);
        }
    }

    private static void parted() {
        SkyCuts x = new SkyCuts();
        due("of none", x.parted(1, -1), -1);
        due("of none", x.parted(1, -2), -1);
        due("of none", x.parted(1, 0), -1);
        stream(x, "0r3");
        x.flow(0, 0, 0, 5);
        for (int c = 0; c < 4; c++) {
            x.region(c);
        }
        for (int m = 1; m <= 3; m++) {
            due("peak", x.parted(m, -1), 5);
            due("over", x.parted(m, -2), 0);
            heaps(x, m, 0, 0, 0, 0, -1, -1, -1, -1);
        }
        rules(x, "load cells;");
        due("peak", x.parted(2, -1), 2);
        due("over", x.parted(2, -2), 10);
        heaps(x, 2, 0, 0, 1, 1);
        heaps(x, 3, 0, 0, 1, 1);
        rules(x, "load cells * cells - 4 * pieces;");
        due("pieces of a heap", x.parted(3, -1), 0);
        x.flow(0, 0, 0, 0);
        heaps(x, 3, 0, 0, 1, 1);
        x.clear();
        x.region(2);
        x.region(0);
        due("apart", x.parted(1, -1), -1);
        due("apart", x.parted(1, 0), -1);
        heaps(x, 2, 0, 1);
        x.region(1);
        rules(x, "load 1;");
        heaps(x, 2, 0, 0, 0);
        x.clear();
        for (int c : new int[] {3, 0, 2, 1}) {
            x.region(c);
        }
        rules(x, "load cells;");
        heaps(x, 2, 0, 1, 0, 1);
        // Shut cells and pieces make nothing of it.
        x.paint(0, 63, -1);
        heaps(x, 2, 0, 1, 0, 1);
        SkyCuts y = new SkyCuts();
        for (int c = 0; c < 4; c++) {
            y.region(c);
        }
        stream(y, "1r");
        y.flow(0, 0, 0, 5);
        rules(y, "load cells;");
        heaps(y, 2, 0, 0, 1, 1);
        due("over, if it must be", y.parted(2, -2), 10);
        heaps(y, 3, 0, 1, 1, 2);
        due("the least over", y.parted(3, -2), 0);
        x.clear();
        x.region(64);
        x.region(0);
        x.region(65);
        heaps(x, 1, 0, 0, 0);
        heaps(x, 3, 0, 1, 2);
        due("a cell alone", x.parted(3, -1), 1);
        illegal("m 0", () -> x.parted(0, 0));
        illegal("m 4", () -> x.parted(4, 0));
        illegal("what -3", () -> x.parted(1, -3));
        illegal("what 8", () -> x.parted(1, 8));
    }

    private static void clear() {
        SkyCuts x = new SkyCuts();
        due("clear", x.clear(), 0);
        x.region(5);
        x.region(6);
        due("clear", x.clear(), 2);
        due("count", x.count(4), 0);
        due("region", x.region(5), 1);
    }

    private static void configure() {
        SkyCuts x = new SkyCuts();
        illegal("-1", () -> x.configure(-1));
        illegal("8 to the power of 8", () -> x.configure(16777216));
        due("the greatest", x.configure(16777215), 0);
        for (int i = 1; i < 6; i++) {
            due("configure", x.configure(i), i);
        }
        due("the 7th", x.configure(0), -1);
        illegal("-1 also then", () -> x.configure(-1));
        due("count", x.count(5), 6);
    }

    /** Two layers as pieces 0 and 1, together (0) or apart (1); 30 in each, quarters 8 to 11. */
    private static SkyCuts layers() {
        SkyCuts x = new SkyCuts();
        x.paint(64, 127, 1);
        stream(x, "0r3");
        stream(x, "64r3");
        x.flow(0, 8, 11, 30);
        x.flow(1, 8, 11, 30);
        x.configure(0);
        x.configure(8);
        return x;
    }

    private static void pairs() {
        SkyCuts x = layers();
        due("together", x.pairs(0, 0), 1);
        due("together, too much", x.pairs(0, 8), -1);
        due("apart", x.pairs(1, 8), 2);
        x.limit(1, 9999);
        due("the limit of the other one", x.pairs(0, 8), -1);
        x.limit(0, 60);
        due("the limit of the least", x.pairs(0, 8), 1);
        rules(x, "join ways < 60;");
        due("a join that does not hold", x.pairs(0, 8), -1);
        due("a join that holds", x.pairs(0, 7), 1);
        due("no join for one piece", x.pairs(1, 8), 2);
        rules(x, "join pieces = 2; join low = 64 and cells = 128;");
        due("pieces, low and cells of both", x.pairs(0, 8), 1);
        rules(x, "join 1 < 2; join 2 < 1;");
        due("all joins", x.pairs(0, 0), -1);
        rules(x, "load pieces * 61;");
        due("load by pieces", x.pairs(0, 0), -1);
        x.limit(0, 122);
        due("load by pieces", x.pairs(0, 0), 1);
        x.paint(0, 63, -1);
        due("the least piece with cells", x.pairs(0, 0), 1);
        x.limit(1, 60);
        due("the least piece with cells", x.pairs(0, 0), -1);
        x.paint(64, 127, -1);
        due("no cells at all", x.pairs(0, 0), 0);
        noElement("no such", () -> x.pairs(2, 24));
        noElement("no such", () -> x.pairs(-1, 0));
        illegal("quarter 24", () -> x.pairs(0, 24));
        illegal("quarter -1", () -> x.pairs(0, -1));
    }

    private static void busy() {
        SkyCuts x = layers();
        due("busy", x.busy(50), 1000);
        due("busy from 8 on", x.plan(23, -1), 29);
        due("busy", x.busy(60), 50);
        due("as much is not above", x.plan(23, -1), 28);
        due("as much is not above, quarter 7", x.plan(23, 7), 0);
        due("as much is not above, quarter 8", x.plan(23, 8), 1);
        rules(x, "load ways + pieces - 1;");
        due("a piece alone is one", x.plan(23, -1), 28);
        rules(x, "");
        due("busy", x.busy(100000), 60);
        due("busy", x.busy(0), 100000);
        illegal("-1", () -> x.busy(-1));
        illegal("100001", () -> x.busy(100001));
        due("busy", x.busy(7), 0);
    }

    private static void plan() {
        SkyCuts x = layers();
        due("pairs", x.plan(23, -1), 28);
        due("changes", x.plan(23, -2), 2);
        for (int q = 0; q < 24; q++) {
            due("quarter " + q, x.plan(2, q), q >= 8 && q <= 11 ? 1 : 0);
            due("quarter " + q, x.plan(1, q), q <= 11 ? 1 : 0);
            due("quarter " + q, x.plan(0, q), 1);
        }
        due("pairs of one change", x.plan(1, -1), 36);
        due("pairs of none", x.plan(0, -1), 48);
        due("changes of none", x.plan(0, -2), 0);
        x.busy(50);
        for (int q = 0; q < 24; q++) {
            due("busy quarter " + q, x.plan(23, q), q >= 7 && q <= 11 ? 1 : 0);
        }
        x.busy(0);
        x.limit(1, 29);
        due("none", x.plan(23, -1), -1);
        due("none", x.plan(23, -2), -1);
        due("none", x.plan(23, 0), -1);
        SkyCuts y = new SkyCuts();
        due("no configuration", y.plan(0, -1), -1);
        y.configure(5);
        y.configure(0);
        due("the least configuration", y.plan(23, 23), 0);
        due("the fewest changes", y.plan(23, -2), 0);
        illegal("m -1", () -> y.plan(-1, 0));
        illegal("m 24", () -> y.plan(24, 0));
        illegal("what -3", () -> y.plan(0, -3));
        illegal("what 24", () -> y.plan(0, 24));
        planOfTheFirst();
    }

    /** With one change that must be made somewhere in between, it is made so that the least stand first. */
    private static void planOfTheFirst() {
        SkyCuts x = new SkyCuts();
        x.paint(64, 127, 1);
        x.paint(0, 31, 2);
        stream(x, "0");
        stream(x, "63");
        stream(x, "64");
        // Configuration 0 joins pieces 1 and 2 and can't be late; 1 joins 0 and 2 and can't be early.
        x.configure(0 + 8 + 64);
        x.configure(0 + 8);
        x.flow(2, 20, 23, 40);
        x.flow(0, 20, 23, 1);
        x.flow(1, 0, 3, 40);
        x.flow(0, 0, 3, 1);
        due("pairs", x.plan(23, -1), 48);
        due("changes", x.plan(23, -2), 1);
        due("as long as it can be", x.plan(23, 19), 0);
        due("then the other one", x.plan(23, 20), 1);
    }

    private static void hours() {
        SkyCuts x = new SkyCuts();
        due("work", x.hours(0, 24), 8);
        due("work", x.hours(0, 1), 24);
        due("rest", x.hours(1, 8), 2);
        due("rest", x.hours(1, 1), 8);
        illegal("work 0", () -> x.hours(0, 0));
        illegal("work 25", () -> x.hours(0, 25));
        illegal("rest 0", () -> x.hours(1, 0));
        illegal("rest 9", () -> x.hours(1, 9));
        illegal("what 2", () -> x.hours(2, 1));
        illegal("what -1", () -> x.hours(-1, 1));
        x.configure(0);
        due("one pair, one on and one off", x.lacks(1, 0), 12);
        x.hours(0, 24);
        due("one pair all day", x.lacks(1, 0), 0);
    }

    private static void ill() {
        SkyCuts x = new SkyCuts();
        due("ill", x.ill(0, 3), 24);
        due("ill", x.ill(0, 0), 3);
        due("ill", x.ill(0, 24), 0);
        due("ill", x.ill(7, 3), 24);
        noCell("pair -1", () -> x.ill(-1, 99));
        noCell("pair 8", () -> x.ill(8, 0));
        illegal("quarter -1", () -> x.ill(0, -1));
        illegal("quarter 25", () -> x.ill(0, 25));
        x.configure(0);
        x.ill(0, 3);
        due("well", x.rota(2, 0, 2), 1);
        due("ill", x.rota(2, 0, 3), 2);
        due("nobody else", x.lacks(1, 0), 21);
        x.ill(0, 23);
        due("its last quarter", x.rota(1, 0, 22), 1);
        due("then no more", x.rota(1, 0, 23), 0);
    }

    /** Two pieces that can't be together: two pairs in all quarters. */
    private static SkyCuts twoPairs() {
        SkyCuts x = new SkyCuts();
        x.paint(64, 127, 1);
        x.configure(8);
        return x;
    }

    private static void rota() {
        SkyCuts x = twoPairs();
        int[] three = {3, 3, 3, 3, 3, 3, 3, 3, 4, 4, 5, 5, 5, 5, 5, 5, 3, 3, 6, 6, 6, 6, 6, 6};
        for (int q = 0; q < 24; q++) {
            due("three, quarter " + q, x.rota(3, 0, q), three[q]);
            due("two, quarter " + q, x.rota(2, 0, q), q == 8 || q == 9 || q == 18 || q == 19 ? 0 : 3);
            due("eight, quarter " + q, x.rota(8, 0, q), q < 8 ? 3 : q < 16 ? 12 : 48);
        }
        SkyCuts y = new SkyCuts();
        due("no plan", y.rota(1, 0, 0), -1);
        illegal("n 0", () -> y.rota(0, 0, 0));
        illegal("n 9", () -> y.rota(9, 0, 0));
        illegal("m -1", () -> y.rota(1, -1, 0));
        illegal("m 24", () -> y.rota(1, 24, 0));
        illegal("quarter -1", () -> y.rota(1, 0, -1));
        illegal("quarter 24", () -> y.rota(1, 0, 24));
        rotaOfOneThatStops();
    }

    /** Two are needed in quarters 0 to 3 and 5 to 8, one else: the one that stops in 4 rests then. */
    private static void rotaOfOneThatStops() {
        SkyCuts x = layers();
        x.flow(0, 0, 23, 0);
        x.flow(1, 0, 23, 0);
        for (int s = 0; s < 2; s++) {
            x.flow(s, 0, 3, 30);
            x.flow(s, 5, 8, 30);
        }
        int[] want = {3, 3, 3, 3, 1, 1, 3, 3, 2, 2, 2, 2, 2, 2, 1};
        for (int q = 0; q < want.length; q++) {
            due("quarter " + q, x.rota(2, 23, q), want[q]);
        }
        due("lacks", x.lacks(2, 23), 2);
    }

    private static void lacks() {
        SkyCuts x = twoPairs();
        due("one", x.lacks(1, 0), 24 + 4);
        due("two", x.lacks(2, 0), 8);
        due("three", x.lacks(3, 0), 2);
        due("four", x.lacks(4, 0), 0);
        due("eight, all changes", x.lacks(8, 23), 0);
        SkyCuts y = new SkyCuts();
        due("no plan", y.lacks(1, 0), -1);
        illegal("n 0", () -> y.lacks(0, 0));
        illegal("n 9", () -> y.lacks(9, 0));
        illegal("m -1", () -> y.lacks(1, -1));
        illegal("m 24", () -> y.lacks(1, 24));
    }

    private static void enough() {
        SkyCuts x = twoPairs();
        due("enough", x.enough(0), 4);
        due("enough", x.enough(23), 4);
        x.ill(0, 0);
        due("one is ill", x.enough(0), 5);
        for (int p = 1; p < 8; p++) {
            x.ill(p, 0);
        }
        due("all are ill", x.enough(0), -1);
        x.ill(7, 24);
        x.ill(6, 24);
        x.hours(0, 24);
        due("but for the last ones", x.enough(0), 8);
        SkyCuts y = new SkyCuts();
        due("no plan", y.enough(0), -1);
        y.paint(0, 63, -1);
        y.paint(64, 127, -1);
        y.configure(0);
        due("nothing to watch", y.enough(0), 1);
        illegal("m -1", () -> y.enough(-1));
        illegal("m 24", () -> y.enough(24));
    }

    private static void storm() {
        SkyCuts x = new SkyCuts();
        due("storm", x.storm(0, false), false);
        due("storm", x.storm(0, true), false);
        due("storm", x.storm(0, true), true);
        due("storm", x.storm(127, true), false);
        due("storm", x.storm(64, true), false);
        due("count", x.count(7), 3);
        due("storm", x.storm(0, false), true);
        due("storm", x.storm(0, false), false);
        due("count", x.count(7), 2);
        due("no cell is shut by it else", x.count(3), 0);
        noCell("cell -1", () -> x.storm(-1, true));
        noCell("cell 128", () -> x.storm(128, true));
    }

    private static void mends() {
        SkyCuts x = new SkyCuts();
        due("nothing", x.mends(0, 0, 0, -1), 0);
        stream(x, "0r3");
        stream(x, "56r3");
        x.flow(0, 0, 0, 5);
        x.flow(1, 0, 0, 5);
        due("no storm", x.mends(0, 0, 0, 0), 0);
        x.storm(1, true);
        due("hit", x.mends(0, 0, 0, -2), 1);
        due("not in quarter 1", x.mends(1, 0, 0, -2), 0);
        due("round", x.mends(0, 8, 8, 0), 1);
        due("round, minutes", x.mends(0, 0, 0, -1), 20);
        due("not hit", x.mends(0, 0, 0, 1), 0);
        due("no stream", x.mends(0, 0, 0, 11), 0);
        x.limit(0, 9);
        due("held", x.mends(0, 1, 1, 0), 2);
        due("held, minutes", x.mends(0, 1, 1, -1), 75);
        due("refused", x.mends(0, 0, 1, 0), 3);
        due("refused, minutes", x.mends(0, 0, 1, -1), 300);
        due("none", x.mends(0, 0, 0, -1), -1);
        due("none", x.mends(0, 0, 0, 0), -1);
        due("none, not hit", x.mends(0, 0, 0, 1), -1);
        due("hit all the same", x.mends(0, 0, 0, -2), 1);
        x.limit(0, 40);
        x.storm(0, true);
        due("an end is shut", x.mends(0, 1, 1, 0), 2);
        due("none", x.mends(0, 0, 0, 0), -1);
        x.storm(0, false);
        x.limit(0, 4);
        x.storm(1, false);
        due("nobody hit, but full", x.mends(0, 8, 8, -1), -1);
        illegal("quarter -1", () -> x.mends(-1, 0, 0, 0));
        illegal("quarter 24", () -> x.mends(24, 0, 0, 0));
        illegal("held -1", () -> x.mends(0, -1, 0, 0));
        illegal("held 9", () -> x.mends(0, 9, 0, 0));
        illegal("refused -1", () -> x.mends(0, 0, -1, 0));
        illegal("refused 9", () -> x.mends(0, 0, 9, 0));
        illegal("what -3", () -> x.mends(0, 0, 0, -3));
        illegal("what 12", () -> x.mends(0, 0, 0, 12));
        mendsOfMany();
        mendsByTheWay();
        mendsByALongWay();
        mendsAgain();
    }

    /** A corridor down x 0, up x 2, and down x 4: 24 cells to y 5 there, 25 to y 6. */
    private static void mendsByALongWay() {
        for (int y = 5; y <= 6; y++) {
            SkyCuts x = new SkyCuts();
            stream(x, "0r4d" + y);
            x.flow(0, 0, 0, 1);
            for (int c = 0; c < 64; c++) {
                x.storm(64 + c, true);
                if (c % 8 == 1 && c < 56 || c % 8 == 3 && c > 8) {
                    x.storm(c, true);
                }
            }
            due("a way to y " + y, x.mends(0, 0, 0, -1), y == 5 ? 2 * (24 - 10) : -1);
            due("held is cheaper", x.mends(0, 1, 0, 0), 2);
            rules(x, "load pieces * 40;");
            due("a piece is one", x.mends(0, 1, 0, -1), 15);
        }
    }

    /** Round by 1, 9, 10, 11, 3, 4: nothing of the old way may be left, also at a later call. */
    private static void mendsAgain() {
        SkyCuts x = new SkyCuts();
        stream(x, "1r3");
        stream(x, "0r");
        x.flow(0, 0, 0, 1);
        x.flow(1, 0, 0, 1);
        x.storm(2, true);
        rules(x, "load cross;");
        x.limit(0, 0);
        due("it goes down at 1", x.mends(0, 1, 0, 0), 2);
        x.limit(0, 1);
        due("it goes down at 1", x.mends(0, 1, 0, 0), 1);
        x.assign(2, 1);
        rules(x, "load over;");
        x.limit(0, 0);
        due("it does not come to 2", x.mends(0, 1, 0, 0), 1);
        x.storm(9, true);
        due("nor if it climbs at 1", x.mends(0, 1, 0, 0), 1);
        rules(x, "load climb;");
        due("it climbs", x.mends(0, 1, 0, 0), 2);
        x.storm(9, false);
        due("it climbs no more", x.mends(0, 1, 0, 0), 1);
    }

    private static void mendsOfMany() {
        SkyCuts x = new SkyCuts();
        for (int i = 0; i < 9; i++) {
            stream(x, "0");
            x.flow(i, 0, 0, 1);
        }
        x.storm(0, true);
        due("nine are hit", x.mends(0, 8, 8, -1), -1);
        due("nine are hit", x.mends(0, 8, 8, -2), 511);
        x.flow(4, 0, 0, 0);
        due("eight are hit", x.mends(0, 8, 8, -1), 120);
        due("three held", x.mends(0, 3, 8, -1), 3 * 15 + 5 * 60);
        due("the first is held", x.mends(0, 3, 8, 0), 2);
        due("the third is held", x.mends(0, 3, 8, 2), 2);
        due("the fourth is refused", x.mends(0, 3, 8, 3), 3);
        due("the fifth is not hit", x.mends(0, 3, 8, 4), 0);
        due("too few", x.mends(0, 3, 4, -1), -1);
        due("enough", x.mends(0, 4, 4, -1), 4 * 75);
        x.flow(7, 0, 0, 2);
        due("whom it is dear to refuse", x.mends(0, 1, 7, 7), 2);
        due("whom it is cheap to refuse", x.mends(0, 1, 7, 0), 3);
    }

    private static void mendsByTheWay() {
        SkyCuts x = new SkyCuts();
        // By 8, 9, 10, 2 (the least cells), not by 11 or the layer above.
        stream(x, "0r3");
        x.flow(0, 0, 0, 5);
        x.storm(1, true);
        x.paint(0, 63, 1);
        x.paint(64, 127, 2);
        rules(x, "load ways;");
        for (int c : new int[] {8, 9, 10, 2, 3, 0}) {
            x.assign(c, 0);
        }
        x.limit(1, 0);
        x.limit(2, 0);
        due("the first of the shortest ways", x.mends(0, 0, 0, 0), 1);
        x.assign(2, 1);
        due("it goes by 2", x.mends(0, 0, 0, 0), -1);
        x.assign(2, 0);
        x.assign(0, 3);
        x.limit(3, 4);
        due("it comes to its first cell", x.mends(0, 0, 0, 0), -1);
        x.limit(3, 5);
        due("it comes to its first cell", x.mends(0, 0, 0, 0), 1);
        x.assign(0, 0);
        x.assign(9, -1);
        due("shut cells may be crossed", x.mends(0, 0, 0, 0), 1);
        x.storm(9, true);
        due("by 8, 16, 17, 18, 10, 2: no, by the layer above", x.mends(0, 0, 0, 0), -1);
        x.limit(2, 5);
        due("by the layer above", x.mends(0, 0, 0, -1), 20);
        SkyCuts y = new SkyCuts();
        // The way is longer than it must be: no minutes below 0.
        stream(y, "0d2r2u2");
        y.flow(0, 0, 0, 5);
        y.storm(16, true);
        due("shorter", y.mends(0, 0, 0, -1), 0);
        SkyCuts z = new SkyCuts();
        stream(z, "0r7");
        z.flow(0, 0, 0, 1);
        z.storm(2, true);
        for (int c = 0; c < 56; c += 8) {
            z.storm(66 + c, true);
            z.storm(2 + c, true);
        }
        z.storm(122, true);
        due("round by the last row, 22 cells", z.mends(0, 0, 0, -1), 2 * (22 - 8));
        for (int c = 8; c < 64; c += 8) {
            z.storm(4 + c, true);
            z.storm(68 + c, true);
        }
        z.storm(68, true);
        due("22 cells still", z.mends(0, 0, 0, -1), 28);
        z.storm(57, true);
        z.storm(121, true);
        due("there is no way", z.mends(0, 0, 0, -1), -1);
    }

    private static void did() {
        SkyCuts x = three();
        for (int i = 0; i < 40; i++) {
            due("did", x.did(i % 8, i % 24, 9999 - i, i % 2 == 0), i);
        }
        due("the 41st", x.did(0, 0, 0, false), -1);
        due("count", x.count(6), 40);
        illegal("piece -1", () -> x.did(-1, 0, 0, false));
        illegal("piece 8", () -> x.did(8, 0, 0, false));
        illegal("quarter -1", () -> x.did(0, -1, 0, false));
        illegal("quarter 24", () -> x.did(0, 24, 0, false));
        illegal("work -1", () -> x.did(0, 0, -1, false));
        illegal("work 10000", () -> x.did(0, 0, 10000, false));
    }

    private static void fit() {
        SkyCuts x = new SkyCuts();
        due("no rows", x.fit(0), -1);
        stream(x, "0r3");
        x.flow(0, 0, 0, 5);
        x.did(0, 0, 14, true);
        due("kept back alone", x.fit(4), -1);
        due("kept back alone", x.fit(5), -1);
        x.did(0, 0, 10, false);
        int[] want = {2, 0, 0, 0, 0, 4};
        for (int what = 0; what < 6; what++) {
            due("fit " + what, x.fit(what), want[what]);
        }
        x.flow(0, 0, 0, 50);
        due("as it was when it was told", x.fit(0), 2);
        x.did(0, 1, 7, false);
        due("off", x.fit(4), 7);
        illegal("what -1", () -> x.fit(-1));
        illegal("what 6", () -> x.fit(6));
        SkyCuts y = three();
        y.did(0, 0, 3 * 10 + 4 * 5 + 2, false);
        y.paint(64, 127, 1);
        y.did(0, 0, 3 * 10 + 4 * 5 + 2 * 2, false);
        y.did(1, 0, 3 * 2 + 2 * 2, false);
        int[] weights = {3, 4, 2, 1, 0, 0};
        for (int what = 0; what < 6; what++) {
            due("fit " + what, y.fit(what), weights[what]);
        }
        SkyCuts z = three();
        z.did(0, 0, 20, false);
        // 10 a + 5 b + 2 d = 20: the first is 0, 4, 0, 0.
        int[] first = {0, 4, 0, 0, 0, 0};
        for (int what = 0; what < 6; what++) {
            due("the first fit " + what, z.fit(what), first[what]);
        }
    }

    private static void lead() {
        SkyCuts x = three();
        // Parts: 5 + 2 * (3 + 2) = 15; 3 + 2 * 3 = 9; 2 + 2 * 2 = 6.
        int[] parts = {15, 9, 6};
        for (int k = 0; k < 3; k++) {
            due("led " + k, x.lead(0, 0, k, false), k);
            due("part " + k, x.lead(0, 0, k, true), parts[k]);
        }
        due("no more", x.lead(0, 0, 3, false), -1);
        due("no more", x.lead(0, 0, 3, true), -1);
        due("k -1", x.lead(0, 0, -1, false), -1);
        due("nothing there", x.lead(1, 0, 0, true), -1);
        due("nothing then", x.lead(0, 1, 0, true), -1);
        x.flow(1, 0, 0, 20);
        due("the greatest first", x.lead(0, 0, 0, false), 1);
        rules(x, "load 0 - ways;");
        due("parts below 0", x.lead(0, 0, 0, false), 2);
        due("parts below 0", x.lead(0, 0, 0, true), -2);
        due("parts below 0", x.lead(0, 0, 2, true), -20);
        rules(x, "load least(ways, 3);");
        due("parts of 0", x.lead(0, 0, 0, false), -1);
        rules(x, "load ways / 27;");
        due("like parts by number", x.lead(0, 0, 0, false), 0);
        due("like parts by number", x.lead(0, 0, 1, false), 1);
        due("a part", x.lead(0, 0, 1, true), 1);
        illegal("piece -1", () -> x.lead(-1, 0, 0, false));
        illegal("piece 8", () -> x.lead(8, 0, 0, false));
        illegal("quarter -1", () -> x.lead(0, -1, 0, false));
        illegal("quarter 24", () -> x.lead(0, 24, 0, false));
    }

    private static void worth() {
        SkyCuts x = halves();
        due("worth", x.worth(3, 1), 14);
        due("worth", x.worth(4, 0), 14);
        due("worth of a far one", x.worth(0, 1), 0);
        // Piece 2 hears 1 + 1, piece 0 nothing, piece 1 hears 2: cost 24 + 20.
        due("worth to a new one", x.worth(3, 2), 24 - 44);
        due("all is as it was", x.cost(), 24);
        due("all is as it was", x.assign(3, 0), 0);
        illegal("of that piece", () -> x.worth(3, 0));
        illegal("shut", () -> x.worth(64, 0));
        illegal("piece -1", () -> x.worth(3, -1));
        illegal("piece 8", () -> x.worth(3, 8));
        noCell("cell -1", () -> x.worth(-1, 8));
        noCell("cell 128", () -> x.worth(128, 0));
        SkyCuts y = new SkyCuts();
        y.paint(0, 63, -1);
        y.paint(64, 127, -1);
        y.assign(3, 0);
        y.assign(4, 1);
        stream(y, "3r");
        y.flow(0, 0, 23, 1);
        due("the old one may be left without", y.worth(3, 1), 24);
    }

    private static void quiet() {
        SkyCuts x = three();
        x.flow(0, 5, 6, 7);
        x.span(0, 2, 2);
        due("quiet 0", x.quiet(0), 19);
        due("quiet 2", x.quiet(2), 19 + 3);
        due("quiet 3", x.quiet(3), 19 + 2);
        due("quiet 67", x.quiet(67), 2);
        due("quiet 127", x.quiet(127), 0);
        x.assign(0, -1);
        due("quiet of a shut one", x.quiet(0), 19);
        noCell("cell -1", () -> x.quiet(-1));
        noCell("cell 128", () -> x.quiet(128));
    }

    private static void marks() {
        SkyCuts x = new SkyCuts();
        due("back without", x.back(), -1);
        due("mark", x.mark(), 1);
        x.assign(0, 1);
        x.assign(127, -1);
        due("mark", x.mark(), 2);
        x.paint(0, 63, 3);
        due("mark", x.mark(), 3);
        due("mark", x.mark(), 4);
        due("the fifth", x.mark(), -1);
        due("count", x.count(8), 4);
        x.paint(0, 127 - 64, 5);
        due("back", x.back(), 3);
        due("it is as it was", x.paint(0, 63, 3), 0);
        due("back", x.back(), 2);
        due("back", x.back(), 1);
        due("pieces", x.count(2), 2);
        due("cell 0", x.assign(0, 1), 1);
        due("cell 127", x.assign(127, -1), -1);
        due("mark", x.mark(), 2);
        due("back", x.back(), 1);
        x.limit(0, 3);
        due("back", x.back(), 0);
        due("limits stay", x.limit(0, 3), 3);
        due("cell 127", x.assign(127, 0), 0);
        due("pieces", x.count(2), 1);
        due("back", x.back(), -1);
        due("count", x.count(8), 0);
    }

    private static void count() {
        SkyCuts x = layers();
        rules(x, "load 1; join 1 < 2; load 2;");
        x.region(4);
        x.did(0, 0, 0, false);
        x.storm(1, true);
        x.storm(65, true);
        x.mark();
        x.assign(0, -1);
        x.feed(0, 0, 0, 0, 0);
        int[] want = {2, 3, 2, 1, 1, 2, 1, 2, 1, 20};
        for (int what = 0; what < want.length; what++) {
            due("count " + what, x.count(what), want[what]);
        }
        for (int what : new int[] {-1, 10, Integer.MIN_VALUE, Integer.MAX_VALUE}) {
            due("count " + what, x.count(what), -1);
        }
    }

    private static void all() {
        Call[] calls = {
            PromisesTest::newObject, PromisesTest::feed, PromisesTest::stream, PromisesTest::rules,
            PromisesTest::fault, PromisesTest::way, PromisesTest::flow, PromisesTest::span, PromisesTest::most,
            PromisesTest::assign, PromisesTest::paint, PromisesTest::limit, PromisesTest::hears, PromisesTest::peak,
            PromisesTest::whole, PromisesTest::neck, PromisesTest::shorts, PromisesTest::length, PromisesTest::edge,
            PromisesTest::holds, PromisesTest::cost, PromisesTest::better, PromisesTest::grow, PromisesTest::region,
            PromisesTest::parted, PromisesTest::clear, PromisesTest::configure, PromisesTest::pairs,
            PromisesTest::busy, PromisesTest::plan, PromisesTest::hours, PromisesTest::ill, PromisesTest::rota,
            PromisesTest::lacks, PromisesTest::enough, PromisesTest::storm, PromisesTest::mends, PromisesTest::did,
            PromisesTest::fit, PromisesTest::lead, PromisesTest::worth, PromisesTest::quiet, PromisesTest::marks,
            PromisesTest::marks, PromisesTest::count
        };
        for (int i = 0; i < calls.length; i++) {
            promise = i + 1;
            calls[i].make();
        }
    }

    public static void main(String[] args) {
        all();
        System.out.println("PromisesTest: " + seen + " answers, " + wrong + " wrong");
        if (wrong > 0) {
            System.exit(1);
        }
    }
}
