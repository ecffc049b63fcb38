import java.io.IOException;
import java.nio.charset.StandardCharsets;
import java.nio.file.Files;
import java.nio.file.Path;
import java.util.ArrayList;
import java.util.List;
import java.util.NoSuchElementException;

/** What the tests of the document's edges share: each of them names the sentence that it holds to. */
abstract class Edges {
    static final int LEAST = Integer.MIN_VALUE;
    static final int GREATEST = Integer.MAX_VALUE;

    private static final List<String> quotes = new ArrayList<>();
    private static int wrong = 0;
    private static int seen = 0;

    interface Call {
        void make();
    }

    static void says(String sentence, Call test) {
        quotes.add(sentence);
        test.make();
    }

    static void due(String call, long got, long want) {
        seen++;
        if (got != want) {
            fail(call + " answered " + got + ", due is " + want);
        }
    }

    static void due(String call, boolean got, boolean want) {
        due(call, got ? 1 : 0, want ? 1 : 0);
    }

    private static void fail(String what) {
        wrong++;
        System.out.println("\"" + quotes.get(quotes.size() - 1) + "\": " + what);
    }

    private static void refused(String call, Class<?> with, Call it) {
        seen++;
        Class<?> got = null;
        try {
            it.make();
        } catch (RuntimeException e) {
            got = e.getClass();
        }
        if (got != with) {
            fail(call + " threw " + got + ", due is " + with);
        }
    }

    static void illegal(String call, Call it) {
        refused(call, IllegalArgumentException.class, it);
    }

    static void outside(String call, Call it) {
        refused(call, IndexOutOfBoundsException.class, it);
    }

    static void missing(String call, Call it) {
        refused(call, NoSuchElementException.class, it);
    }

    static void feed(SkyCuts x, String text) {
        for (int i = 0; i < text.length(); i += 20) {
            int[] v = new int[5];
            for (int j = 0; j < 20; j++) {
                v[j / 4] = v[j / 4] << 8 | (i + j < text.length() ? text.charAt(i + j) & 255 : 0);
            }
            x.feed(v[0], v[1], v[2], v[3], v[4]);
        }
    }

    static int stream(SkyCuts x, String text) {
        feed(x, text);
        return x.stream(text.length());
    }

    /** A stream with a count in all quarters: its number. */
    static int stream(SkyCuts x, String text, int count) {
        int number = stream(x, text);
        x.flow(number, 0, 23, count);
        return number;
    }

    static int rules(SkyCuts x, String text) {
        feed(x, text);
        return x.rules(text.length());
    }

    /** An object all of whose cells are shut. */
    static SkyCuts shut() {
        SkyCuts x = new SkyCuts();
        x.paint(0, 63, -1);
        x.paint(64, 127, -1);
        return x;
    }

    static void put(SkyCuts x, int piece, int... cells) {
        for (int cell : cells) {
            x.assign(cell, piece);
        }
    }

    /** A text that is read as a way from its first to its last cell, of so many cells. */
    static void fine(String text, int cells, int last) {
        SkyCuts x = new SkyCuts();
        due("stream \"" + text + "\"", stream(x, text), 0);
        due("fault of \"" + text + "\"", x.fault(), -1);
        due("the last cell of \"" + text + "\"", x.way(0, cells - 1), last);
        due("the cell behind it of \"" + text + "\"", x.way(0, cells), -1);
    }

    static void faulty(String text, int kind, int place) {
        SkyCuts x = new SkyCuts();
        due("stream \"" + text + "\"", stream(x, text), kind - 10);
        due("fault of \"" + text + "\"", x.fault(), place);
        due("streams after \"" + text + "\"", x.count(0), 0);
        due("the tape after \"" + text + "\"", x.count(9), 0);
    }

    static void fineRules(String text, int clauses) {
        SkyCuts x = new SkyCuts();
        due("rules \"" + text + "\"", rules(x, text), clauses);
        due("fault of \"" + text + "\"", x.fault(), -1);
        due("clauses of \"" + text + "\"", x.count(1), clauses);
    }

    static void faultyRules(String text, int kind, int place) {
        SkyCuts x = new SkyCuts();
        rules(x, "load 7; join 1 < 2;");
        due("rules \"" + text + "\"", rules(x, text), kind - 10);
        due("fault of \"" + text + "\"", x.fault(), place);
        due("clauses after \"" + text + "\"", x.count(1), 2);
        due("load after \"" + text + "\"", x.hears(0, 0, 4), 7);
        due("the tape after \"" + text + "\"", x.count(9), 0);
    }

    /** Sentences that the document does not have test nothing that it promises. */
    private static void lookUpQuotes() {
        Path document = Path.of("..", "shared", "DOC.md");
        if (!Files.isReadable(document)) {
            return;
        }
        try {
            String text = Files.readString(document, StandardCharsets.UTF_8);
            for (String quote : quotes) {
                if (!text.contains(quote)) {
                    wrong++;
                    System.out.println("the document does not say \"" + quote + "\"");
                }
            }
        } catch (IOException e) {
            wrong++;
            System.out.println("the document can't be read");
        }
    }

    static void close(String name) {
        lookUpQuotes();
        System.out.println(name + ": " + quotes.size() + " sentences, " + seen + " answers, " + wrong + " wrong");
        if (wrong > 0) {
            System.exit(1);
        }
    }
}
