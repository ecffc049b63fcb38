import java.util.ArrayList;
import java.util.Arrays;
import java.util.HashMap;
import java.util.HashSet;
import java.util.List;
import java.util.Map;
import java.util.NoSuchElementException;
import java.util.Set;

/**
 * A second SkyCuts, as slow and as plain as the document's words: no masks, no tables, everything is counted anew
 * from cells and ways at each call. ModelTest holds the class against it.
 */
final class Model {
    static final int NONE = -1;

    static final class Fault extends Exception {
        final int kind;
        final int place;

        Fault(int kind, int place) {
            this.kind = kind;
            this.place = place;
        }
    }

    static final class Stream {
        List<Integer> way = new ArrayList<>();
        int[] counts = new int[24];
        int early;
        int late;

        int most(int q) {
            int best = 0;
            for (int i = 0; i < 24; i++) {
                if (i >= q - late && i <= q + early) {
                    best = Math.max(best, counts[i]);
                }
            }
            return best;
        }

        int goes(int cell) {
            int i = way.indexOf(cell);
            if (way.size() == 1) {
                return 6;
            }
            return i + 1 < way.size() ? way.get(i + 1) - way.get(i) : way.get(i) - way.get(i - 1);
        }
    }

    /** What is heard; `pieces` is told from outside. */
    static final class Heard {
        int ways, cross, over, climb, cells, low, pieces;
    }

    interface Node {
        int value(Heard h);
    }

    static final class Row {
        int work;
        boolean back;
        int[] heard;
    }

    final List<Integer> tape = new ArrayList<>();
    final List<Stream> streams = new ArrayList<>();
    Node load = null;
    List<Node> joins = new ArrayList<>();
    int clauses = 0;
    int place = NONE;
    int[] piece = new int[128];
    int[] limits = new int[8];
    int length = 0;
    List<Integer> region = new ArrayList<>();
    List<int[]> configurations = new ArrayList<>();
    int busySum = 1000;
    int work = 8;
    int rest = 2;
    int[] ill = new int[8];
    Set<Integer> storm = new HashSet<>();
    List<Row> rows = new ArrayList<>();
    List<int[]> marks = new ArrayList<>();

    Model() {
        Arrays.fill(limits, 40);
        Arrays.fill(ill, 24);
    }

    static void must(boolean is) {
        if (!is) {
            throw new IllegalArgumentException();
        }
    }

    static void cellMust(int cell) {
        if (cell < 0 || cell > 127) {
            throw new IndexOutOfBoundsException();
        }
    }

    static void pieceMust(int p) {
        must(p >= 0 && p <= 7);
    }

    static void quarterMust(int q) {
        must(q >= 0 && q <= 23);
    }

    Stream streamMust(int s) {
        if (s < 0 || s >= streams.size()) {
            throw new NoSuchElementException();
        }
        return streams.get(s);
    }

    // ---- texts

    int feed(int a, int b, int c, int d, int e) {
        if (tape.size() > 180) {
            return NONE;
        }
        for (int v : new int[] {a, b, c, d, e}) {
            for (int i = 3; i >= 0; i--) {
                tape.add((v >> (8 * i)) & 255);
            }
        }
        return tape.size();
    }

    private String takeText(int n, int greatest) {
        must(n >= 0 && n <= tape.size() && n <= greatest);
        StringBuilder text = new StringBuilder();
        for (int i = 0; i < n; i++) {
            text.append((char) (int) tape.get(i));
        }
        tape.clear();
        place = NONE;
        return text.toString();
    }

    int stream(int n) {
        String text = takeText(n, 100);
        Stream made = new Stream();
        try {
            new WayReader(text).read(made.way);
        } catch (Fault f) {
            place = f.place;
            return f.kind - 10;
        }
        if (streams.size() == 12) {
            return -1;
        }
        streams.add(made);
        return streams.size() - 1;
    }

    static class Reader {
        final String text;
        int i = 0;

        Reader(String text) {
            this.text = text;
        }

        void blanks() {
            while (i < text.length() && text.charAt(i) == ' ') {
                i++;
            }
        }

        boolean atDigit() {
            blanks();
            return i < text.length() && "0123456789".indexOf(text.charAt(i)) >= 0;
        }

        int number(int least, int greatest) throws Fault {
            if (!atDigit()) {
                throw new Fault(1, i);
            }
            int from = i;
            while (atDigitHere()) {
                i++;
            }
            java.math.BigInteger v = new java.math.BigInteger(text.substring(from, i));
            if (v.compareTo(java.math.BigInteger.valueOf(least)) < 0
                || v.compareTo(java.math.BigInteger.valueOf(greatest)) > 0) {
                throw new Fault(2, from);
            }
            return v.intValue();
        }

        boolean atDigitHere() {
            return i < text.length() && Character.isDigit(text.charAt(i)) && text.charAt(i) < 128;
        }

        boolean atEnd() {
            blanks();
            return i == text.length();
        }
    }

    static final class WayReader extends Reader {
        WayReader(String text) {
            super(text);
        }

        void read(List<Integer> way) throws Fault {
            way.add(number(0, 127));
            while (!atEnd()) {
                int at = i;
                char letter = text.charAt(i);
                if ("rlducs".indexOf(letter) < 0) {
                    throw new Fault(1, at);
                }
                i++;
                int times = 1;
                if ("rldu".indexOf(letter) >= 0 && atDigit()) {
                    times = number(1, 7);
                }
                for (int t = 0; t < times; t++) {
                    int cell = way.get(way.size() - 1);
                    int x = cell % 8 + (letter == 'r' ? 1 : letter == 'l' ? -1 : 0);
                    int y = cell / 8 % 8 + (letter == 'd' ? 1 : letter == 'u' ? -1 : 0);
                    int z = cell / 64 + (letter == 'c' ? 1 : letter == 's' ? -1 : 0);
                    if (x < 0 || x > 7 || y < 0 || y > 7 || z < 0 || z > 1) {
                        throw new Fault(3, at);
                    }
                    int next = 64 * z + 8 * y + x;
                    if (way.size() == 24 || way.contains(next)) {
                        throw new Fault(4, at);
                    }
                    way.add(next);
                }
            }
        }
    }

    int rules(int n) {
        String text = takeText(n, 200);
        RuleReader reader = new RuleReader(text);
        try {
            reader.read();
        } catch (Fault f) {
            place = f.place;
            return f.kind - 10;
        }
        load = reader.load;
        joins = reader.joins;
        clauses = reader.clauses;
        return clauses;
    }

    static final class RuleReader extends Reader {
        Node load = null;
        List<Node> joins = new ArrayList<>();
        int clauses = 0;
        int open = 0;

        RuleReader(String text) {
            super(text);
        }

        /** The thing that stands next: a word, one sign, or nothing at the end; it is not passed. */
        String peek() {
            blanks();
            int j = i;
            while (j < text.length() && text.charAt(j) >= 'a' && text.charAt(j) <= 'z') {
                j++;
            }
            return j > i ? text.substring(i, j) : i < text.length() ? text.substring(i, i + 1) : "";
        }

        boolean pass(String thing) {
            if (!peek().equals(thing)) {
                return false;
            }
            i += thing.length();
            return true;
        }

        void demand(String thing) throws Fault {
            if (!pass(thing)) {
                throw new Fault(1, i);
            }
        }

        void enter(String thing) throws Fault {
            if (!peek().equals(thing)) {
                throw new Fault(1, i);
            }
            if (open == 6) {
                throw new Fault(3, i);
            }
            pass(thing);
            open++;
        }

        void read() throws Fault {
            while (!atEnd()) {
                String word = peek();
                if (!word.equals("load") && !word.equals("join")) {
                    throw new Fault(1, i);
                }
                if (clauses == 8) {
                    throw new Fault(3, i);
                }
                pass(word);
                if (word.equals("load")) {
                    load = sum();
                } else {
                    joins.add(either());
                }
                demand(";");
                clauses++;
            }
        }

        Node either() throws Fault {
            Node a = both();
            while (pass("or")) {
                Node l = a;
                Node r = both();
                a = h -> l.value(h) + r.value(h) > 0 ? 1 : 0;
            }
            return a;
        }

        Node both() throws Fault {
            Node a = test();
            while (pass("and")) {
                Node l = a;
                Node r = test();
                a = h -> l.value(h) * r.value(h);
            }
            return a;
        }

        Node test() throws Fault {
            if (peek().equals("not")) {
                enter("not");
                Node a = test();
                open--;
                return h -> a.value(h) == 0 ? 1 : 0;
            }
            if (peek().equals("[")) {
                enter("[");
                Node a = either();
                demand("]");
                open--;
                return a;
            }
            Node l = sum();
            String how = peek();
            if (!how.equals("<") && !how.equals(">") && !how.equals("=")) {
                throw new Fault(1, i);
            }
            pass(how);
            Node r = sum();
            return h -> {
                int c = Integer.compare(l.value(h), r.value(h));
                return (how.equals("<") ? c < 0 : how.equals(">") ? c > 0 : c == 0) ? 1 : 0;
            };
        }

        Node sum() throws Fault {
            Node a = product();
            while (peek().equals("+") || peek().equals("-")) {
                boolean plus = pass("+") || !pass("-");
                Node l = a;
                Node r = product();
                a = h -> plus ? l.value(h) + r.value(h) : l.value(h) - r.value(h);
            }
            return a;
        }

        Node product() throws Fault {
            Node a = unit();
            while (peek().equals("*") || peek().equals("/")) {
                boolean times = pass("*") || !pass("/");
                Node l = a;
                Node r = unit();
                a = h -> {
                    int x = l.value(h);
                    int y = r.value(h);
                    return times ? x * y : y == 0 ? 0 : x / y;
                };
            }
            return a;
        }

        Node unit() throws Fault {
            if (atDigit()) {
                int v = number(0, 999);
                return h -> v;
            }
            String word = peek();
            switch (word) {
                case "(": {
                    enter("(");
                    Node a = sum();
                    demand(")");
                    open--;
                    return a;
                }
                case "least":
                case "most": {
                    pass(word);
                    enter("(");
                    Node l = sum();
                    demand(",");
                    Node r = sum();
                    demand(")");
                    open--;
                    return h -> word.equals("least") ? Math.min(l.value(h), r.value(h)) : Math.max(l.value(h), r.value(h));
                }
                case "ways": pass(word); return h -> h.ways;
                case "cross": pass(word); return h -> h.cross;
                case "over": pass(word); return h -> h.over;
                case "climb": pass(word); return h -> h.climb;
                case "cells": pass(word); return h -> h.cells;
                case "low": pass(word); return h -> h.low;
                case "pieces": pass(word); return h -> h.pieces;
                default: throw new Fault(1, i);
            }
        }
    }

    int fault() {
        return place;
    }

    // ---- streams

    int way(int s, int k) {
        Stream it = streamMust(s);
        return k >= 0 && k < it.way.size() ? it.way.get(k) : NONE;
    }

    void flow(int s, int from, int to, int count) {
        Stream it = streamMust(s);
        quarterMust(from);
        quarterMust(to);
        must(from <= to && count >= 0 && count <= 50);
        for (int q = from; q <= to; q++) {
            it.counts[q] = count;
        }
    }

    void span(int s, int early, int late) {
        Stream it = streamMust(s);
        must(early >= 0 && early <= 2 && late >= 0 && late <= 2);
        it.early = early;
        it.late = late;
    }

    int most(int s, int q) {
        Stream it = streamMust(s);
        quarterMust(q);
        return it.most(q);
    }

    // ---- pieces

    int assign(int cell, int p) {
        cellMust(cell);
        must(p >= -1 && p <= 7);
        int was = piece[cell];
        piece[cell] = p;
        return was;
    }

    int paint(int from, int to, int p) {
        cellMust(from);
        cellMust(to);
        must(p >= -1 && p <= 7);
        must(from / 64 == to / 64 && from % 8 <= to % 8 && from / 8 % 8 <= to / 8 % 8);
        int many = 0;
        for (int y = from / 8 % 8; y <= to / 8 % 8; y++) {
            for (int x = from % 8; x <= to % 8; x++) {
                int cell = from / 64 * 64 + 8 * y + x;
                many += piece[cell] != p ? 1 : 0;
                piece[cell] = p;
            }
        }
        return many;
    }

    int limit(int p, int v) {
        pieceMust(p);
        must(v >= 0 && v <= 9999);
        int was = limits[p];
        limits[p] = v;
        return was;
    }

    Set<Integer> cellsOf(int p) {
        Set<Integer> set = new HashSet<>();
        for (int c = 0; c < 128; c++) {
            if (piece[c] == p) {
                set.add(c);
            }
        }
        return set;
    }

    static boolean beside(int a, int b) {
        int far = Math.abs(a % 8 - b % 8) + Math.abs(a / 8 % 8 - b / 8 % 8) + Math.abs(a / 64 - b / 64);
        return far == 1;
    }

    static List<Integer> besides(int cell) {
        List<Integer> list = new ArrayList<>();
        for (int c : new int[] {cell - 64, cell - 8, cell - 1, cell + 1, cell + 8, cell + 64}) {
            if (c >= 0 && c < 128 && beside(cell, c)) {
                list.add(c);
            }
        }
        return list;
    }

    /** mosts: of each stream in the quarter, by number. */
    static Heard hear(Set<Integer> set, List<Stream> by, int[] mosts, int pieces) {
        Heard h = new Heard();
        h.pieces = pieces;
        h.cells = set.size();
        for (int c : set) {
            h.low += c < 64 ? 1 : 0;
        }
        for (int s = 0; s < by.size(); s++) {
            List<Integer> way = by.get(s).way;
            boolean comes = false;
            for (int i = 0; i < way.size(); i++) {
                boolean in = set.contains(way.get(i));
                comes |= in;
                if (i > 0) {
                    boolean was = set.contains(way.get(i - 1));
                    if (in != was) {
                        h.over += mosts[s];
                    }
                    if (in && was && Math.abs(way.get(i) - way.get(i - 1)) == 64) {
                        h.climb += mosts[s];
                    }
                }
            }
            h.ways += comes ? mosts[s] : 0;
            for (int t = s + 1; t < by.size(); t++) {
                for (int c : way) {
                    if (set.contains(c) && by.get(t).way.contains(c) && by.get(s).goes(c) != by.get(t).goes(c)) {
                        h.cross += Math.min(mosts[s], mosts[t]);
                    }
                }
            }
        }
        return h;
    }

    int[] mostsIn(int q) {
        int[] mosts = new int[streams.size()];
        for (int s = 0; s < mosts.length; s++) {
            mosts[s] = streams.get(s).most(q);
        }
        return mosts;
    }

    int loadOf(Heard h) {
        return load == null ? h.ways + 2 * h.cross + h.over : load.value(h);
    }

    int loadOf(Set<Integer> set, int q) {
        return loadOf(hear(set, streams, mostsIn(q), 1));
    }

    int peakOf(Set<Integer> set) {
        int best = Integer.MIN_VALUE;
        for (int q = 0; q < 24; q++) {
            best = Math.max(best, loadOf(set, q));
        }
        return best;
    }

    static boolean hangs(Set<Integer> set) {
        if (set.isEmpty()) {
            return true;
        }
        List<Integer> queue = new ArrayList<>(List.of(set.iterator().next()));
        Set<Integer> seen = new HashSet<>(queue);
        for (int i = 0; i < queue.size(); i++) {
            for (int c : besides(queue.get(i))) {
                if (set.contains(c) && seen.add(c)) {
                    queue.add(c);
                }
            }
        }
        return seen.size() == set.size();
    }

    int hears(int p, int q, int what) {
        pieceMust(p);
        quarterMust(q);
        must(what >= 0 && what <= 4);
        Heard h = hear(cellsOf(p), streams, mostsIn(q), 1);
        return new int[] {h.ways, h.cross, h.over, h.climb, loadOf(h)}[what];
    }

    int peak(int p, int what) {
        pieceMust(p);
        must(what == 0 || what == 1);
        Set<Integer> set = cellsOf(p);
        int best = peakOf(set);
        if (what == 0) {
            return best;
        }
        int q = 0;
        while (loadOf(set, q) != best) {
            q++;
        }
        return q;
    }

    boolean whole(int p) {
        pieceMust(p);
        return hangs(cellsOf(p));
    }

    int neck(int p, int k) {
        pieceMust(p);
        Set<Integer> set = cellsOf(p);
        List<Integer> necks = new ArrayList<>();
        if (hangs(set)) {
            for (int c = 0; c < 128; c++) {
                if (set.remove(c)) {
                    if (!hangs(set)) {
                        necks.add(c);
                    }
                    set.add(c);
                }
            }
        }
        return k >= 0 && k < necks.size() ? necks.get(k) : NONE;
    }

    int shorts(int p) {
        pieceMust(p);
        int bits = 0;
        for (int s = 0; s < streams.size(); s++) {
            StringBuilder in = new StringBuilder();
            for (int c : streams.get(s).way) {
                in.append(piece[c] == p ? 'x' : ' ');
            }
            for (String run : in.toString().split(" ")) {
                if (!run.isEmpty() && run.length() < length) {
                    bits |= 1 << s;
                }
            }
        }
        return bits;
    }

    int length(int v) {
        must(v >= 0 && v <= 9);
        int was = length;
        length = v;
        return was;
    }

    int edge(int p) {
        pieceMust(p);
        int many = 0;
        for (int c = 0; c < 128; c++) {
            boolean side = false;
            for (int b : besides(c)) {
                side |= piece[b] != p;
            }
            if (piece[c] == p && side && meet(c)) {
                many++;
            }
        }
        return many;
    }

    private boolean meet(int cell) {
        Set<Integer> ways = new HashSet<>();
        for (Stream s : streams) {
            if (s.way.contains(cell)) {
                ways.add(s.goes(cell));
            }
        }
        return ways.size() > 1;
    }

    boolean holds() {
        for (int p = 0; p < 8; p++) {
            Set<Integer> set = cellsOf(p);
            if (!hangs(set) || !set.isEmpty() && peakOf(set) > limits[p]) {
                return false;
            }
        }
        return true;
    }

    int cost() {
        int sum = 0;
        for (Stream s : streams) {
            int counts = Arrays.stream(s.counts).sum();
            for (int i = 1; i < s.way.size(); i++) {
                int a = piece[s.way.get(i - 1)];
                int b = piece[s.way.get(i)];
                if (a != b || a == NONE) {
                    sum += counts;
                }
            }
        }
        List<Integer> peaks = new ArrayList<>();
        for (int p = 0; p < 8; p++) {
            if (!cellsOf(p).isEmpty()) {
                peaks.add(peakOf(cellsOf(p)));
            }
        }
        peaks.sort(null);
        return peaks.isEmpty() ? sum : sum + 10 * (peaks.get(peaks.size() - 1) - peaks.get(0));
    }

    /** cell, piece, cost then; or null. */
    int[] bestMove() {
        int[] best = null;
        int now = cost();
        for (int c = 0; c < 128; c++) {
            for (int p = 0; p < 8; p++) {
                int old = piece[c];
                if (old == NONE || old == p) {
                    continue;
                }
                boolean near = false;
                for (int b : besides(c)) {
                    near |= piece[b] == p;
                }
                if (!near) {
                    continue;
                }
                piece[c] = p;
                Set<Integer> left = cellsOf(old);
                Set<Integer> come = cellsOf(p);
                if (!left.isEmpty() && hangs(left) && hangs(come) && peakOf(left) <= limits[old]
                    && peakOf(come) <= limits[p]) {
                    int then = cost();
                    if (then < now && (best == null || then < best[2])) {
                        best = new int[] {c, p, then};
                    }
                }
                piece[c] = old;
            }
        }
        return best;
    }

    int better(int what) {
        must(what >= 0 && what <= 2);
        int[] best = bestMove();
        return best == null ? NONE : best[what];
    }

    int grow(int many) {
        must(many >= 0 && many <= 20);
        for (int i = 0; i < many; i++) {
            int[] best = bestMove();
            if (best == null) {
                return i;
            }
            piece[best[0]] = best[1];
        }
        return many;
    }

    // ---- region

    int region(int cell) {
        cellMust(cell);
        if (region.size() == 8) {
            return -1;
        }
        if (region.contains(cell)) {
            return -2;
        }
        region.add(cell);
        return region.size();
    }

    int parted(int m, int what) {
        must(m >= 1 && m <= 3 && what >= -2 && what <= 7);
        int n = region.size();
        if (n == 0 || what >= n) {
            return NONE;
        }
        Map<Set<Integer>, int[]> known = new HashMap<>();
        int[] best = null;
        int[] bestHeaps = null;
        int all = 1;
        for (int i = 0; i < n; i++) {
            all *= m;
        }
        for (int code = 0; code < all; code++) {
            int[] heap = new int[n];
            int rest = code;
            for (int i = n - 1; i >= 0; i--) {
                heap[i] = rest % m;
                rest /= m;
            }
            int seen = 0;
            boolean named = true;
            for (int h : heap) {
                named &= h <= seen;
                seen = Math.max(seen, h + 1);
            }
            if (!named) {
                continue;
            }
            int peak = Integer.MIN_VALUE;
            int over = 0;
            boolean good = true;
            for (int h = 0; h < seen && good; h++) {
                Set<Integer> set = new HashSet<>();
                for (int i = 0; i < n; i++) {
                    if (heap[i] == h) {
                        set.add(region.get(i));
                    }
                }
                int[] is = known.get(set);
                if (is == null) {
                    is = new int[] {hangs(set) ? 1 : 0, 0, 0};
                    if (is[0] == 1) {
                        is[1] = peakOf(set);
                        for (int q = 0; q < 24; q++) {
                            is[2] += hear(set, streams, mostsIn(q), 1).over;
                        }
                    }
                    known.put(set, is);
                }
                good = is[0] == 1;
                peak = Math.max(peak, is[1]);
                over += is[2];
            }
            if (good && (best == null || peak < best[0] || peak == best[0] && over < best[1])) {
                best = new int[] {peak, over};
                bestHeaps = heap;
            }
        }
        return best == null ? NONE : what < 0 ? best[-1 - what] : bestHeaps[what];
    }

    int clear() {
        int n = region.size();
        region.clear();
        return n;
    }

    // ---- configurations

    int configure(int groups) {
        must(groups >= 0 && groups < 16777216);
        if (configurations.size() == 6) {
            return -1;
        }
        int[] row = new int[8];
        for (int p = 0; p < 8; p++) {
            row[p] = groups % 8;
            groups /= 8;
        }
        configurations.add(row);
        return configurations.size() - 1;
    }

    private int needOf(int c, int q) {
        int need = 0;
        for (int g = 0; g < 8; g++) {
            Set<Integer> set = new HashSet<>();
            int least = NONE;
            int many = 0;
            for (int p = 0; p < 8; p++) {
                if (configurations.get(c)[p] == g && !cellsOf(p).isEmpty()) {
                    set.addAll(cellsOf(p));
                    least = least == NONE ? p : least;
                    many++;
                }
            }
            if (many == 0) {
                continue;
            }
            need++;
            Heard h = hear(set, streams, mostsIn(q), many);
            if (loadOf(h) > limits[least]) {
                return NONE;
            }
            for (Node join : joins) {
                if (many > 1 && join.value(h) == 0) {
                    return NONE;
                }
            }
        }
        return need;
    }

    int pairs(int c, int q) {
        if (c < 0 || c >= configurations.size()) {
            throw new NoSuchElementException();
        }
        quarterMust(q);
        return needOf(c, q);
    }

    int busy(int v) {
        must(v >= 0 && v <= 100000);
        int was = busySum;
        busySum = v;
        return was;
    }

    private boolean isBusy(int q) {
        int sum = 0;
        for (int p = 0; p < 8; p++) {
            if (!cellsOf(p).isEmpty()) {
                sum += loadOf(cellsOf(p), q);
            }
        }
        return sum > busySum;
    }

    static final class Path {
        int pairs;
        int changes;
        List<Integer> line = new ArrayList<>();

        boolean beats(Path o) {
            if (o == null || pairs != o.pairs || changes != o.changes) {
                return o == null || (pairs != o.pairs ? pairs < o.pairs : changes < o.changes);
            }
            for (int i = 0; i < line.size(); i++) {
                if (!line.get(i).equals(o.line.get(i))) {
                    return line.get(i) < o.line.get(i);
                }
            }
            return false;
        }
    }

    /** From the left: of each configuration and number of changes the best beginning. */
    Path bestPath(int m) {
        int n = configurations.size();
        Path[][] best = new Path[n][24];
        for (int q = 0; q < 24; q++) {
            Path[][] next = new Path[n][24];
            boolean busy = isBusy(q);
            for (int c = 0; c < n; c++) {
                int need = needOf(c, q);
                for (int k = 0; k <= m && need != NONE; k++) {
                    for (int b = 0; b < n; b++) {
                        int was = b == c ? k : k - 1;
                        Path from = q == 0 ? (b == c && k == 0 ? new Path() : null)
                            : was < 0 || b != c && busy ? null : best[b][was];
                        if (from != null) {
                            Path to = new Path();
                            to.pairs = from.pairs + need;
                            to.changes = k;
                            to.line.addAll(from.line);
                            to.line.add(c);
                            if (to.beats(next[c][k])) {
                                next[c][k] = to;
                            }
                        }
                    }
                }
            }
            best = next;
        }
        Path all = null;
        for (Path[] row : best) {
            for (Path p : row) {
                if (p != null && p.beats(all)) {
                    all = p;
                }
            }
        }
        return all;
    }

    int plan(int m, int what) {
        must(m >= 0 && m <= 23 && what >= -2 && what <= 23);
        Path p = bestPath(m);
        return p == null ? NONE : what == -1 ? p.pairs : what == -2 ? p.changes : p.line.get(what);
    }

    // ---- rotas

    int hours(int what, int v) {
        must(what == 0 && v >= 1 && v <= 24 || what == 1 && v >= 1 && v <= 8);
        int was = what == 0 ? work : rest;
        if (what == 0) {
            work = v;
        } else {
            rest = v;
        }
        return was;
    }

    int ill(int pair, int q) {
        if (pair < 0 || pair > 7) {
            throw new IndexOutOfBoundsException();
        }
        must(q >= 0 && q <= 24);
        int was = ill[pair];
        ill[pair] = q;
        return was;
    }

    /** 24 rows of bits, and what is wanting at the end; null without a plan. */
    int[] rotaOf(int n, int m) {
        Path path = bestPath(m);
        if (path == null) {
            return null;
        }
        int[] out = new int[25];
        boolean[][] on = new boolean[8][24];
        int[] total = new int[8];
        for (int q = 0; q < 24; q++) {
            final int quarter = q;
            int need = needOf(path.line.get(q), q);
            List<Integer> going = new ArrayList<>();
            List<Integer> ready = new ArrayList<>();
            for (int p = 0; p < n; p++) {
                int back = q - 1;
                while (back >= 0 && on[p][back]) {
                    back--;
                }
                int onEnd = q - 1 - back;
                // The quarters since the last watch ended.
                int last = q - 1;
                while (last >= 0 && !on[p][last]) {
                    last--;
                }
                boolean rested = last < 0 || q - 1 - last >= rest;
                if (quarter >= ill[p]) {
                    continue;
                }
                if (onEnd > 0 && onEnd < work) {
                    going.add(p);
                } else if (onEnd == 0 && rested) {
                    ready.add(p);
                }
            }
            java.util.Comparator<Integer> order = (a, b) -> total[a] != total[b] ? total[a] - total[b] : a - b;
            going.sort(order);
            ready.sort(order);
            going.addAll(ready);
            for (int i = 0; i < need; i++) {
                if (i < going.size()) {
                    on[going.get(i)][q] = true;
                    out[q] |= 1 << going.get(i);
                } else {
                    out[24]++;
                }
            }
            for (int p = 0; p < 8; p++) {
                total[p] += on[p][q] ? 1 : 0;
            }
        }
        return out;
    }

    int rota(int n, int m, int q) {
        must(n >= 1 && n <= 8 && m >= 0 && m <= 23);
        quarterMust(q);
        int[] all = rotaOf(n, m);
        return all == null ? NONE : all[q];
    }

    int lacks(int n, int m) {
        must(n >= 1 && n <= 8 && m >= 0 && m <= 23);
        int[] all = rotaOf(n, m);
        return all == null ? NONE : all[24];
    }

    int enough(int m) {
        must(m >= 0 && m <= 23);
        for (int n = 1; n <= 8; n++) {
            if (lacks(n, m) == 0) {
                return n;
            }
        }
        return NONE;
    }

    // ---- storms

    boolean storm(int cell, boolean is) {
        cellMust(cell);
        return is ? !storm.add(cell) : storm.remove(cell);
    }

    int mends(int q, int held, int refused, int what) {
        quarterMust(q);
        must(held >= 0 && held <= 8 && refused >= 0 && refused <= 8 && what >= -2 && what <= 11);
        List<Integer> hit = new ArrayList<>();
        int bits = 0;
        for (int s = 0; s < streams.size(); s++) {
            boolean struck = false;
            for (int c : streams.get(s).way) {
                struck |= storm.contains(c);
            }
            if (struck && streams.get(s).most(q) > 0) {
                hit.add(s);
                bits |= 1 << s;
            }
        }
        if (what == -2) {
            return bits;
        }
        if (hit.size() > 8) {
            return NONE;
        }
        List<List<Integer>> rounds = new ArrayList<>();
        for (int s : hit) {
            rounds.add(roundOf(streams.get(s).way));
        }
        int bestMinutes = Integer.MAX_VALUE;
        int[] best = null;
        Map<Integer, Boolean> known = new HashMap<>();
        int all = (int) Math.round(Math.pow(3, hit.size()));
        for (int code = 0; code < all; code++) {
            int[] mend = new int[hit.size()];
            int rest = code;
            for (int i = mend.length - 1; i >= 0; i--) {
                mend[i] = rest % 3 + 1;
                rest /= 3;
            }
            int minutes = 0;
            int heldNow = 0;
            int refusedNow = 0;
            int roundBits = 0;
            boolean good = true;
            for (int i = 0; i < mend.length; i++) {
                int most = streams.get(hit.get(i)).most(q);
                if (mend[i] == 1) {
                    good &= rounds.get(i) != null;
                    roundBits |= 1 << i;
                    minutes += rounds.get(i) == null ? 0
                        : 2 * most * Math.max(0, rounds.get(i).size() - streams.get(hit.get(i)).way.size());
                } else if (mend[i] == 2) {
                    heldNow++;
                    minutes += 15 * most;
                } else {
                    refusedNow++;
                    minutes += 60 * most;
                }
            }
            if (!good || heldNow > held || refusedNow > refused || minutes >= bestMinutes) {
                continue;
            }
            if (!known.containsKey(roundBits)) {
                known.put(roundBits, noneFull(q, hit, rounds, roundBits));
            }
            if (known.get(roundBits)) {
                bestMinutes = minutes;
                best = mend;
            }
        }
        if (best == null) {
            return NONE;
        }
        return what == -1 ? bestMinutes : hit.contains(what) ? best[hit.indexOf(what)] : 0;
    }

    private boolean noneFull(int q, List<Integer> hit, List<List<Integer>> rounds, int roundBits) {
        List<Stream> then = new ArrayList<>();
        int[] mosts = mostsIn(q);
        for (int s = 0; s < streams.size(); s++) {
            Stream made = new Stream();
            made.way = streams.get(s).way;
            int i = hit.indexOf(s);
            if (i >= 0 && (roundBits >> i & 1) == 1) {
                made.way = rounds.get(i);
            } else if (i >= 0) {
                mosts[s] = 0;
            }
            then.add(made);
        }
        for (int p = 0; p < 8; p++) {
            Set<Integer> set = cellsOf(p);
            if (!set.isEmpty() && loadOf(hear(set, then, mosts, 1)) > limits[p]) {
                return false;
            }
        }
        return true;
    }

    /** Layer by layer from the first cell, keeping for each cell the first of its shortest ways. */
    private List<Integer> roundOf(List<Integer> way) {
        int first = way.get(0);
        int last = way.get(way.size() - 1);
        if (storm.contains(first) || storm.contains(last)) {
            return null;
        }
        Map<Integer, List<Integer>> best = new HashMap<>();
        best.put(first, List.of(first));
        List<Integer> front = List.of(first);
        while (!best.containsKey(last) && !front.isEmpty()) {
            Map<Integer, List<Integer>> next = new HashMap<>();
            for (int c : front) {
                for (int b : besides(c)) {
                    if (!storm.contains(b) && !best.containsKey(b)) {
                        List<Integer> longer = new ArrayList<>(best.get(c));
                        longer.add(b);
                        if (!next.containsKey(b) || before(longer, next.get(b))) {
                            next.put(b, longer);
                        }
                    }
                }
            }
            best.putAll(next);
            front = new ArrayList<>(next.keySet());
        }
        List<Integer> found = best.get(last);
        return found == null || found.size() > 24 ? null : found;
    }

    private static boolean before(List<Integer> a, List<Integer> b) {
        for (int i = 0; i < a.size(); i++) {
            if (!a.get(i).equals(b.get(i))) {
                return a.get(i) < b.get(i);
            }
        }
        return false;
    }

    // ---- fits

    int did(int p, int q, int done, boolean back) {
        pieceMust(p);
        quarterMust(q);
        must(done >= 0 && done <= 9999);
        if (rows.size() == 40) {
            return -1;
        }
        Heard h = hear(cellsOf(p), streams, mostsIn(q), 1);
        Row row = new Row();
        row.work = done;
        row.back = back;
        row.heard = new int[] {h.ways, h.cross, h.over, h.climb};
        rows.add(row);
        return rows.size() - 1;
    }

    private int offOf(int[] w, boolean back) {
        int sum = 0;
        for (Row row : rows) {
            if (row.back == back) {
                int v = w[0] * row.heard[0] + w[1] * row.heard[1] + w[2] * row.heard[2] + w[3] * row.heard[3];
                sum += Math.abs(row.work - v);
            }
        }
        return sum;
    }

    int fit(int what) {
        must(what >= 0 && what <= 5);
        boolean any = false;
        for (Row row : rows) {
            any |= !row.back;
        }
        if (!any) {
            return NONE;
        }
        int[] best = null;
        for (int a = 0; a < 5; a++) {
            for (int b = 0; b < 5; b++) {
                for (int c = 0; c < 5; c++) {
                    for (int d = 0; d < 5; d++) {
                        int[] w = {a, b, c, d};
                        if (best == null || offOf(w, false) < offOf(best, false)) {
                            best = w;
                        }
                    }
                }
            }
        }
        return what < 4 ? best[what] : offOf(best, what == 5);
    }

    // ---- leads, worths, marks

    int lead(int p, int q, int k, boolean part) {
        pieceMust(p);
        quarterMust(q);
        Set<Integer> set = cellsOf(p);
        int all = loadOf(set, q);
        List<int[]> parts = new ArrayList<>();
        for (int s = 0; s < streams.size(); s++) {
            int[] mosts = mostsIn(q);
            mosts[s] = 0;
            int v = all - loadOf(hear(set, streams, mosts, 1));
            if (v != 0) {
                parts.add(new int[] {s, v});
            }
        }
        parts.sort((a, b) -> a[1] != b[1] ? Integer.compare(b[1], a[1]) : a[0] - b[0]);
        return k >= 0 && k < parts.size() ? parts.get(k)[part ? 1 : 0] : NONE;
    }

    int worth(int cell, int p) {
        cellMust(cell);
        pieceMust(p);
        must(piece[cell] != NONE && piece[cell] != p);
        int now = cost();
        int old = piece[cell];
        piece[cell] = p;
        int then = cost();
        piece[cell] = old;
        return now - then;
    }

    int quiet(int cell) {
        cellMust(cell);
        int sum = 0;
        for (Stream s : streams) {
            sum += s.way.contains(cell) ? Arrays.stream(s.counts).sum() : 0;
        }
        return sum;
    }

    int mark() {
        if (marks.size() == 4) {
            return -1;
        }
        marks.add(piece.clone());
        return marks.size();
    }

    int back() {
        if (marks.isEmpty()) {
            return -1;
        }
        piece = marks.remove(marks.size() - 1);
        return marks.size();
    }

    int count(int what) {
        int with = 0;
        int shut = 0;
        for (int p = 0; p < 8; p++) {
            with += cellsOf(p).isEmpty() ? 0 : 1;
        }
        for (int p : piece) {
            shut += p == NONE ? 1 : 0;
        }
        int[] all = {streams.size(), clauses, with, shut, region.size(), configurations.size(), rows.size(),
            storm.size(), marks.size(), tape.size()};
        return what >= 0 && what < all.length ? all[what] : NONE;
    }
}
