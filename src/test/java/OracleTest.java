import java.math.BigInteger;
import java.util.ArrayDeque;
import java.util.ArrayList;
import java.util.Arrays;
import java.util.HashMap;
import java.util.LinkedHashMap;
import java.util.List;
import java.util.Map;
import java.util.Random;
import java.util.TreeMap;

/**
 * Random runs of calls on the class and on a plain second build of the document, state by state and coin by coin:
 * every answer must be the same.
 */
public final class OracleTest {
    private static final int RUNS = 120;
    private static int wrong = 0;

    public static void main(String[] args) {
        int runs = args.length > 1 ? Integer.parseInt(args[1]) : RUNS;
        int from = args.length > 2 ? Integer.parseInt(args[2]) : 0;
        Map<String, int[]> seen = new TreeMap<>();
        for (int run = from; run < from + runs && wrong < 20; run++) {
            new Runner(run, seen).go();
        }
        for (Map.Entry<String, int[]> entry : seen.entrySet()) {
            int[] kinds = entry.getValue();
            if (kinds[0] == 0 && runs >= RUNS) {
                wrong++;
                System.out.println(entry.getKey() + " was never answered but by refusals");
            }
        }
        if (args.length > 3) {
            seen.forEach((name, kinds) -> System.out.println(name + " " + Arrays.toString(kinds)));
        }
        System.out.println(wrong == 0 ? "class and oracle agree" : wrong + " answers differ");
        if (wrong != 0) {
            System.exit(1);
        }
    }

    // ---------------------------------------------------------------- the runner

    private static final class Runner {
        final int run;
        final Random random;
        final Map<String, int[]> seen;
        final SueOrSettle x = new SueOrSettle();
        final Oracle o = new Oracle();
        final List<String> calls = new ArrayList<>();

        Runner(int run, Map<String, int[]> seen) {
            this.run = run;
            this.seen = seen;
            this.random = new Random(7919L * run + 1);
        }

        int below(int n) {
            return random.nextInt(n);
        }

        int within(int from, int to) {
            return from + random.nextInt(to - from + 1);
        }

        boolean chance(int percent) {
            return random.nextInt(100) < percent;
        }

        /** Mostly from .. to, at times beside it or anything. */
        int near(int from, int to) {
            int dice = below(60);
            if (dice == 0) {
                return from - 1;
            }
            if (dice == 1) {
                return to + 1;
            }
            if (dice == 2) {
                int[] wild = {Integer.MIN_VALUE, Integer.MAX_VALUE, -1, -100, 1000, random.nextInt()};
                return wild[below(wild.length)];
            }
            if (dice == 3) {
                return from;
            }
            if (dice == 4) {
                return to;
            }
            return within(from, to);
        }

        void due(String call, long got, long want) {
            String name = call.substring(0, call.indexOf('('));
            int[] kinds = seen.computeIfAbsent(name, k -> new int[2]);
            boolean refusal = want == Long.MIN_VALUE || want == -2000000000L || want >= -14 && want <= -1;
            kinds[refusal ? 1 : 0]++;
            calls.add(call);
            if (got != want) {
                wrong++;
                System.out.println("run " + run + ": " + call + " answered " + got + ", oracle " + want);
                if (wrong == 1) {
                    for (String each : calls) {
                        System.out.print(each + "; ");
                    }
                    System.out.println();
                }
            }
        }

        void go() {
            boolean big = chance(12);
            int many = big ? 4 : chance(10) ? 0 : within(1, 4);
            for (int i = 0; i < many; i++) {
                int ways = near(2, 3);
                due("thing(" + ways + ")", x.thing(ways), o.thing(ways));
                if (chance(40)) {
                    weight();
                }
                if (i > 0 && chance(big ? 90 : 50)) {
                    int thing = chance(80) ? i : near(0, i);
                    int on = near(0, i - 1);
                    due("hang(" + thing + ", " + on + ")", x.hang(thing, on), o.hang(thing, on));
                }
            }
            for (int i = 0; i < (big ? 60 : 12); i++) {
                weight();
            }
            for (int i = 0; i < 3; i++) {
                feeling();
            }
            for (int i = 0; i < 1 + below(4); i++) {
                tell();
            }
            for (int i = 0; i < 160; i++) {
                any();
            }
        }

        void weight() {
            int thing = near(0, Math.max(0, o.ways.size() - 1));
            boolean known = thing >= 0 && thing < o.ways.size();
            int row = near(0, known ? o.rows(thing) - 1 : 2);
            int way = near(0, known ? o.ways.get(thing) - 1 : 2);
            int v = chance(50) ? near(1, 6) : near(1, 99);
            due("weight(" + thing + ", " + row + ", " + way + ", " + v + ")", x.weight(thing, row, way, v),
                    o.weight(thing, row, way, v));
        }

        void feeling() {
            int kind = near(0, 5);
            int s = near(0, 100);
            due("feeling(" + kind + ", " + s + ")", x.feeling(kind, s), o.feeling(kind, s));
        }

        void tell() {
            String text = new Texts(random, o.ways).text();
            byte[] bytes = new byte[text.length()];
            for (int i = 0; i < bytes.length; i++) {
                bytes[i] = (byte) text.charAt(i);
            }
            for (int i = 0; i < bytes.length; ) {
                int n = Math.min(bytes.length - i, within(1, 4));
                int v = n < 4 ? random.nextInt() << 8 * n : 0;
                for (int k = 0; k < n; k++) {
                    v |= (bytes[i + k] & 255) << 8 * k;
                }
                due("feed(" + n + ", " + v + ")", x.feed(n, v), o.feed(n, v));
                i += n;
            }
            due("quarrel()", x.quarrel(), o.quarrel());
        }

        int q() {
            return near(0, Math.max(0, o.quarrels.size() - 1));
        }

        int f() {
            return near(0, Math.max(0, o.feelings.size() - 1));
        }

        int node(int q) {
            return near(0, q < 0 || q >= o.quarrels.size() ? 3 : o.quarrels.get(q).nodes.size() - 1);
        }

        int choice(int q) {
            if (q >= 0 && q < o.quarrels.size() && chance(80)) {
                List<Integer> found = new ArrayList<>();
                for (Node each : o.quarrels.get(q).nodes) {
                    if (each.kind == 1) {
                        found.add(each.number);
                    }
                }
                if (!found.isEmpty()) {
                    return found.get(below(found.size()));
                }
            }
            return node(q);
        }

        void any() {
            switch (below(12)) {
                case 0:
                    things();
                    break;
                case 1:
                    changes();
                    break;
                case 2:
                case 3:
                    plans();
                    break;
                case 4:
                case 5:
                    asking();
                    break;
                case 6:
                    tables();
                    break;
                case 7:
                    offers();
                    break;
                case 8:
                    daysAndRuns();
                    break;
                case 9:
                    acts();
                    break;
                case 10:
                    shelves();
                    break;
                default:
                    if (chance(15)) {
                        tell();
                    } else if (chance(20)) {
                        int ways = near(2, 3);
                        due("thing(" + ways + ")", x.thing(ways), o.thing(ways));
                        due("hang(1, 0)", x.hang(1, 0), o.hang(1, 0));
                    } else {
                        int what = near(0, 5);
                        due("count(" + what + ")", x.count(what), o.count(what));
                    }
            }
        }

        void things() {
            due("bottom()", x.bottom(), o.bottom());
            int codes = (1 << 2 * o.ways.size()) - 1;
            int state = near(0, codes);
            due("number(" + state + ")", x.number(state), o.number(state));
            int of = near(0, codes);
            int given = near(0, codes);
            if (chance(70)) {
                given = 0;
                of = 0;
                for (int t = 0; t < o.ways.size(); t++) {
                    given |= below(o.ways.get(t) + 1) << 2 * t;
                    of |= below(o.ways.get(t) + 1) << 2 * t;
                }
            }
            int what = near(0, 1);
            due("chance(" + of + ", " + given + ", " + what + ")", x.chance(of, given, what), o.chance(of, given, what));
            if (chance(50)) {
                weight();
            }
        }

        void changes() {
            int q = q();
            int node = node(q);
            int what = chance(30) ? near(0, 3) : near(10, 13) + (chance(40) ? 10 : 0);
            due("node(" + q + ", " + node + ", " + what + ")", x.node(q, node, what), o.node(q, node, what));
            int kind = o.node(q, node, 0);
            int way = kind == 0 && chance(80) ? -1 : near(0, 2);
            int v = way == -1 ? chance(50) ? near(-99, 99) : near(-999, 999) : near(0, 99);
            if (chance(60)) {
                due("change(" + q + ", " + node + ", " + way + ", " + v + ")", x.change(q, node, way, v),
                        o.change(q, node, way, v));
            }
            for (int i = 0; i < below(4); i++) {
                if (chance(60)) {
                    due("undo()", x.undo(), o.undo());
                } else {
                    due("redo()", x.redo(), o.redo());
                }
            }
            if (chance(4)) {
                for (int i = 0; i < 45; i++) {
                    weight();
                }
                for (int i = 0; i < 43; i++) {
                    due("undo()", x.undo(), o.undo());
                }
            }
        }

        void plans() {
            if (chance(10)) {
                feeling();
            }
            if (chance(8)) {
                int start = chance(80) ? near(-200, 300) : near(-9999, 9999);
                int each = near(0, 9);
                due("step(" + start + ", " + each + ")", x.step(start, each), o.step(start, each));
            }
            int q = q();
            int f = f();
            int what = near(0, 2);
            if (chance(30)) {
                int v = chance(80) ? near(-300, 300) : near(-9999, 9999);
                due("counts(" + f + ", " + v + ")", x.counts(f, v), o.counts(f, v));
            }
            due("best(" + q + ", " + f + ", " + what + ")", x.best(q, f, what), o.best(q, f, what));
            for (int i = 0; i < below(4); i++) {
                int node = choice(q);
                int way = near(-1, 2);
                due("plan(" + q + ", " + node + ", " + way + ")", x.plan(q, node, way), o.plan(q, node, way));
            }
            what = near(0, 1);
            f = f();
            due("judge(" + q + ", " + f + ", " + what + ")", x.judge(q, f, what), o.judge(q, f, what));
            due("shortOf(" + q + ", " + f + ")", x.shortOf(q, f), o.shortOf(q, f));
            int node = choice(q);
            int way = near(0, 2);
            due("fork(" + q + ", " + node + ", " + way + ", " + what + ")", x.fork(q, node, way, what),
                    o.fork(q, node, way, what));
            int i = near(-1, 2);
            due("tell(" + q + ", " + i + ")", x.tell(q, i), o.tell(q, i));
        }

        void asking() {
            int q = q();
            int last = Math.max(0, o.ways.size() - 1);
            int thing = near(-1, last);
            int what = near(0, 1);
            due("ask(" + q + ", " + thing + ", " + what + ")", x.ask(q, thing, what), o.ask(q, thing, what));
            thing = near(0, last);
            int other = near(0, last);
            due("together(" + q + ", " + thing + ", " + other + ", " + what + ")", x.together(q, thing, other, what),
                    o.together(q, thing, other, what));
            due("first(" + q + ")", x.first(q), o.first(q));
            int at = 100 * near(0, last) + 10 * (chance(60) ? 0 : near(0, 2)) + near(0, 2);
            int up = near(0, 1);
            due("edge(" + q + ", " + at + ", " + up + ")", x.edge(q, at, up), o.edge(q, at, up));
            int node = chance(50) ? choice(q) : node(q);
            int way = o.node(q, node, 0) == 0 ? near(-1, -1) : near(0, 1);
            due("edgeOf(" + q + ", " + node + ", " + way + ", " + up + ")", x.edgeOf(q, node, way, up),
                    o.edgeOf(q, node, way, up));
            if (chance(15)) {
                due("most(" + q + ")", x.most(q), o.most(q));
            }
            if (chance(30)) {
                int a = within(1, 99);
                int ab = chance(15) ? near(101, 9999) : 100 * a + within(a, Math.min(99, a + below(40)));
                due("doubt(" + q + ", " + thing + ", " + ab + ", " + what + ")", x.doubt(q, thing, ab, what),
                        o.doubt(q, thing, ab, what));
                due("worst(" + q + ", " + thing + ", " + ab + ", " + what + ")", x.worst(q, thing, ab, what),
                        o.worst(q, thing, ab, what));
            }
        }

        void tables() {
            int rows = near(1, 4);
            int columns = near(1, 4);
            if (chance(35)) {
                rows = 2;
                columns = 2;
            }
            due("table(" + rows + ", " + columns + ")", x.table(rows, columns), o.table(rows, columns));
            boolean duel = chance(60);
            int size = chance(70) ? 3 : 99;
            for (int r = 0; r < 4; r++) {
                for (int c = 0; c < 4; c++) {
                    if (r < rows && c < columns || chance(2)) {
                        int v = near(-size, size);
                        cell(10 * r + c, 0, v);
                        cell(10 * r + c, 1, duel ? -v : near(-size, size));
                    }
                }
            }
            int i = near(-1, 2);
            due("sure(" + i + ")", x.sure(i), o.sure(i));
            due("sure(-1)", x.sure(-1), o.sure(-1));
            int what = near(0, 1);
            due("lots(" + what + ")", x.lots(what), o.lots(what));
            due("lots(1)", x.lots(1), o.lots(1));
            due("struck(" + what + ")", x.struck(what), o.struck(what));
        }

        void cell(int cell, int side, int v) {
            due("cell(" + cell + ", " + side + ", " + v + ")", x.cell(cell, side, v), o.cell(cell, side, v));
        }

        void offers() {
            if (chance(30)) {
                due("clear()", x.clear(), o.clear());
            }
            for (int i = 0; i < below(4); i++) {
                int weight = near(1, 9);
                int win = near(0, 99);
                int cost = chance(50) ? near(0, 20) : near(0, 99);
                due("sort(" + weight + ", " + win + ", " + cost + ")", x.sort(weight, win, cost),
                        o.sort(weight, win, cost));
                int sum = chance(50) ? near(0, 30) : near(0, 99);
                due("offer(" + sum + ")", x.offer(sum), o.offer(sum));
            }
            for (int what = 0; what <= 2; what++) {
                int d = near(0, 99);
                due("holds(" + d + ", " + what + ")", x.holds(d, what), o.holds(d, what));
            }
            for (int i = 0; i < below(3); i++) {
                int cost = near(0, 99);
                int hundredths = near(0, 100);
                due("effort(" + cost + ", " + hundredths + ")", x.effort(cost, hundredths), o.effort(cost, hundredths));
            }
            int won = near(0, 999);
            for (int what = 3; what >= -1; what--) {
                if (what >= 0 || chance(20)) {
                    due("hired(" + won + ", " + what + ")", x.hired(won, what), o.hired(won, what));
                }
            }
        }

        void daysAndRuns() {
            for (int i = 0; i < below(4); i++) {
                int day = near(0, 19);
                int offer = near(0, 999);
                int hundredths = near(0, 100);
                int cost = near(0, 99);
                due("day(" + day + ", " + offer + ", " + hundredths + ", " + cost + ")",
                        x.day(day, offer, hundredths, cost), o.day(day, offer, hundredths, cost));
            }
            int many = near(1, 20);
            int dayOf = 100 * near(0, Math.max(0, Math.min(19, many - 1))) + many;
            int court = near(-999, 999);
            for (int what = 0; what <= 1; what++) {
                due("waits(" + dayOf + ", " + court + ", " + what + ")", x.waits(dayOf, court, what),
                        o.waits(dayOf, court, what));
            }
            int q = q();
            int seed = random.nextInt();
            int n = near(1, 200);
            due("run(" + q + ", " + seed + ", " + n + ")", x.run(q, seed, n), o.run(q, seed, n));
        }

        void acts() {
            int f = f();
            int act = near(0, 3);
            int v = chance(50) ? near(-50, 50) : random.nextInt();
            due("act(" + f + ", " + act + ", " + v + ")", x.act(f, act, v), o.act(f, act, v));
            for (int i = -1; i < 12; i++) {
                due("trace(" + i + ")", x.trace(i), o.trace(i));
            }
            due("count(5)", x.count(5), o.count(5));
        }

        void shelves() {
            int shelf = near(0, 5);
            if (chance(40)) {
                int sort = near(0, 4);
                int n = chance(80) ? near(0, 9) : near(0, 60);
                due("row(" + shelf + ", " + sort + ", " + n + ")", x.row(shelf, sort, n), o.row(shelf, sort, n));
            }
            if (chance(15)) {
                int f = chance(30) ? -1 : f();
                due("keep(" + shelf + ", " + f + ")", x.keep(shelf, f), o.keep(shelf, f));
            }
            for (int i = 0; i < below(6); i++) {
                int at = near(0, 9);
                long v = chance(40) ? near(0, 90) : random.nextLong() >> below(64);
                due("put(" + shelf + ", " + at + ", " + v + ")", x.put(shelf, at, v), o.put(shelf, at, v));
                at = near(0, 9);
                due("element(" + shelf + ", " + at + ")", x.element(shelf, at), o.element(shelf, at));
            }
            int other = chance(50) ? shelf : near(0, 5);
            int i = near(0, 6);
            int j = near(0, 6);
            int n = near(0, 4);
            due("shift(" + shelf + ", " + i + ", " + other + ", " + j + ", " + n + ")", x.shift(shelf, i, other, j, n),
                    o.shift(shelf, i, other, j, n));
            for (int at = 0; at < 9; at++) {
                due("element(" + other + ", " + at + ")", x.element(other, at), o.element(other, at));
            }
            int k = near(0, 5);
            due("taken(" + shelf + ", " + k + ")", x.taken(shelf, k), o.taken(shelf, k));
            if (chance(60)) {
                row();
            }
        }

        void row() {
            int shelf = within(0, 5);
            int n = within(0, 30);
            due("row(" + shelf + ", 1, " + n + ")", x.row(shelf, 1, n), o.row(shelf, 1, n));
            for (int i = 0; i < n; i++) {
                int v = i % 3 == 0 ? near(0, 999) : i % 3 == 1 ? near(0, 100) : near(0, 99);
                due("put(" + shelf + ", " + i + ", " + v + ")", x.put(shelf, i, v), o.put(shelf, i, v));
            }
            int at = near(0, 3);
            int many = near(1, 20);
            int where = chance(80) ? shelf : near(0, 5);
            due("days(" + where + ", " + at + ", " + many + ")", x.days(where, at, many), o.days(where, at, many));
            for (int day = 0; day < 12; day++) {
                int dayOf = 100 * day + day + 1;
                due("waits(" + dayOf + ", 77, 1)", x.waits(dayOf, 77, 1), o.waits(dayOf, 77, 1));
            }
        }
    }

    /** Texts of quarrels, some of them with a fault put in. */
    private static final class Texts {
        final Random random;
        final List<Integer> ways;
        final boolean wild;

        Texts(Random random, List<Integer> ways) {
            this.random = random;
            this.ways = ways;
            this.wild = random.nextInt(100) < 8;
        }

        String text() {
            StringBuilder text = new StringBuilder();
            int tellings = random.nextInt(10) < 5 ? 0 : 1 + random.nextInt(random.nextInt(8) == 0 ? 6 : 3);
            for (int i = 0; i < tellings; i++) {
                text.append((char) ('A' + i)).append('=');
                node(text, 2 + random.nextInt(2), 0, i);
                text.append(';');
            }
            if (random.nextInt(12) == 0) {
                for (int i = 0; i < 9 + random.nextInt(5); i++) {
                    text.append("?(1:");
                }
            }
            if (random.nextInt(3) == 0) {
                node(text, random.nextInt(3) == 0 ? 4 : 3, 0, tellings);
            } else {
                text.append("?(").append(random.nextInt(9)).append(':');
                node(text, 2, 0, tellings);
                text.append(',').append(random.nextInt(9)).append(':');
                node(text, 3, 0, tellings);
            }
            closeAll(text);
            if (random.nextInt(100) < 25) {
                spoil(text);
            }
            return text.length() > 200 ? text.substring(0, 200) : text.toString();
        }

        void closeAll(StringBuilder text) {
            int open = 0;
            for (int i = 0; i < text.length(); i++) {
                open += text.charAt(i) == '(' ? 1 : text.charAt(i) == ')' ? -1 : 0;
            }
            for (int i = 0; i < open; i++) {
                text.append(')');
            }
        }

        void spoil(StringBuilder text) {
            String signs = "()?!:,;=-0123456789abcdeABCDEFG \u00e9";
            for (int i = 0; i <= random.nextInt(2); i++) {
                int at = random.nextInt(text.length() + 1);
                char sign = signs.charAt(random.nextInt(signs.length()));
                int how = random.nextInt(4);
                if (how == 0 || at == text.length()) {
                    text.insert(at, sign);
                } else if (how == 1) {
                    text.setCharAt(at, sign);
                } else if (how == 2) {
                    text.deleteCharAt(at);
                } else {
                    text.setLength(at);
                }
            }
        }

        void node(StringBuilder text, int deep, int turned, int told) {
            int dice = random.nextInt(10);
            List<Integer> left = new ArrayList<>();
            for (int t = 0; t < ways.size(); t++) {
                if ((turned >> t & 1) == 0 || wild) {
                    left.add(t);
                }
            }
            if (deep == 0 || dice == 0) {
                if (random.nextInt(4) == 0) {
                    text.append('-');
                }
                text.append(random.nextInt(random.nextInt(8) == 0 ? 1000 : 60));
            } else if (told > 0 && dice < 4 && (turned == 0 || wild || dice == 1)) {
                text.append((char) ('A' + random.nextInt(told)));
            } else if (dice < 7 && !left.isEmpty()) {
                int t = left.get(random.nextInt(left.size()));
                text.append('!').append((char) ('a' + t)).append('(');
                for (int way = 0; way < ways.get(t); way++) {
                    text.append(way > 0 ? "," : "");
                    node(text, deep - 1, turned | 1 << t, told);
                }
                text.append(')');
            } else {
                text.append("?(");
                int many = 1 + random.nextInt(random.nextInt(5) == 0 ? 4 : 3);
                for (int way = 0; way < many; way++) {
                    text.append(way > 0 ? "," : "").append(random.nextInt(random.nextInt(3) == 0 ? 100 : 10)).append(':');
                    node(text, deep - 1, turned, told);
                }
                text.append(')');
            }
        }
    }

    // ---------------------------------------------------------------- the oracle

    private static final class Node {
        int kind;
        int what;
        int number;
        final List<Node> kids = new ArrayList<>();
        final List<Integer> costs = new ArrayList<>();

        Node copy() {
            Node copied = new Node();
            copied.kind = kind;
            copied.what = what;
            copied.costs.addAll(costs);
            for (Node kid : kids) {
                copied.kids.add(kid.copy());
            }
            return copied;
        }

        int size() {
            int sum = 1;
            for (Node kid : kids) {
                sum += kid.size();
            }
            return sum;
        }

        int deep() {
            int most = 0;
            for (Node kid : kids) {
                most = Math.max(most, 1 + kid.deep());
            }
            return most;
        }

        boolean has(int turned) {
            if (kind == 2 && (turned >> what & 1) == 1) {
                return true;
            }
            for (Node kid : kids) {
                if (kid.has(turned)) {
                    return true;
                }
            }
            return false;
        }
    }

    private static final class Tree {
        final List<Node> nodes = new ArrayList<>();
        final Map<Node, Integer> judged = new LinkedHashMap<>();

        Tree(Node root) {
            number(root);
        }

        void number(Node node) {
            node.number = nodes.size();
            nodes.add(node);
            if (node.kind == 1) {
                judged.put(node, 0);
            }
            for (Node kid : node.kids) {
                number(kid);
            }
        }
    }

    private static final class Fault extends RuntimeException {
        private static final long serialVersionUID = 1;
        final int place;

        Fault(int place) {
            super(null, null, false, false);
            this.place = place;
        }
    }

    private static final class Parser {
        final String text;
        final List<Integer> ways;
        final List<Node> told = new ArrayList<>();
        int at = 0;

        Parser(String text, List<Integer> ways) {
            this.text = text;
            this.ways = ways;
        }

        char next() {
            return at < text.length() ? text.charAt(at) : 0xffff;
        }

        void want(char sign) {
            if (next() != sign) {
                throw new Fault(at);
            }
            at++;
        }

        Node all() {
            while (told.size() < 6 && next() == 'A' + told.size()) {
                at++;
                want('=');
                Node node = node(0, 0);
                want(';');
                told.add(node);
            }
            Node last = node(0, 0);
            if (at < text.length()) {
                throw new Fault(at);
            }
            return last;
        }

        int digits(int most) {
            int from = at;
            while (at < text.length() && at < from + most && next() >= '0' && next() <= '9') {
                at++;
            }
            if (at == from) {
                throw new Fault(at);
            }
            return Integer.parseInt(text.substring(from, at));
        }

        void open(int open) {
            if (open == 12) {
                throw new Fault(at);
            }
            want('(');
        }

        Node node(int open, int turned) {
            Node node = new Node();
            char sign = next();
            if (sign == '?') {
                at++;
                open(open);
                node.kind = 1;
                do {
                    if (!node.kids.isEmpty()) {
                        at++;
                    }
                    node.costs.add(digits(2));
                    want(':');
                    node.kids.add(node(open + 1, turned));
                } while (node.kids.size() < 4 && next() == ',');
                want(')');
            } else if (sign == '!') {
                at++;
                int thing = next() - 'a';
                if (thing < 0 || thing >= ways.size() || (turned >> thing & 1) == 1) {
                    throw new Fault(at);
                }
                at++;
                open(open);
                node.kind = 2;
                node.what = thing;
                for (int way = 0; way < ways.get(thing); way++) {
                    if (way > 0) {
                        want(',');
                    }
                    node.costs.add(0);
                    node.kids.add(node(open + 1, turned | 1 << thing));
                }
                want(')');
            } else if (sign >= 'A' && sign <= 'F') {
                int capital = sign - 'A';
                if (capital >= told.size() || told.get(capital).has(turned) || open + told.get(capital).deep() > 12) {
                    throw new Fault(at);
                }
                at++;
                // A node that is far too big need not be copied: its size alone is asked then.
                return told.get(capital).size() > 200 ? told.get(capital) : told.get(capital).copy();
            } else {
                boolean minus = sign == '-';
                if (minus) {
                    at++;
                }
                node.what = digits(3) * (minus ? -1 : 1);
            }
            return node;
        }
    }

    private static final class Oracle {
        static final long NONE = Long.MIN_VALUE;
        static final int VOID = -2000000000;
        final List<Integer> ways = new ArrayList<>();
        final List<Integer> on = new ArrayList<>();
        final Map<String, Integer> weights = new HashMap<>();
        final List<Tree> quarrels = new ArrayList<>();
        final StringBuilder tape = new StringBuilder();
        final List<int[]> feelings = new ArrayList<>();
        final List<int[]> steps = new ArrayList<>();
        final Map<Integer, Integer> felt = new HashMap<>();
        final ArrayDeque<Runnable[]> done = new ArrayDeque<>();
        final ArrayDeque<Runnable[]> undone = new ArrayDeque<>();
        final List<Integer> trace = new ArrayList<>();
        int[][][] table = null;
        final List<int[]> sorts = new ArrayList<>();
        final List<Integer> offers = new ArrayList<>();
        final List<int[]> efforts = new ArrayList<>();
        final int[][] days = new int[20][3];
        final Object[] shelves = new Object[6];

        // ---- things

        int thing(int n) {
            if (n != 2 && n != 3) {
                return -1;
            }
            if (!quarrels.isEmpty()) {
                return -5;
            }
            if (ways.size() == 4) {
                return -3;
            }
            ways.add(n);
            on.add(-1);
            return ways.size() - 1;
        }

        int hang(int t, int other) {
            if (t < 0 || t >= ways.size() || other < 0 || other >= t) {
                return -1;
            }
            if (on.get(t) >= 0 || !quarrels.isEmpty()) {
                return -5;
            }
            on.set(t, other);
            weights.keySet().removeIf(key -> key.startsWith(t + "/"));
            done.clear();
            undone.clear();
            return 1;
        }

        int rows(int t) {
            return on.get(t) < 0 ? 1 : ways.get(on.get(t));
        }

        int get(int t, int row, int way) {
            return weights.getOrDefault(t + "/" + row + "/" + way, 1);
        }

        boolean isWeight(int t, int row, int way) {
            return t >= 0 && t < ways.size() && row >= 0 && row < rows(t) && way >= 0 && way < ways.get(t);
        }

        int weight(int t, int row, int way, int v) {
            if (!isWeight(t, row, way) || v < 1 || v > 99) {
                return -1;
            }
            int was = get(t, row, way);
            String key = t + "/" + row + "/" + way;
            did(() -> weights.put(key, was), () -> weights.put(key, v));
            return was;
        }

        void did(Runnable back, Runnable again) {
            again.run();
            undone.clear();
            done.addLast(new Runnable[] {back, again});
            if (done.size() > 40) {
                done.removeFirst();
            }
        }

        int sum(int t, int row) {
            int sum = 0;
            for (int way = 0; way < ways.get(t); way++) {
                sum += get(t, row, way);
            }
            return sum;
        }

        BigInteger common(int t) {
            BigInteger all = BigInteger.ONE;
            for (int row = 0; row < rows(t); row++) {
                BigInteger sum = BigInteger.valueOf(sum(t, row));
                all = all.multiply(sum).divide(all.gcd(sum));
            }
            return all;
        }

        long bottom() {
            BigInteger all = BigInteger.ONE;
            for (int t = 0; t < ways.size(); t++) {
                all = all.multiply(common(t));
            }
            return all.compareTo(BigInteger.valueOf(1000000000000L)) > 0 ? -4 : all.longValueExact();
        }

        boolean isBig() {
            return bottom() == -4;
        }

        static int digit(int code, int t) {
            return code >>> 2 * t & 3;
        }

        List<Integer> states() {
            List<Integer> all = new ArrayList<>();
            for (int state = 0; state < 256; state++) {
                if (isState(state)) {
                    all.add(state);
                }
            }
            return all;
        }

        boolean isState(int state) {
            if (state < 0) {
                return false;
            }
            for (int t = 0; t < 16; t++) {
                if (t < ways.size() ? digit(state, t) >= ways.get(t) : digit(state, t) > 0) {
                    return false;
                }
            }
            return true;
        }

        long odds(int state) {
            BigInteger product = BigInteger.ONE;
            for (int t = 0; t < ways.size(); t++) {
                int row = on.get(t) < 0 ? 0 : digit(state, on.get(t));
                product = product.multiply(common(t)).multiply(BigInteger.valueOf(get(t, row, digit(state, t))))
                        .divide(BigInteger.valueOf(sum(t, row)));
            }
            return product.longValueExact();
        }

        long number(int state) {
            return !isState(state) ? -1 : isBig() ? -4 : odds(state);
        }

        boolean isTold(int code) {
            if (code < 0) {
                return false;
            }
            for (int t = 0; t < 16; t++) {
                if (t < ways.size() ? digit(code, t) > ways.get(t) : digit(code, t) > 0) {
                    return false;
                }
            }
            return true;
        }

        boolean agrees(int state, int code) {
            for (int t = 0; t < ways.size(); t++) {
                if (digit(code, t) != 0 && digit(code, t) != digit(state, t) + 1) {
                    return false;
                }
            }
            return true;
        }

        long chance(int of, int given, int what) {
            if (!isTold(of) || !isTold(given) || what < 0 || what > 1) {
                return -1;
            }
            if (isBig()) {
                return -4;
            }
            long both = 0;
            long those = 0;
            for (int state : states()) {
                if (agrees(state, given)) {
                    those += odds(state);
                    both += agrees(state, of) ? odds(state) : 0;
                }
            }
            return part(BigInteger.valueOf(both), BigInteger.valueOf(those), what);
        }

        static long part(BigInteger top, BigInteger bottom, int what) {
            BigInteger divisor = top.gcd(bottom);
            if (bottom.signum() < 0) {
                divisor = divisor.negate();
            }
            return (what == 0 ? top : bottom).divide(divisor).longValueExact();
        }

        static long part(long top, BigInteger bottom, int what) {
            return part(BigInteger.valueOf(top), bottom, what);
        }

        // ---- quarrels

        int feed(int n, int v) {
            if (n < 1 || n > 4) {
                return -1;
            }
            if (tape.length() + n > 200) {
                return -3;
            }
            for (int i = 0; i < n; i++) {
                tape.append((char) (v >>> 8 * i & 255));
            }
            return tape.length();
        }

        int quarrel() {
            if (quarrels.size() == 6) {
                return -3;
            }
            String text = tape.toString();
            tape.setLength(0);
            try {
                Node root = new Parser(text, ways).all();
                if (root.size() > 100) {
                    return -3;
                }
                quarrels.add(new Tree(root.copy()));
                return quarrels.size() - 1;
            } catch (Fault fault) {
                return -100 - fault.place;
            }
        }

        Node at(int q, int n) {
            return q < 0 || q >= quarrels.size() || n < 0 || n >= quarrels.get(q).nodes.size() ? null
                    : quarrels.get(q).nodes.get(n);
        }

        int node(int q, int n, int what) {
            if (what == 2 && q >= 0 && q < quarrels.size()) {
                return quarrels.get(q).nodes.size();
            }
            Node node = at(q, n);
            if (node == null) {
                return VOID;
            }
            if (what == 0) {
                return node.kind;
            }
            if (what == 1) {
                return node.kind == 1 ? node.kids.size() : node.what;
            }
            if (what >= 10 && what < 20 && what - 10 < node.kids.size()) {
                return node.kids.get(what - 10).number;
            }
            if (what >= 20 && what - 20 < node.kids.size() && node.kind == 1) {
                return node.costs.get(what - 20);
            }
            return VOID;
        }

        boolean isMovable(Node node, int way) {
            return node != null && (way == -1 && node.kind == 0 || node.kind == 1 && way >= 0 && way < node.kids.size());
        }

        int change(int q, int n, int way, int v) {
            Node node = at(q, n);
            if (!isMovable(node, way)) {
                return VOID;
            }
            if (way == -1 ? Math.abs((long) v) > 999 : v < 0 || v > 99) {
                return VOID;
            }
            int was = way == -1 ? node.what : node.costs.get(way);
            did(() -> move(node, way, was), () -> move(node, way, v));
            return was;
        }

        void move(Node node, int way, int v) {
            if (way == -1) {
                node.what = v;
            } else {
                node.costs.set(way, v);
            }
        }

        int undo() {
            if (done.isEmpty()) {
                return -5;
            }
            Runnable[] last = done.removeLast();
            last[0].run();
            undone.addLast(last);
            return done.size();
        }

        int redo() {
            if (undone.isEmpty()) {
                return -5;
            }
            Runnable[] last = undone.removeLast();
            last[1].run();
            done.addLast(last);
            return undone.size();
        }

        // ---- feelings and plans

        int feeling(int kind, int s) {
            if (kind < 0 || kind > 5 || kind > 3 && (s < 0 || s > 100)) {
                return -1;
            }
            if (feelings.size() == 20) {
                return -3;
            }
            feelings.add(new int[] {kind, kind > 3 ? s : 0});
            return feelings.size() - 1;
        }

        int step(int from, int each) {
            if (from < -9999 || from > 9999 || each < 0 || each > 9) {
                return -1;
            }
            if (steps.size() == 6) {
                return -3;
            }
            felt.clear();
            steps.add(new int[] {from, 10 * each});
            return steps.size();
        }

        int rate(int c) {
            int rate = 100;
            int from = Integer.MIN_VALUE;
            for (int[] step : steps) {
                if (step[0] <= c && step[0] >= from) {
                    from = step[0];
                    rate = step[1];
                }
            }
            return rate;
        }

        int felt(int v) {
            Integer known = felt.get(v);
            if (known != null) {
                return known;
            }
            int sum = 0;
            for (int c = 1; c <= v; c++) {
                sum += rate(c);
            }
            for (int c = 0; c > v; c--) {
                sum -= rate(c);
            }
            felt.put(v, sum);
            return sum;
        }

        int counted(int[] f, int v) {
            switch (f[0]) {
                case 1:
                case 3:
                    return felt(v);
                case 4:
                    return f[1] * v;
                case 5:
                    return v < 0 ? 100 * v : f[1] * v;
                default:
                    return 100 * v;
            }
        }

        int[] f(int f) {
            return f < 0 || f >= feelings.size() ? null : feelings.get(f);
        }

        int counts(int f, int v) {
            return f(f) == null || v < -9999 || v > 9999 ? VOID : counted(f(f), v);
        }

        static final int[] COIN = {0, 0};

        Map<Integer, Long> allOdds() {
            Map<Integer, Long> odds = new LinkedHashMap<>();
            for (int state : states()) {
                odds.put(state, odds(state));
            }
            return odds;
        }

        long score(int[] f, Map<Integer, Integer> counts, Map<Integer, Long> odds) {
            long sum = f[0] == 2 ? Long.MAX_VALUE : 0;
            for (Map.Entry<Integer, Integer> each : counts.entrySet()) {
                sum = f[0] == 2 ? Math.min(sum, each.getValue())
                        : Math.addExact(sum, Math.multiplyExact(odds.get(each.getKey()), (long) each.getValue()));
            }
            return sum;
        }

        /** What counts in each of these states from a node on, by the best plan (told none), which goes to picks. */
        Map<Integer, Integer> go(Node node, List<Integer> states, int paid, int[] f, Map<Integer, Long> odds,
                Map<Node, Integer> picks, boolean best) {
            Map<Integer, Integer> counts = new HashMap<>();
            if (node.kind == 0) {
                for (int state : states) {
                    counts.put(state, counted(f, node.what - paid));
                }
            } else if (node.kind == 2) {
                for (int way = 0; way < node.kids.size(); way++) {
                    List<Integer> those = new ArrayList<>();
                    for (int state : states) {
                        if (digit(state, node.what) == way) {
                            those.add(state);
                        }
                    }
                    counts.putAll(go(node.kids.get(way), those, paid, f, odds, picks, best));
                }
            } else {
                long greatest = 0;
                for (int way = 0; way < node.kids.size(); way++) {
                    if (best || picks.get(node) == way) {
                        Map<Integer, Integer> now = go(node.kids.get(way), states, paid + node.costs.get(way), f, odds,
                                picks, best);
                        long score = score(f, now, odds);
                        if (!best || way == 0 || score > greatest) {
                            greatest = score;
                            counts = now;
                            picks.put(node, way);
                        }
                    }
                }
            }
            return counts;
        }

        int greatest(Node node, int state, int paid) {
            if (node.kind == 0) {
                return node.what - paid;
            }
            if (node.kind == 2) {
                return greatest(node.kids.get(digit(state, node.what)), state, paid);
            }
            int most = Integer.MIN_VALUE;
            for (int way = 0; way < node.kids.size(); way++) {
                most = Math.max(most, greatest(node.kids.get(way), state, paid + node.costs.get(way)));
            }
            return most;
        }

        /** Of a plan (or the best one) the top of its worth; its bottom is 100 times the BOTTOM, LEAST: 100. */
        long worth(Tree tree, int[] f, Map<Node, Integer> picks, boolean best) {
            return worth(tree, f, picks, best, states());
        }

        long worth(Tree tree, int[] f, Map<Node, Integer> picks, boolean best, List<Integer> states) {
            Map<Integer, Long> odds = allOdds();
            Map<Integer, Integer> counts = go(tree.nodes.get(0), states, 0, f, odds, picks, best);
            if (f[0] == 3) {
                for (int state : states) {
                    counts.put(state, counts.get(state) - felt(greatest(tree.nodes.get(0), state, 0)));
                }
            }
            return score(f, counts, odds);
        }

        BigInteger hundred(int[] f) {
            return BigInteger.valueOf(100).multiply(BigInteger.valueOf(f[0] == 2 ? 1 : bottom()));
        }

        Tree q(int q) {
            return q < 0 || q >= quarrels.size() ? null : quarrels.get(q);
        }

        long best(int q, int f, int what) {
            if (q(q) == null || f(f) == null || what < 0 || what > 2 || isBig()) {
                return NONE;
            }
            Map<Node, Integer> picks = new HashMap<>();
            long top = worth(q(q), f(f), picks, true);
            if (what == 2) {
                q(q).judged.putAll(picks);
                return 1;
            }
            return part(top, hundred(f(f)), what);
        }

        int plan(int q, int n, int v) {
            Node node = at(q, n);
            if (node == null || node.kind != 1 || v < -1 || v >= node.kids.size()) {
                return -1;
            }
            int was = q(q).judged.get(node);
            if (v >= 0) {
                q(q).judged.put(node, v);
            }
            return was;
        }

        long judge(int q, int f, int what) {
            if (q(q) == null || f(f) == null || what < 0 || what > 1 || isBig()) {
                return NONE;
            }
            return part(worth(q(q), f(f), new HashMap<>(q(q).judged), false), hundred(f(f)), what);
        }

        int shortOf(int q, int f) {
            if (q(q) == null || f(f) == null) {
                return -1;
            }
            if (isBig()) {
                return -4;
            }
            long now = worth(q(q), f(f), new HashMap<>(q(q).judged), false);
            for (Node node : q(q).nodes) {
                for (int way = 0; node.kind == 1 && way < node.kids.size(); way++) {
                    Map<Node, Integer> other = new HashMap<>(q(q).judged);
                    other.put(node, way);
                    if (worth(q(q), f(f), other, false) > now) {
                        return node.number;
                    }
                }
            }
            return -2;
        }

        /** The ways that turned out on the way to a node, as a code; -1 if it does not lie below this one. */
        int known(Node from, Node to, int code) {
            if (from == to) {
                return code;
            }
            for (int way = 0; way < from.kids.size(); way++) {
                int then = from.kind == 2 ? code | way + 1 << 2 * from.what : code;
                int found = known(from.kids.get(way), to, then);
                if (found >= 0) {
                    return found;
                }
            }
            return -1;
        }

        long fork(int q, int n, int way, int what) {
            Node node = at(q, n);
            if (node == null || node.kind != 1 || way < 0 || way >= node.kids.size() || what < 0 || what > 1 || isBig()) {
                return NONE;
            }
            int known = known(q(q).nodes.get(0), node, 0);
            List<Integer> those = new ArrayList<>();
            long mass = 0;
            Map<Integer, Long> odds = allOdds();
            for (int state : states()) {
                if (agrees(state, known)) {
                    those.add(state);
                    mass += odds.get(state);
                }
            }
            Map<Integer, Integer> counts = go(node.kids.get(way), those, node.costs.get(way), COIN, odds,
                    new HashMap<>(), true);
            return part(score(COIN, counts, odds), BigInteger.valueOf(mass).multiply(BigInteger.valueOf(100)), what);
        }

        int tell(int q, int i) {
            if (q(q) == null || i < -1) {
                return -1;
            }
            List<Integer> found = new ArrayList<>();
            come(q(q).nodes.get(0), q(q).judged, found);
            return i == -1 ? found.size() : i < found.size() ? found.get(i) : -1;
        }

        void come(Node node, Map<Node, Integer> plan, List<Integer> found) {
            if (node.kind == 1) {
                found.add(10 * node.number + plan.get(node));
                come(node.kids.get(plan.get(node)), plan, found);
            } else {
                for (Node kid : node.kids) {
                    come(kid, plan, found);
                }
            }
        }

        // ---- asking, edges, doubt

        long asked(Tree tree, List<Integer> asked) {
            Map<Integer, List<Integer>> groups = new HashMap<>();
            for (int state : states()) {
                int key = 0;
                for (int t : asked) {
                    key = 4 * key + digit(state, t);
                }
                groups.computeIfAbsent(key, k -> new ArrayList<>()).add(state);
            }
            long sum = 0;
            for (List<Integer> group : groups.values()) {
                sum += worth(tree, COIN, new HashMap<>(), true, group);
            }
            return sum;
        }

        long ask(int q, int t, int what) {
            if (q(q) == null || t < -1 || t >= ways.size() || what < 0 || what > 1 || isBig()) {
                return NONE;
            }
            List<Integer> all = new ArrayList<>();
            for (int i = 0; i < ways.size(); i++) {
                if (t == -1 || t == i) {
                    all.add(i);
                }
            }
            return part(asked(q(q), all) - asked(q(q), List.of()), hundred(COIN), what);
        }

        long together(int q, int t, int u, int what) {
            if (q(q) == null || t < 0 || t >= ways.size() || u < 0 || u >= ways.size() || t == u || what < 0 || what > 1
                    || isBig()) {
                return NONE;
            }
            long none = asked(q(q), List.of());
            long both = asked(q(q), List.of(t, u)) - none;
            long one = asked(q(q), List.of(t)) - none;
            long two = asked(q(q), List.of(u)) - none;
            return part(both - one - two, hundred(COIN), what);
        }

        int first(int q) {
            if (q(q) == null || ways.isEmpty()) {
                return -1;
            }
            if (isBig()) {
                return -4;
            }
            int found = 0;
            for (int t = 1; t < ways.size(); t++) {
                if (asked(q(q), List.of(t)) > asked(q(q), List.of(found))) {
                    found = t;
                }
            }
            return found;
        }

        int firstWay(Tree tree) {
            Map<Node, Integer> picks = new HashMap<>();
            worth(tree, COIN, picks, true);
            for (Node node : tree.nodes) {
                if (node.kind == 1) {
                    return picks.get(node);
                }
            }
            return -1;
        }

        int edge(int q, int at, int up) {
            if (q(q) == null || at < 0 || !isWeight(at / 100, at / 10 % 10, at % 10) || up < 0 || up > 1) {
                return -1;
            }
            if (isBig()) {
                return -4;
            }
            String key = at / 100 + "/" + at / 10 % 10 + "/" + at % 10;
            int was = get(at / 100, at / 10 % 10, at % 10);
            int way = firstWay(q(q));
            int answer = -2;
            for (int d = 1; d <= 40 && answer == -2; d++) {
                int v = up == 1 ? was + d : was - d;
                if (v < 1 || v > 99) {
                    break;
                }
                weights.put(key, v);
                if (isBig()) {
                    break;
                }
                if (firstWay(q(q)) != way) {
                    answer = d;
                }
            }
            weights.put(key, was);
            return answer;
        }

        int moved(Tree tree, Node node, int way, int up) {
            int was = way == -1 ? node.what : node.costs.get(way);
            int first = firstWay(tree);
            int answer = -2;
            for (int d = 1; d <= 40 && answer == -2; d++) {
                int v = up == 1 ? was + d : was - d;
                if (way == -1 ? v < -999 || v > 999 : v < 0 || v > 99) {
                    break;
                }
                move(node, way, v);
                if (firstWay(tree) != first) {
                    answer = d;
                }
            }
            move(node, way, was);
            return answer;
        }

        int edgeOf(int q, int n, int way, int up) {
            Node node = at(q, n);
            if (!isMovable(node, way) || up < 0 || up > 1) {
                return -1;
            }
            return isBig() ? -4 : moved(q(q), node, way, up);
        }

        int most(int q) {
            if (q(q) == null) {
                return -1;
            }
            if (isBig()) {
                return -4;
            }
            int found = -2;
            int least = 99;
            for (Node node : q(q).nodes) {
                for (int up = 0; node.kind == 0 && up < 2; up++) {
                    int d = moved(q(q), node, -1, up);
                    if (d > 0 && d < least) {
                        least = d;
                        found = node.number;
                    }
                }
            }
            return found;
        }

        boolean isDoubt(int q, int t, int ab, int what) {
            return q(q) != null && t >= 0 && t < ways.size() && on.get(t) < 0 && ab >= 101 && ab <= 9999
                    && ab % 100 >= ab / 100 && what >= 0 && what <= 1;
        }

        boolean isBigIn(int t, int ab) {
            int was = get(t, 0, 0);
            boolean big = false;
            for (int v = ab / 100; v <= ab % 100; v++) {
                weights.put(t + "/0/0", v);
                big |= isBig();
            }
            weights.put(t + "/0/0", was);
            return big;
        }

        int doubt(int q, int t, int ab, int what) {
            if (!isDoubt(q, t, ab, what)) {
                return -1;
            }
            if (isBigIn(t, ab)) {
                return -4;
            }
            int was = get(t, 0, 0);
            int held = 0;
            Map<Map<Node, Integer>, Integer> times = new LinkedHashMap<>();
            for (int v = ab / 100; v <= ab % 100; v++) {
                weights.put(t + "/0/0", v);
                Map<Node, Integer> picks = new HashMap<>();
                long best = worth(q(q), COIN, picks, true);
                held += best == worth(q(q), COIN, new HashMap<>(q(q).judged), false) ? 1 : 0;
                times.merge(picks, 1, Integer::sum);
            }
            weights.put(t + "/0/0", was);
            if (what == 0) {
                return held;
            }
            Map<Node, Integer> steady = null;
            int most = 0;
            for (Map.Entry<Map<Node, Integer>, Integer> each : times.entrySet()) {
                if (each.getValue() > most) {
                    most = each.getValue();
                    steady = each.getKey();
                }
            }
            q(q).judged.putAll(steady);
            return most;
        }

        long worst(int q, int t, int ab, int what) {
            if (!isDoubt(q, t, ab, what) || isBigIn(t, ab)) {
                return NONE;
            }
            int was = get(t, 0, 0);
            BigInteger top = null;
            BigInteger under = null;
            for (int v = ab / 100; v <= ab % 100; v++) {
                weights.put(t + "/0/0", v);
                BigInteger now = BigInteger.valueOf(worth(q(q), COIN, new HashMap<>(q(q).judged), false));
                BigInteger here = hundred(COIN);
                if (top == null || now.multiply(under).compareTo(top.multiply(here)) < 0) {
                    top = now;
                    under = here;
                }
            }
            weights.put(t + "/0/0", was);
            return part(top, under, what);
        }

        // ---- two sides

        int table(int rows, int columns) {
            if (rows < 1 || rows > 4 || columns < 1 || columns > 4) {
                return -1;
            }
            table = new int[rows][columns][2];
            return rows * columns;
        }

        int cell(int cell, int side, int v) {
            if (table == null || cell < 0 || cell / 10 >= table.length || cell % 10 >= table[0].length || side < 0
                    || side > 1 || v < -99 || v > 99) {
                return VOID;
            }
            int was = table[cell / 10][cell % 10][side];
            table[cell / 10][cell % 10][side] = v;
            return was;
        }

        int sure(int i) {
            if (table == null || i < -1) {
                return -1;
            }
            List<Integer> found = new ArrayList<>();
            for (int r = 0; r < table.length; r++) {
                for (int c = 0; c < table[0].length; c++) {
                    boolean sure = true;
                    for (int[][] row : table) {
                        sure &= row[c][0] <= table[r][c][0];
                    }
                    for (int[] cell : table[r]) {
                        sure &= cell[1] <= table[r][c][1];
                    }
                    if (sure) {
                        found.add(10 * r + c);
                    }
                }
            }
            return i == -1 ? found.size() : i < found.size() ? found.get(i) : -1;
        }

        /** The worth of the game: over lots p of the first row, at the ends and where the two lines cross. */
        int lots(int what) {
            if (what < 0 || what > 1) {
                return VOID;
            }
            if (table == null || table.length != 2 || table[0].length != 2) {
                return -5;
            }
            for (int[][] row : table) {
                for (int[] cell : row) {
                    if (cell[0] + cell[1] != 0) {
                        return -5;
                    }
                }
            }
            long a = table[0][0][0];
            long b = table[0][1][0];
            long c = table[1][0][0];
            long d = table[1][1][0];
            long cross = a - c - b + d;
            long[][] lots = {{0, 1}, {1, 1}, cross == 0 ? new long[] {0, 1} : cross > 0 ? new long[] {d - c, cross}
                    : new long[] {c - d, -cross}};
            long top = -1000000;
            long bottom = 1;
            for (long[] p : lots) {
                if (p[0] >= 0 && p[0] <= p[1]) {
                    long left = p[0] * a + (p[1] - p[0]) * c;
                    long right = p[0] * b + (p[1] - p[0]) * d;
                    long least = Math.min(left, right);
                    if (least * bottom > top * p[1]) {
                        top = least;
                        bottom = p[1];
                    }
                }
            }
            return (int) part(top, BigInteger.valueOf(bottom), what);
        }

        int struck(int what) {
            if (table == null || what < 0 || what > 1) {
                return -1;
            }
            List<Integer> rows = new ArrayList<>();
            List<Integer> columns = new ArrayList<>();
            for (int r = 0; r < table.length; r++) {
                rows.add(r);
            }
            for (int c = 0; c < table[0].length; c++) {
                columns.add(c);
            }
            boolean again = true;
            while (again) {
                again = rows.removeIf(r -> rows.stream().anyMatch(
                        o -> columns.stream().allMatch(c -> table[o][c][0] > table[r][c][0])));
                again |= columns.removeIf(c -> columns.stream().anyMatch(
                        o -> rows.stream().allMatch(r -> table[r][o][1] > table[r][c][1])));
            }
            return (what == 0 ? rows : columns).stream().mapToInt(i -> 1 << i).sum();
        }

        int sort(int weight, int win, int cost) {
            if (weight < 1 || weight > 9 || win < 0 || win > 99 || cost < 0 || cost > 99) {
                return -1;
            }
            if (sorts.size() == 3) {
                return -3;
            }
            sorts.add(new int[] {weight, win, cost});
            return sorts.size();
        }

        int offer(int sum) {
            if (sum < 0 || sum > 99 || offers.contains(sum)) {
                return -1;
            }
            if (offers.size() == 4) {
                return -3;
            }
            offers.add(sum);
            return offers.size();
        }

        int holds(int d, int what) {
            if (d < 0 || d > 99 || what < 0 || what > 2) {
                return -1;
            }
            if (sorts.isEmpty() || offers.isEmpty()) {
                return -5;
            }
            List<int[]> found = new ArrayList<>();
            int profiles = (int) Math.pow(offers.size(), sorts.size());
            for (int profile = 0; profile < profiles; profile++) {
                int[] made = new int[sorts.size()];
                int rest = profile;
                int code = 0;
                for (int s = sorts.size() - 1; s >= 0; s--) {
                    made[s] = rest % offers.size();
                    rest /= offers.size();
                }
                for (int s = 0; s < sorts.size(); s++) {
                    code = 4 * code + made[s];
                }
                for (int bits = 0; bits < 1 << offers.size(); bits++) {
                    if (holds(made, bits, d)) {
                        found.add(new int[] {code, bits});
                    }
                }
            }
            return what == 0 ? found.size() : found.isEmpty() ? -2 : found.get(0)[what - 1];
        }

        boolean holds(int[] made, int bits, int d) {
            for (int s = 0; s < made.length; s++) {
                int court = sorts.get(s)[1] - sorts.get(s)[2];
                int now = (bits >> made[s] & 1) == 1 ? offers.get(made[s]) : court;
                for (int o = 0; o < offers.size(); o++) {
                    if (((bits >> o & 1) == 1 ? offers.get(o) : court) > now) {
                        return false;
                    }
                }
            }
            for (int o = 0; o < offers.size(); o++) {
                int weight = 0;
                int won = 0;
                int least = 1000;
                for (int s = 0; s < made.length; s++) {
                    least = Math.min(least, sorts.get(s)[1]);
                    if (made[s] == o) {
                        weight += sorts.get(s)[0];
                        won += sorts.get(s)[0] * sorts.get(s)[1];
                    }
                }
                boolean takes = weight > 0 ? offers.get(o) * weight <= won + d * weight : offers.get(o) <= least + d;
                if (takes != ((bits >> o & 1) == 1)) {
                    return false;
                }
            }
            return true;
        }

        int clear() {
            int many = sorts.size();
            sorts.clear();
            offers.clear();
            return many;
        }

        int effort(int cost, int hundredths) {
            if (cost < 0 || cost > 99 || hundredths < 0 || hundredths > 100) {
                return -1;
            }
            if (efforts.size() == 4) {
                return -3;
            }
            efforts.add(new int[] {cost, hundredths});
            return efforts.size();
        }

        int hired(int won, int what) {
            if (won < 0 || won > 999 || what < -1 || what > 3) {
                return -1;
            }
            if (what == -1) {
                int many = efforts.size();
                efforts.clear();
                return many;
            }
            if (efforts.size() < 2) {
                return -5;
            }
            long most = -1;
            int bestS = 0;
            int bestE = 0;
            for (int s = 0; s <= 100; s++) {
                int e = 0;
                for (int i = 1; i < efforts.size(); i++) {
                    if (gain(i, s, won) > gain(e, s, won)) {
                        e = i;
                    }
                }
                long left = (100L - s) * won * efforts.get(e)[1];
                if (left > most) {
                    most = left;
                    bestS = s;
                    bestE = e;
                }
            }
            return what == 0 ? bestS : what == 1 ? bestE : (int) part(most, BigInteger.valueOf(10000), what - 2);
        }

        long gain(int e, int s, int won) {
            return (long) s * won * efforts.get(e)[1] - 10000L * efforts.get(e)[0];
        }

        boolean isDay(int offer, int hundredths, int cost) {
            return offer >= 0 && offer <= 999 && hundredths >= 0 && hundredths <= 100 && cost >= 0 && cost <= 99;
        }

        int day(int day, int offer, int hundredths, int cost) {
            if (day < 0 || day > 19 || !isDay(offer, hundredths, cost)) {
                return -1;
            }
            days[day] = new int[] {offer, hundredths, cost};
            return 1;
        }

        int days(int shelf, int i, int n) {
            if (shelf < 0 || shelf > 5 || n < 1 || n > 20) {
                return -1;
            }
            if (shelves[shelf] == null) {
                return 0;
            }
            if (!(shelves[shelf] instanceof short[])) {
                return -12;
            }
            short[] row = (short[]) shelves[shelf];
            for (int k = 0; k < n; k++) {
                try {
                    int at = Math.addExact(i, 3 * k);
                    if (!isDay(row[at], row[at + 1], row[at + 2])) {
                        return k;
                    }
                    days[k] = new int[] {row[at], row[at + 1], row[at + 2]};
                } catch (ArithmeticException | ArrayIndexOutOfBoundsException end) {
                    return k;
                }
            }
            return n;
        }

        long waits(int dayOf, int court, int what) {
            int many = dayOf % 100;
            int day = dayOf / 100;
            if (dayOf < 0 || many < 1 || many > 20 || day >= many || court < -999 || court > 999 || what < 0 || what > 1) {
                return NONE;
            }
            BigInteger million = BigInteger.valueOf(1000000);
            BigInteger v = million.multiply(BigInteger.valueOf(court));
            for (int k = many - 1; ; k--) {
                BigInteger w = v.subtract(million.multiply(BigInteger.valueOf(days[k][2])));
                if (k == day && what == 0) {
                    int bar = 0;
                    while (bar < 1000 && million.multiply(BigInteger.valueOf(bar)).compareTo(w) < 0) {
                        bar++;
                    }
                    return bar;
                }
                BigInteger top = million.multiply(BigInteger.valueOf(days[k][0])).max(w)
                        .multiply(BigInteger.valueOf(days[k][1])).add(w.multiply(BigInteger.valueOf(100 - days[k][1])));
                BigInteger[] parts = top.divideAndRemainder(BigInteger.valueOf(100));
                v = parts[1].signum() < 0 ? parts[0].subtract(BigInteger.ONE) : parts[0];
                if (k == day) {
                    return v.longValueExact();
                }
            }
        }

        // ---- runs

        int run(int q, int seed, int n) {
            if (q(q) == null || n < 1 || n > 200) {
                return VOID;
            }
            int z = seed;
            int sum = 0;
            for (int i = 0; i < n; i++) {
                int[] came = new int[4];
                for (int t = 0; t < ways.size(); t++) {
                    z = z * 1103515245 + 12345;
                    int row = on.get(t) < 0 ? 0 : came[on.get(t)];
                    int drawn = (z >>> 8) % sum(t, row);
                    int reach = get(t, row, 0);
                    while (drawn >= reach) {
                        came[t]++;
                        reach += get(t, row, came[t]);
                    }
                }
                Node node = q(q).nodes.get(0);
                while (node.kind != 0) {
                    int way = node.kind == 1 ? q(q).judged.get(node) : came[node.what];
                    sum -= node.costs.get(way);
                    node = node.kids.get(way);
                }
                sum += node.what;
            }
            return sum;
        }

        // ---- acts

        /** Where each kind's bodies stand: kind above, then by act the number of its own body, 0 without. */
        static final int[] ABOVE = {-1, 0, 0, 1, 0, 4};
        static final int[][] OWN = {{1, 10, 11, 2}, {0, 20, 0, 0}, {0, 0, 30, 0}, {0, 40, 0, 41}, {50, 0, 0, 0},
            {60, 0, 61, 0}};

        int act(int f, int act, int v) {
            trace.clear();
            return f(f) == null || act < 0 || act > 3 ? 0 : call(f, f(f)[0], act, v);
        }

        int call(int f, int kind, int act, int v) {
            int from = kind;
            while (OWN[from][act] == 0) {
                from = ABOVE[from];
            }
            int body = OWN[from][act];
            int mine = f(f)[0];
            int up = ABOVE[from];
            trace.add(body);
            switch (body) {
                case 1:
                    return v + f;
                case 10:
                    return call(f, mine, 0, v) * 2;
                case 11:
                    return v ^ f;
                case 2:
                    int felt = call(f, mine, 1, v);
                    return felt - call(f, mine, 2, 1);
                case 20:
                    return call(f, up, 1, v) - 1;
                case 30:
                    return call(f, up, 2, v) * 3;
                case 40:
                    int above = call(f, up, 1, v);
                    return above + call(f, mine, 2, 2);
                case 41:
                    return call(f, up, 3, v + 1);
                case 50:
                    return call(f, up, 0, v) + f(f)[1];
                case 60:
                    return -call(f, up, 0, v);
                default:
                    int feared = call(f, up, 2, v);
                    return feared + call(f, mine, 0, 1);
            }
        }

        int trace(int i) {
            return i < 0 || i >= trace.size() || i >= 24 ? -1 : trace.get(i);
        }

        // ---- shelves

        int keep(int shelf, int f) {
            if (shelf < 0 || shelf > 5 || f != -1 && f(f) == null) {
                return -1;
            }
            shelves[shelf] = f == -1 ? null : Integer.valueOf(f);
            return 1;
        }

        int row(int shelf, int sort, int n) {
            if (shelf < 0 || shelf > 5 || sort < 0 || sort > 4 || n > 60) {
                return -1;
            }
            if (n < 0) {
                return -14;
            }
            Object[] rows = {new byte[n], new short[n], new int[n], new long[n], new boolean[n]};
            shelves[shelf] = rows[sort];
            return 1;
        }

        int refusal(int shelf, int i) {
            if (shelf < 0 || shelf > 5) {
                return -1;
            }
            if (shelves[shelf] == null) {
                return -11;
            }
            if (shelves[shelf] instanceof Integer) {
                return -12;
            }
            return i < 0 || i >= java.lang.reflect.Array.getLength(shelves[shelf]) ? -13 : 0;
        }

        int put(int shelf, int i, long v) {
            int refusal = refusal(shelf, i);
            if (refusal != 0) {
                return refusal;
            }
            Object row = shelves[shelf];
            if (row instanceof byte[]) {
                ((byte[]) row)[i] = (byte) v;
            } else if (row instanceof short[]) {
                ((short[]) row)[i] = (short) v;
            } else if (row instanceof int[]) {
                ((int[]) row)[i] = (int) v;
            } else if (row instanceof long[]) {
                ((long[]) row)[i] = v;
            } else {
                ((boolean[]) row)[i] = v != 0;
            }
            return 1;
        }

        long element(int shelf, int i) {
            if (refusal(shelf, i) != 0) {
                return NONE;
            }
            Object row = shelves[shelf];
            if (row instanceof boolean[]) {
                return ((boolean[]) row)[i] ? 1 : 0;
            }
            return java.lang.reflect.Array.getLong(row, i);
        }

        int shift(int shelf, int i, int other, int j, int n) {
            if (shelf < 0 || shelf > 5 || other < 0 || other > 5) {
                return -1;
            }
            if (shelves[shelf] == null || shelves[other] == null) {
                return -11;
            }
            if (shelves[shelf] instanceof Integer || shelves[shelf].getClass() != shelves[other].getClass()) {
                return -12;
            }
            try {
                System.arraycopy(shelves[shelf], i, shelves[other], j, n);
                return n;
            } catch (IndexOutOfBoundsException out) {
                return -13;
            }
        }

        int taken(int shelf, int k) {
            if (shelf < 0 || shelf > 5 || k < 0 || k > 5) {
                return -1;
            }
            if (shelves[shelf] == null) {
                return -11;
            }
            if (shelves[shelf] instanceof Integer) {
                int own = f((Integer) shelves[shelf])[0];
                for (int kind = own; kind >= 0; kind = ABOVE[kind]) {
                    if (kind == k) {
                        return own;
                    }
                }
            }
            return -12;
        }

        int count(int what) {
            int[] all = {ways.size(), quarrels.size(), tape.length(), feelings.size(), done.size(), trace.size()};
            return what < 0 || what > 5 ? -1 : all[what];
        }
    }
}
