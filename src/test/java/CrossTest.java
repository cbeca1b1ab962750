import java.math.BigInteger;
import java.util.ArrayList;
import java.util.HashMap;
import java.util.List;
import java.util.Map;
import java.util.Random;

/**
 * What one call answers is found once more by other calls of the face: the best plan by judging every plan, edges by
 * changing and looking at the best plan, asking by a quarrel in which the thing turns out ahead, and so on.
 * No object is asked more than 512 times.
 */
public final class CrossTest {
    private static final int NOT = -2;
    private static final int RUNS = 400, MOST_PLANS = 48, MOST_SHOWN = 20;
    private static final int KINDS = 6, COIN = 0;
    private static int wrong = 0;
    private static int asked = 0;
    private static int run = 0;
    private static final Map<String, Integer> seen = new HashMap<>();

    private static void due(String what, Object got, Object want) {
        asked++;
        seen.merge(what.substring(0, what.indexOf('(')), 1, Integer::sum);
        if (!got.equals(want)) {
            wrong++;
            if (wrong > MOST_SHOWN) {
                return;
            }
            System.out.println("run " + run + ": " + what + " answered " + got + ", by other calls it is " + want);
        }
    }

    // ---- fractions

    private static final class Fraction implements Comparable<Fraction> {
        final BigInteger top;
        final BigInteger bottom;

        Fraction(BigInteger top, BigInteger bottom) {
            BigInteger divisor = top.gcd(bottom).max(BigInteger.ONE);
            this.top = top.divide(divisor);
            this.bottom = bottom.divide(divisor);
        }

        Fraction(long top, long bottom) {
            this(BigInteger.valueOf(top), BigInteger.valueOf(bottom));
        }

        Fraction less(Fraction other) {
            return new Fraction(top.multiply(other.bottom).subtract(other.top.multiply(bottom)),
                    bottom.multiply(other.bottom));
        }

        @Override
        public int compareTo(Fraction other) {
            return top.multiply(other.bottom).compareTo(other.top.multiply(bottom));
        }

        @Override
        public boolean equals(Object other) {
            return other instanceof Fraction && compareTo((Fraction) other) == 0;
        }

        @Override
        public int hashCode() {
            return top.hashCode() + bottom.hashCode();
        }

        @Override
        public String toString() {
            return top + " / " + bottom;
        }
    }

    // ---- trees of which the texts are made

    private static final class Tree {
        /** '0' an end, '?' a choice, 'a' .. 'd' what turns out. */
        final char kind;
        final int end;
        final List<Integer> costs = new ArrayList<>();
        final List<Tree> ways = new ArrayList<>();

        Tree(char kind, int end) {
            this.kind = kind;
            this.end = end;
        }

        String text() {
            if (kind == '0') {
                return String.valueOf(end);
            }
            StringBuilder text = new StringBuilder(kind == '?' ? "?" : "!" + kind).append('(');
            for (int i = 0; i < ways.size(); i++) {
                text.append(i > 0 ? "," : "").append(kind == '?' ? costs.get(i) + ":" : "").append(ways.get(i).text());
            }
            return text.append(')').toString();
        }

        int size() {
            int sum = 1;
            for (Tree way : ways) {
                sum += way.size();
            }
            return sum;
        }

        /** The tree in which a thing's way is known. */
        Tree knowing(char thing, int way) {
            if (kind == thing) {
                return ways.get(way).knowing(thing, way);
            }
            Tree known = new Tree(kind, end);
            known.costs.addAll(costs);
            for (Tree each : ways) {
                known.ways.add(each.knowing(thing, way));
            }
            return known;
        }
    }

    /** Things with weights, and a tree; objects are made of it anew, so that none is asked too often. */
    private static final class Suit {
        final Random random;
        final int[] ways;
        final int[] on;
        final List<int[]> weights = new ArrayList<>();
        final Tree tree;

        Suit(int seed) {
            random = new Random(104729L * seed + 17);
            ways = new int[1 + random.nextInt(3)];
            on = new int[ways.length];
            for (int t = 0; t < ways.length; t++) {
                ways[t] = 2 + random.nextInt(2);
                on[t] = t > 0 && random.nextInt(2) == 0 ? random.nextInt(t) : -1;
                for (int row = 0; row < (on[t] < 0 ? 1 : ways[on[t]]); row++) {
                    for (int way = 0; way < ways[t]; way++) {
                        weights.add(new int[] {t, row, way, 1 + random.nextInt(random.nextInt(4) == 0 ? 99 : 6)});
                    }
                }
            }
            tree = grow(0, 0);
        }

        private Tree grow(int depth, int turned) {
            int roll = random.nextInt(10);
            int thing = random.nextInt(ways.length);
            if (depth > 3 || depth > 0 && roll < 3) {
                return new Tree('0', random.nextInt(random.nextInt(3) == 0 ? 6 : 120) - 30);
            }
            boolean turns = roll > 6 && (turned >> thing & 1) == 0;
            Tree grown = new Tree(turns ? (char) ('a' + thing) : '?', 0);
            int many = turns ? ways[thing] : 1 + random.nextInt(3);
            for (int i = 0; i < many; i++) {
                grown.costs.add(random.nextInt(random.nextInt(3) == 0 ? 30 : 4));
                grown.ways.add(grow(depth + 1, turns ? turned | 1 << thing : turned));
            }
            return grown;
        }

        SueOrSettle make() {
            SueOrSettle x = new SueOrSettle();
            for (int t = 0; t < ways.length; t++) {
                x.thing(ways[t]);
                if (on[t] >= 0) {
                    x.hang(t, on[t]);
                }
            }
            for (int[] weight : weights) {
                x.weight(weight[0], weight[1], weight[2], weight[3]);
            }
            say(x, tree.text());
            for (int kind = 0; kind < KINDS; kind++) {
                x.feeling(kind, 35);
            }
            x.step(-10, 9);
            x.step(5, 4);
            x.step(40, 1);
            return x;
        }
    }

    private static int say(SueOrSettle x, String text) {
        for (int i = 0; i < text.length(); i += 4) {
            int n = Math.min(4, text.length() - i);
            int v = 0;
            for (int k = 0; k < n; k++) {
                v |= text.charAt(i + k) << 8 * k;
            }
            x.feed(n, v);
        }
        return x.quarrel();
    }

    private static boolean fits(Tree tree) {
        return tree.text().length() <= 200 && tree.size() <= 100;
    }

    private static Fraction best(SueOrSettle x, int quarrel, int feeling) {
        return new Fraction(x.best(quarrel, feeling, 0), x.best(quarrel, feeling, 1));
    }

    private static Fraction judged(SueOrSettle x, int feeling) {
        return new Fraction(x.judge(0, feeling, 0), x.judge(0, feeling, 1));
    }

    private static List<Integer> choices(SueOrSettle x) {
        List<Integer> found = new ArrayList<>();
        for (int node = 0; node < x.node(0, 0, 2); node++) {
            if (x.node(0, node, 0) == 1) {
                found.add(node);
            }
        }
        return found;
    }

    // ---- plans

    /** Plan number k has at the first choice the digit that goes fastest. */
    private static void plans(Suit suit) {
        SueOrSettle y = suit.make();
        List<Integer> choices = choices(y);
        List<Integer> many = new ArrayList<>();
        int plans = 1;
        for (int choice : choices) {
            many.add(y.node(0, choice, 1));
            plans = Math.min(MOST_PLANS + 1, plans * y.node(0, choice, 1));
        }
        if (plans > MOST_PLANS) {
            return;
        }
        Fraction[][] worths = new Fraction[plans][KINDS];
        int[][] shorts = new int[plans][KINDS];
        for (int k = 0; k < plans; k++) {
            SueOrSettle x = suit.make();
            for (int c = 0, left = k; c < choices.size(); left /= many.get(c), c++) {
                x.plan(0, choices.get(c), left % many.get(c));
            }
            for (int f = 0; f < KINDS; f++) {
                worths[k][f] = judged(x, f);
                shorts[k][f] = x.shortOf(0, f);
            }
        }
        for (int f = 0; f < KINDS; f++) {
            greatest(suit, f, worths);
            for (int k = 0; k < plans; k++) {
                due("shortOf(0, " + f + ") of plan " + k, shorts[k][f], shortBy(k, f, worths, choices, many));
            }
        }
    }

    private static void greatest(Suit suit, int f, Fraction[][] worths) {
        Fraction most = worths[0][f];
        for (Fraction[] worth : worths) {
            most = worth[f].compareTo(most) > 0 ? worth[f] : most;
        }
        SueOrSettle x = suit.make();
        due("best(0, " + f + ")", best(x, 0, f), most);
        x.best(0, f, 2);
        due("judge(0, " + f + ") of the best plan", judged(x, f), most);
        due("shortOf(0, " + f + ") of the best plan", x.shortOf(0, f), NOT);
    }

    private static int shortBy(int k, int f, Fraction[][] worths, List<Integer> choices, List<Integer> many) {
        int unit = 1;
        for (int c = 0; c < choices.size(); c++) {
            int way = k / unit % many.get(c);
            for (int other = 0; other < many.get(c); other++) {
                if (worths[k + (other - way) * unit][f].compareTo(worths[k][f]) > 0) {
                    return choices.get(c);
                }
            }
            unit *= many.get(c);
        }
        return NOT;
    }

    // ---- asking

    /** A thing asked for ahead of all is one that turns out ahead of all, and is known behind. */
    private static Tree askedAhead(Suit suit, Tree tree, int thing) {
        char letter = (char) ('a' + thing);
        Tree asked = new Tree(letter, 0);
        for (int way = 0; way < suit.ways[thing]; way++) {
            asked.ways.add(tree.knowing(letter, way));
        }
        return asked;
    }

    private static Fraction worthOf(Suit suit, Tree tree) {
        SueOrSettle x = suit.make();
        return best(x, say(x, tree.text()), COIN);
    }

    private static void asking(Suit suit) {
        SueOrSettle x = suit.make();
        Fraction none = best(x, 0, COIN);
        Fraction[] gains = new Fraction[suit.ways.length];
        Tree all = suit.tree;
        boolean whole = true;
        for (int t = 0; t < suit.ways.length; t++) {
            Tree one = askedAhead(suit, suit.tree, t);
            all = askedAhead(suit, all, t);
            whole &= fits(one);
            if (fits(one)) {
                gains[t] = worthOf(suit, one).less(none);
                due("ask(0, " + t + ")", new Fraction(x.ask(0, t, 0), x.ask(0, t, 1)), gains[t]);
            }
        }
        if (fits(all)) {
            due("ask(0, -1)", new Fraction(x.ask(0, -1, 0), x.ask(0, -1, 1)), worthOf(suit, all).less(none));
        }
        if (whole) {
            int first = 0;
            for (int t = 1; t < gains.length; t++) {
                first = gains[t].compareTo(gains[first]) > 0 ? t : first;
            }
            due("first(0)", x.first(0), first);
            pairs(suit, x, gains, none);
        }
    }

    private static void pairs(Suit suit, SueOrSettle x, Fraction[] gains, Fraction none) {
        for (int t = 0; t < gains.length; t++) {
            for (int u = 0; u < gains.length; u++) {
                Tree both = t == u ? null : askedAhead(suit, askedAhead(suit, suit.tree, t), u);
                if (both != null && fits(both)) {
                    due("together(0, " + t + ", " + u + ")",
                            new Fraction(x.together(0, t, u, 0), x.together(0, t, u, 1)),
                            worthOf(suit, both).less(none).less(gains[t]).less(gains[u]));
                }
            }
        }
    }

    // ---- forks

    /** Where nothing turned out ahead, a way is worth what lies behind it, as a quarrel of its own, less its cost. */
    private static int forks(Suit suit, Tree tree, int node, boolean turned) {
        int next = node + 1;
        for (int way = 0; way < tree.ways.size(); way++) {
            Tree behind = tree.ways.get(way);
            if (tree.kind == '?' && !turned) {
                SueOrSettle x = suit.make();
                due("fork(0, " + node + ", " + way + ")",
                        new Fraction(x.fork(0, node, way, 0), x.fork(0, node, way, 1)),
                        worthOf(suit, behind).less(new Fraction(tree.costs.get(way), 1)));
            }
            next = forks(suit, behind, next, turned || tree.kind != '?');
        }
        return next;
    }

    // ---- edges

    /** The best plan's way at the first choice; -1 without one. */
    private static int firstWay(SueOrSettle x, int choice) {
        x.best(0, COIN, 2);
        return x.plan(0, choice, -1);
    }

    private static int firstChoice(Suit suit) {
        List<Integer> choices = choices(suit.make());
        return choices.isEmpty() ? -1 : choices.get(0);
    }

    private static void edges(Suit suit, int choice) {
        int was = choice < 0 ? -1 : firstWay(suit.make(), choice);
        for (int[] weight : suit.weights) {
            for (int up = 0; up < 2; up++) {
                SueOrSettle x = suit.make();
                int at = 100 * weight[0] + 10 * weight[1] + weight[2];
                int found = NOT;
                for (int d = 1; d <= 40 && found == NOT && choice >= 0; d++) {
                    int v = up == 1 ? weight[3] + d : weight[3] - d;
                    if (x.weight(weight[0], weight[1], weight[2], v) < 0 || x.bottom() < 0) {
                        break;
                    }
                    found = firstWay(x, choice) != was ? d : NOT;
                }
                due("edge(0, " + at + ", " + up + ")", suit.make().edge(0, at, up), found);
            }
        }
    }

    private static void edgesOfNodes(Suit suit, int choice) {
        int was = choice < 0 ? -1 : firstWay(suit.make(), choice);
        SueOrSettle y = suit.make();
        int most = NOT;
        int least = 41;
        for (int node = 0; node < y.node(0, 0, 2); node++) {
            int ways = y.node(0, node, 0) == 1 ? y.node(0, node, 1) : 0;
            for (int way = y.node(0, node, 0) == 0 ? -1 : 0; way < ways; way++) {
                for (int up = 0; up < 2; up++) {
                    int found = choice < 0 ? NOT : moved(suit.make(), node, way, up, choice, was);
                    due("edgeOf(0, " + node + ", " + way + ", " + up + ")", suit.make().edgeOf(0, node, way, up), found);
                    if (way == -1 && found > 0 && found < least) {
                        least = found;
                        most = node;
                    }
                }
            }
        }
        due("most(0)", suit.make().most(0), most);
    }

    private static int moved(SueOrSettle x, int node, int way, int up, int choice, int was) {
        int v = way == -1 ? x.node(0, node, 1) : x.node(0, node, 20 + way);
        for (int d = 1; d <= 40; d++) {
            if (x.change(0, node, way, up == 1 ? v + d : v - d) == SueOrSettle.VOID) {
                return NOT;
            }
            if (firstWay(x, choice) != was) {
                return d;
            }
        }
        return NOT;
    }

    // ---- doubt

    private static void doubts(Suit suit) {
        for (int t = 0; t < suit.ways.length; t++) {
            int a = 1 + suit.random.nextInt(30);
            int b = a + suit.random.nextInt(12);
            if (suit.on[t] < 0) {
                doubtOf(suit, t, a, b);
            }
        }
    }

    private static List<Integer> planOf(SueOrSettle x, List<Integer> choices) {
        List<Integer> plan = new ArrayList<>();
        for (int choice : choices) {
            plan.add(x.plan(0, choice, -1));
        }
        return plan;
    }

    private static SueOrSettle withPlan(Suit suit, List<Integer> choices, List<Integer> plan) {
        SueOrSettle x = suit.make();
        for (int c = 0; c < choices.size(); c++) {
            x.plan(0, choices.get(c), plan.get(c));
        }
        return x;
    }

    private static void doubtOf(Suit suit, int t, int a, int b) {
        List<Integer> choices = choices(suit.make());
        List<Integer> told = new ArrayList<>();
        for (int choice : choices) {
            told.add(suit.random.nextInt(suit.make().node(0, choice, 1)));
        }
        int held = 0;
        Fraction worst = null;
        Map<List<Integer>, Integer> times = new HashMap<>();
        List<List<Integer>> inOrder = new ArrayList<>();
        for (int v = a; v <= b; v++) {
            SueOrSettle x = withPlan(suit, choices, told);
            x.weight(t, 0, 0, v);
            Fraction now = judged(x, COIN);
            held += now.equals(best(x, 0, COIN)) ? 1 : 0;
            worst = worst == null || now.compareTo(worst) < 0 ? now : worst;
            x.best(0, COIN, 2);
            List<Integer> plan = planOf(x, choices);
            if (times.merge(plan, 1, Integer::sum) == 1) {
                inOrder.add(plan);
            }
        }
        List<Integer> steady = inOrder.get(0);
        for (List<Integer> plan : inOrder) {
            steady = times.get(plan) > times.get(steady) ? plan : steady;
        }
        SueOrSettle x = withPlan(suit, choices, told);
        int ab = 100 * a + b;
        String of = "(0, " + t + ", " + ab + ")";
        due("doubt" + of + " held", x.doubt(0, t, ab, 0), held);
        due("worst" + of, new Fraction(x.worst(0, t, ab, 0), x.worst(0, t, ab, 1)), worst);
        due("plan(..) that stays", planOf(x, choices), told);
        due("doubt" + of + " steady", x.doubt(0, t, ab, 1), times.get(steady));
        due("plan(..) that is steady", planOf(x, choices), steady);
    }

    // ---- odds, runs

    private static void odds(Suit suit) {
        SueOrSettle x = suit.make();
        List<Integer> codes = new ArrayList<>();
        List<Long> numbers = new ArrayList<>();
        long sum = 0;
        for (int state = 0; state < 1 << 2 * suit.ways.length; state++) {
            long number = x.number(state);
            if (number >= 0) {
                codes.add(state);
                numbers.add(number);
                sum += number;
            }
        }
        due("bottom()", x.bottom(), sum);
        for (int i = 0; i < 40; i++) {
            int of = told(suit);
            int given = told(suit);
            long both = 0;
            long those = 0;
            for (int k = 0; k < codes.size(); k++) {
                those += agrees(codes.get(k), given) ? numbers.get(k) : 0;
                both += agrees(codes.get(k), given) && agrees(codes.get(k), of) ? numbers.get(k) : 0;
            }
            Fraction want = new Fraction(both, those);
            due("chance(" + of + ", " + given + ", 0)", x.chance(of, given, 0), want.top.longValue());
            due("chance(" + of + ", " + given + ", 1)", x.chance(of, given, 1), want.bottom.longValue());
        }
    }

    private static int told(Suit suit) {
        int code = 0;
        for (int t = 0; t < suit.ways.length; t++) {
            code |= suit.random.nextInt(suit.ways[t] + 1) << 2 * t;
        }
        return code;
    }

    private static boolean agrees(int state, int code) {
        for (int t = 0; t < 4; t++) {
            int digit = code >> 2 * t & 3;
            if (digit != 0 && digit - 1 != (state >> 2 * t & 3)) {
                return false;
            }
        }
        return true;
    }

    /** Runs one behind the other go on with the number that the run ahead left. */
    private static void runs(Suit suit) {
        SueOrSettle x = suit.make();
        x.best(0, COIN, 2);
        int seed = suit.random.nextInt();
        int z = seed;
        int sum = 0;
        for (int i = 1; i <= 20; i++) {
            sum += x.run(0, z, 1);
            for (int t = 0; t < suit.ways.length; t++) {
                z = z * 1103515245 + 12345;
            }
            due("run(0, " + seed + ", " + i + ")", x.run(0, seed, i), sum);
        }
    }

    public static void main(String[] args) {
        int from = args.length > 2 ? Integer.parseInt(args[2]) : 0;
        int runs = args.length > 1 ? Integer.parseInt(args[1]) : RUNS;
        for (run = from; run < from + runs && wrong <= MOST_SHOWN; run++) {
            Suit suit = new Suit(run);
            if (fits(suit.tree) && suit.make().bottom() > 0) {
                plans(suit);
                asking(suit);
                forks(suit, suit.tree, 0, false);
                edges(suit, firstChoice(suit));
                edgesOfNodes(suit, firstChoice(suit));
                doubts(suit);
                odds(suit);
                runs(suit);
            }
        }
        if (args.length > 3) {
            System.out.println(seen);
        }
        System.out.println(asked + " answers found once more by other calls, " + wrong + " differ");
        if (wrong != 0) {
            System.exit(1);
        }
    }
}
