import java.util.ArrayList;
import java.util.List;
import java.util.function.Supplier;

/**
 * Every refused call: its answer (of several the one named first), and that it changed nothing. An object is made twice
 * by the same calls, once with the refused call behind them; then all that can be seen of both is looked at.
 */
public final class RefusalTest {
    private static final int BAD = -1, NOT = -2, FULL = -3, BIG = -4, STATE = -5, VOID = -2000000000;
    private static final int NOTHING = -11, OTHER = -12, PLACE = -13, SIZE = -14;
    private static final long NONE = Long.MIN_VALUE;
    private static final int MIN = Integer.MIN_VALUE, MAX = Integer.MAX_VALUE;
    private static int wrong = 0;
    private static int asked = 0;

    private interface Call {
        long on(SueOrSettle x);
    }

    private interface Look {
        void at(SueOrSettle x, List<Long> seen);
    }

    private static final Look[] LOOKS = {RefusalTest::atThings, RefusalTest::atTape, RefusalTest::atQuarrels,
        RefusalTest::atChanges, RefusalTest::atFeelings, RefusalTest::atTable, RefusalTest::atOffers,
        RefusalTest::atDays, RefusalTest::atShelves};

    // ---------------------------------------------------------------- what can be seen, each on an object of its own

    private static void atThings(SueOrSettle x, List<Long> seen) {
        seen.add(x.bottom());
        for (int state = 0; state < 64; state++) {
            seen.add(x.number(state));
        }
        for (int i = 0; i < 36; i++) {
            seen.add((long) x.weight(i / 9, i / 3 % 3, i % 3, 1));
        }
        for (int i = 1; i < 4; i++) {
            seen.add((long) x.hang(i, 0));
        }
        seen.add((long) x.thing(2));
    }

    private static void atTape(SueOrSettle x, List<Long> seen) {
        seen.add((long) x.count(2));
        int told = x.quarrel();
        seen.add((long) told);
        for (int node = 0; node < 8; node++) {
            seen.add((long) x.node(told, node, 0));
            seen.add((long) x.node(told, node, 1));
        }
        seen.add((long) x.count(2));
    }

    private static void atQuarrels(SueOrSettle x, List<Long> seen) {
        for (int quarrel = 0; quarrel < 6; quarrel++) {
            int size = x.node(quarrel, 0, 2);
            seen.add((long) size);
            for (int node = 0; node < Math.min(8, size); node++) {
                for (int what : new int[] {0, 1, 20, 21}) {
                    seen.add((long) x.node(quarrel, node, what));
                }
                seen.add((long) x.plan(quarrel, node, -1));
            }
        }
    }

    /** Does again all that can be, and undoes all. */
    private static void atChanges(SueOrSettle x, List<Long> seen) {
        seen.add((long) x.count(4));
        for (int i = 0; i < 41; i++) {
            seen.add((long) x.redo());
        }
        seen.add((long) x.run(0, 77, 200));
        seen.add((long) x.count(4));
        for (int i = 0; i < 41; i++) {
            seen.add((long) x.undo());
            seen.add((long) x.run(0, 77, 200));
            seen.add((long) x.node(0, 0, 21));
        }
    }

    private static void atFeelings(SueOrSettle x, List<Long> seen) {
        seen.add((long) x.count(3));
        seen.add((long) x.count(5));
        for (int i = 0; i < 12; i++) {
            seen.add((long) x.trace(i));
        }
        for (int feeling = 0; feeling <= 20; feeling++) {
            for (int value : new int[] {-300, 7, 300}) {
                seen.add((long) x.counts(feeling, value));
            }
            seen.add((long) x.act(feeling, 3, 5));
            seen.add((long) x.count(5));
        }
        seen.add((long) x.step(1, 1));
    }

    private static void atTable(SueOrSettle x, List<Long> seen) {
        for (int i = -1; i < 16; i++) {
            seen.add((long) x.sure(i));
        }
        for (int what = 0; what < 2; what++) {
            seen.add((long) x.lots(what));
            seen.add((long) x.struck(what));
        }
        for (int i = 0; i < 50; i++) {
            seen.add((long) x.cell(i / 10 * 10 + i % 10 / 2, i % 2, 0));
        }
    }

    private static void atOffers(SueOrSettle x, List<Long> seen) {
        for (int d : new int[] {0, 5, 9, 20, 35, 50, 99}) {
            for (int what = 0; what < 3; what++) {
                seen.add((long) x.holds(d, what));
            }
        }
        seen.add((long) x.clear());
        for (int won : new int[] {1, 100, 500, 999}) {
            for (int what = 0; what < 4; what++) {
                seen.add((long) x.hired(won, what));
            }
        }
        seen.add((long) x.hired(0, -1));
    }

    private static void atDays(SueOrSettle x, List<Long> seen) {
        for (int day = 0; day < 20; day++) {
            for (int court : new int[] {-700, 0, 300}) {
                seen.add(x.waits(100 * day + day + 1, court, 0));
                seen.add(x.waits(100 * day + day + 1, court, 1));
            }
        }
    }

    private static void atShelves(SueOrSettle x, List<Long> seen) {
        for (int shelf = 0; shelf < 6; shelf++) {
            for (int i = 0; i < 10; i++) {
                seen.add(x.element(shelf, i));
            }
            seen.add(x.element(shelf, 59));
            seen.add((long) x.put(shelf, 59, 1));
            for (int kind = 0; kind < 6; kind++) {
                seen.add((long) x.taken(shelf, kind));
            }
            for (int sort = 0; sort < 5; sort++) {
                x.row((shelf + 1) % 6, sort, 60);
                seen.add((long) x.shift((shelf + 1) % 6, 0, shelf, 0, 0));
            }
        }
    }

    // ---------------------------------------------------------------- the objects

    private static void feed(SueOrSettle x, String text) {
        for (int i = 0; i < text.length(); i += 4) {
            int v = 0;
            int n = Math.min(4, text.length() - i);
            for (int k = 0; k < n; k++) {
                v |= text.charAt(i + k) << 8 * k;
            }
            x.feed(n, v);
        }
    }

    private static void tell(SueOrSettle x, String text) {
        feed(x, text);
        x.quarrel();
    }

    /** Something of each, nothing full: the thing b hangs on a, c on none; four changes, of which one is undone. */
    private static SueOrSettle busy() {
        SueOrSettle x = quiet();
        feed(x, "?(1:2)");
        x.act(5, 3, 1);
        return x;
    }

    /** The same without a tape and a trace. */
    private static SueOrSettle quiet() {
        SueOrSettle x = new SueOrSettle();
        x.thing(3);
        x.thing(2);
        x.hang(1, 0);
        x.thing(2);
        x.weight(0, 0, 1, 2);
        x.weight(1, 2, 1, 5);
        tell(x, "?(3:?(1:4,2:6),5:!a(8,!b(9,1),-7))");
        tell(x, "?(0:!a(?(0:1,0:2),3,4),1:5)");
        x.plan(0, 0, 1);
        x.plan(0, 1, 1);
        x.plan(1, 0, 1);
        x.plan(1, 2, 1);
        x.change(0, 0, 1, 4);
        x.change(0, 2, -1, 44);
        x.undo();
        busyFeelings(x);
        x.table(3, 2);
        x.cell(20, 0, 9);
        x.cell(11, 1, -4);
        x.sort(2, 80, 10);
        x.sort(1, 30, 5);
        x.offer(60);
        x.offer(25);
        x.effort(0, 10);
        x.effort(30, 60);
        x.day(0, 100, 50, 5);
        x.day(19, 200, 30, 5);
        busyShelves(x);
        return x;
    }

    private static void busyFeelings(SueOrSettle x) {
        for (int kind = 0; kind < 6; kind++) {
            x.feeling(kind, 10 * kind);
        }
        x.step(0, 5);
        x.step(50, 2);
    }

    /** A feeling, nothing, and rows of shorts, ints and longs, the last of which is empty. */
    private static void busyShelves(SueOrSettle x) {
        x.keep(0, 3);
        x.row(2, 1, 7);
        for (int i = 0; i < 7; i++) {
            x.put(2, i, i == 4 ? 101 : 3 * i);
        }
        x.row(3, 2, 5);
        x.put(3, 4, -9);
        x.row(4, 3, 0);
        x.row(5, 1, 60);
        x.put(5, 59, 7);
    }

    private static SueOrSettle full() {
        SueOrSettle x = new SueOrSettle();
        for (int i = 0; i < 4; i++) {
            x.thing(2);
        }
        for (int i = 0; i < 6; i++) {
            tell(x, "?(1:2,3:4)");
        }
        for (int i = 0; i < 20; i++) {
            x.feeling(i % 6, i);
        }
        for (int i = 0; i < 6; i++) {
            x.step(10 * i, i);
        }
        for (int i = 0; i < 45; i++) {
            x.change(0, 0, 1, 50 + i);
        }
        for (int i = 0; i < 50; i++) {
            x.feed(4, 0x31313131);
        }
        for (int i = 0; i < 4; i++) {
            x.sort(1 + i, 20 * i, i);
            x.offer(20 * i);
            x.effort(20 * i, 30 * i);
        }
        return x;
    }

    /** Things whose bottom is too big, and what busy() has beside them. */
    private static SueOrSettle big() {
        SueOrSettle x = new SueOrSettle();
        for (int thing = 0; thing < 4; thing++) {
            x.thing(3);
            if (thing > 0) {
                x.hang(thing, thing - 1);
            }
            for (int row = 0; row < (thing > 0 ? 3 : 1); row++) {
                x.weight(thing, row, 0, 97);
                x.weight(thing, row, 1, 95 + row);
                x.weight(thing, row, 2, 99);
            }
        }
        tell(x, "?(3:?(1:4,2:6),5:!a(8,7,-7))");
        tell(x, "!a(1,2,3)");
        x.plan(0, 0, 1);
        x.plan(0, 1, 1);
        x.undo();
        busyFeelings(x);
        return x;
    }

    // ---------------------------------------------------------------- refusals

    private static void refused(Supplier<SueOrSettle> maker, String what, Call call, long want) {
        becomes(maker, what, call, want, maker);
    }

    /** The call answers so, and then all is as in an object that another maker makes. */
    private static void becomes(Supplier<SueOrSettle> maker, String what, Call call, long want, Supplier<SueOrSettle> then) {
        asked++;
        for (Look look : LOOKS) {
            SueOrSettle before = then.get();
            SueOrSettle after = maker.get();
            long got = call.on(after);
            if (got != want) {
                wrong++;
                System.out.println(what + " answered " + got + ", due is " + want);
                return;
            }
            List<Long> seenBefore = new ArrayList<>();
            List<Long> seenAfter = new ArrayList<>();
            look.at(before, seenBefore);
            look.at(after, seenAfter);
            if (!seenBefore.equals(seenAfter)) {
                wrong++;
                System.out.println(what + " answered as due, but changed something: " + seenBefore + " became " + seenAfter);
                return;
            }
        }
    }

    private static final Supplier<SueOrSettle> NEW = SueOrSettle::new, BUSY = RefusalTest::busy, ALL = RefusalTest::full,
            HUGE = RefusalTest::big, QUIET = RefusalTest::quiet;

    public static void main(String[] args) {
        things();
        tape();
        nodes();
        feelings();
        plans();
        asking();
        edges();
        doubts();
        tables();
        offers();
        hiredAndDays();
        rows();
        others();
        bigness();
        fullness();
        emptied();
        onlyAsked();
        System.out.println(asked + " refusals, " + wrong + " wrong");
        if (wrong != 0) {
            System.exit(1);
        }
    }

    private static void things() {
        for (int ways : new int[] {MIN, -1, 0, 1, 4, 5, MAX}) {
            refused(NEW, "thing(" + ways + ")", x -> x.thing(ways), BAD);
            refused(BUSY, "bad ahead of state: thing(" + ways + ")", x -> x.thing(ways), BAD);
            refused(ALL, "bad ahead of full: thing(" + ways + ")", x -> x.thing(ways), BAD);
        }
        refused(BUSY, "a quarrel was told: thing(2)", x -> x.thing(2), STATE);
        refused(BUSY, "a quarrel was told: thing(3)", x -> x.thing(3), STATE);
        refused(ALL, "state ahead of full: thing(2)", x -> x.thing(2), STATE);
        int[][] hangs = {{0, 0}, {1, 1}, {2, 2}, {1, 2}, {2, 3}, {2, -1}, {3, 0}, {-1, 0}, {0, -1}, {MIN, MIN}, {MAX, 0},
            {2, MAX}, {2, MIN}};
        for (int[] each : hangs) {
            refused(BUSY, "hang(" + each[0] + ", " + each[1] + ")", x -> x.hang(each[0], each[1]), BAD);
        }
        refused(NEW, "hang(0, 0)", x -> x.hang(0, 0), BAD);
        refused(NEW, "hang(1, 0)", x -> x.hang(1, 0), BAD);
        refused(BUSY, "it does, and a quarrel was told: hang(1, 0)", x -> x.hang(1, 0), STATE);
        refused(BUSY, "a quarrel was told: hang(2, 0)", x -> x.hang(2, 0), STATE);
        refused(RefusalTest::untold, "it does: hang(1, 0)", x -> x.hang(1, 0), STATE);
        refused(RefusalTest::untold, "it does: hang(2, 1)", x -> x.hang(2, 1), STATE);
        refused(RefusalTest::untold, "bad ahead of state: hang(2, 2)", x -> x.hang(2, 2), BAD);
        int[][] weights = {{-1, 0, 0, 1}, {3, 0, 0, 1}, {MIN, 0, 0, 1}, {MAX, 0, 0, 1}, {0, -1, 0, 1}, {0, 1, 0, 1},
            {1, 3, 0, 1}, {1, -1, 0, 1}, {2, 1, 0, 1}, {0, 0, -1, 1}, {0, 0, 3, 1}, {1, 0, 2, 1}, {2, 0, 2, 1}, {0, 0, 0, 0},
            {0, 0, 0, 100}, {0, 0, 0, -1}, {0, 0, 0, MIN}, {0, 0, 0, MAX}, {0, MAX, 0, 1}, {0, MIN, 0, 1}, {0, 0, MAX, 1},
            {0, 0, MIN, 1}};
        for (int[] w : weights) {
            refused(BUSY, "weight " + java.util.Arrays.toString(w), x -> x.weight(w[0], w[1], w[2], w[3]), BAD);
        }
        refused(NEW, "no thing: weight", x -> x.weight(0, 0, 0, 1), BAD);
        for (int state : new int[] {-1, 3, 8, 12, 32, 48, 64, 256, MIN, MAX}) {
            refused(BUSY, "number(" + state + ")", x -> x.number(state), BAD);
        }
        refused(NEW, "number(1)", x -> x.number(1), BAD);
        for (int told : new int[] {-1, 12, 48, 64, 256, MIN, MAX}) {
            refused(BUSY, "chance(" + told + ", 0, 0)", x -> x.chance(told, 0, 0), BAD);
            refused(BUSY, "chance(0, " + told + ", 1)", x -> x.chance(0, told, 1), BAD);
        }
        refused(NEW, "chance(1, 0, 0)", x -> x.chance(1, 0, 0), BAD);
        for (int what : new int[] {-1, 2, MIN, MAX}) {
            refused(BUSY, "chance(0, 0, " + what + ")", x -> x.chance(0, 0, what), BAD);
        }
    }

    /** Two hang, no quarrel is told, a weight can be undone and one be done again. */
    private static SueOrSettle untold() {
        SueOrSettle x = new SueOrSettle();
        x.thing(2);
        x.thing(2);
        x.thing(3);
        x.hang(1, 0);
        x.hang(2, 0);
        x.weight(2, 1, 2, 9);
        x.weight(2, 0, 2, 8);
        x.undo();
        return x;
    }

    private static void tape() {
        for (int n : new int[] {0, 5, -1, MIN, MAX}) {
            refused(BUSY, "feed(" + n + ", ..)", x -> x.feed(n, 0x31313131), BAD);
            refused(ALL, "bad ahead of full: feed(" + n + ", ..)", x -> x.feed(n, 0x31313131), BAD);
        }
        for (int n = 1; n <= 4; n++) {
            int many = n;
            refused(ALL, "200 are there: feed(" + n + ", ..)", x -> x.feed(many, 0x31313131), FULL);
        }
        for (int n = 2; n <= 4; n++) {
            int many = n;
            refused(() -> tapeOf(201 - many), "201 would be there: feed(" + n + ", ..)", x -> x.feed(many, '1'), FULL);
        }
        refused(ALL, "six are told: quarrel()", SueOrSettle::quarrel, FULL);
        refused(NEW, "none: undo()", SueOrSettle::undo, STATE);
        refused(NEW, "none: redo()", SueOrSettle::redo, STATE);
        refused(ALL, "none: redo()", SueOrSettle::redo, STATE);
    }

    private static SueOrSettle tapeOf(int size) {
        SueOrSettle x = new SueOrSettle();
        for (int i = 0; i < size; i++) {
            x.feed(1, i == 0 ? '5' : i == 1 ? '6' : ' ');
        }
        return x;
    }

    private static void nodes() {
        // Of the first quarrel: 0 and 1 are choices of 2 ways, 2 an end, 4 what turns out.
        int[][] nodes = {{-1, 0, 0}, {2, 0, 0}, {MAX, 0, 2}, {-1, 0, 2}, {2, 0, 2}, {0, -1, 0}, {0, 10, 0}, {0, 10, 1},
            {0, MIN, 1}, {0, MAX, 10}, {0, 0, -1}, {0, 0, 3}, {0, 0, 9}, {0, 0, 12}, {0, 0, 19}, {0, 0, 22}, {0, 0, 30},
            {0, 0, MIN}, {0, 0, MAX}, {0, 2, 10}, {0, 2, 20}, {0, 4, 13}, {0, 4, 20}, {0, 9, 10}, {0, 9, 20}};
        for (int[] n : nodes) {
            refused(BUSY, "node " + java.util.Arrays.toString(n), x -> x.node(n[0], n[1], n[2]), VOID);
        }
        refused(NEW, "no quarrel: node", x -> x.node(0, 0, 2), VOID);
        int[][] changes = {{-1, 0, 0, 1}, {2, 0, 0, 1}, {0, -1, 0, 1}, {0, 10, -1, 1}, {0, 0, 2, 1}, {0, 0, -1, 1},
            {0, 0, -2, 1}, {0, 4, 0, 1}, {0, 4, -1, 1}, {0, 2, 0, 1}, {0, 0, 0, -1}, {0, 0, 0, 100}, {0, 2, -1, 1000},
            {0, 2, -1, -1000}, {0, 0, 0, MIN}, {0, 0, 0, MAX}, {0, 2, -1, MIN}, {0, 2, -1, MAX}, {0, 0, MAX, 1},
            {0, 0, MIN, 1}, {MAX, 0, 0, 1}, {0, MAX, 0, 1}};
        for (int[] c : changes) {
            refused(BUSY, "change " + java.util.Arrays.toString(c), x -> x.change(c[0], c[1], c[2], c[3]), VOID);
        }
        refused(NEW, "no quarrel: change", x -> x.change(0, 0, -1, 1), VOID);
    }

    private static void feelings() {
        int[][] feelings = {{-1, 0}, {6, 0}, {MIN, 0}, {MAX, 0}, {4, -1}, {4, 101}, {5, -1}, {5, 101}, {4, MIN}, {5, MAX}};
        for (int[] f : feelings) {
            refused(BUSY, "feeling " + f[0] + " " + f[1], x -> x.feeling(f[0], f[1]), BAD);
            refused(ALL, "bad ahead of full: feeling " + f[0] + " " + f[1], x -> x.feeling(f[0], f[1]), BAD);
        }
        int[][] steps = {{-10000, 1}, {10000, 1}, {MIN, 1}, {MAX, 1}, {0, -1}, {0, 10}, {0, MIN}, {0, MAX}};
        for (int[] s : steps) {
            refused(BUSY, "step " + s[0] + " " + s[1], x -> x.step(s[0], s[1]), BAD);
            refused(ALL, "bad ahead of full: step " + s[0] + " " + s[1], x -> x.step(s[0], s[1]), BAD);
        }
        int[][] counts = {{-1, 0}, {6, 0}, {MIN, 0}, {MAX, 0}, {0, 10000}, {0, -10000}, {1, 10000}, {1, -10000}, {3, MAX},
            {5, MIN}};
        for (int[] c : counts) {
            refused(BUSY, "counts " + c[0] + " " + c[1], x -> x.counts(c[0], c[1]), VOID);
        }
        for (int i : new int[] {-1, 10, 24, MIN, MAX}) {
            refused(BUSY, "trace(" + i + ")", x -> x.trace(i), BAD);
        }
        refused(NEW, "trace(0)", x -> x.trace(0), BAD);
    }

    private static void plans() {
        int[][] asked = {{-1, 0, 0}, {2, 0, 0}, {MIN, 0, 0}, {0, -1, 0}, {0, 6, 0}, {0, MAX, 0}, {0, 0, -1}, {0, 0, MIN},
            {0, 0, MAX}};
        for (int[] a : asked) {
            refused(BUSY, "best " + java.util.Arrays.toString(a), x -> x.best(a[0], a[1], a[2]), NONE);
            refused(BUSY, "judge " + java.util.Arrays.toString(a), x -> x.judge(a[0], a[1], a[2]), NONE);
        }
        refused(BUSY, "best, what 3", x -> x.best(0, 0, 3), NONE);
        refused(BUSY, "best of no quarrel, what 2", x -> x.best(2, 0, 2), NONE);
        refused(BUSY, "best with no feeling, what 2", x -> x.best(0, 6, 2), NONE);
        refused(BUSY, "judge, what 2", x -> x.judge(0, 0, 2), NONE);
        refused(NEW, "best of nothing", x -> x.best(0, 0, 0), NONE);
        refused(NEW, "judge of nothing", x -> x.judge(0, 0, 0), NONE);
        int[][] plans = {{-1, 0, 0}, {2, 0, 0}, {0, -1, 0}, {0, 10, 0}, {0, 2, 0}, {0, 2, -1}, {0, 4, 0}, {0, 4, -1},
            {0, 0, 2}, {0, 0, -2}, {0, 0, MIN}, {0, 0, MAX}, {0, MAX, -1}, {0, MIN, -1}, {2, 0, -1}};
        for (int[] p : plans) {
            refused(BUSY, "plan " + java.util.Arrays.toString(p), x -> x.plan(p[0], p[1], p[2]), BAD);
        }
        for (int quarrel : new int[] {-1, 2, MIN, MAX}) {
            refused(BUSY, "shortOf(" + quarrel + ", 0)", x -> x.shortOf(quarrel, 0), BAD);
            refused(BUSY, "tell(" + quarrel + ", -1)", x -> x.tell(quarrel, -1), BAD);
        }
        for (int feeling : new int[] {-1, 6, MIN, MAX}) {
            refused(BUSY, "shortOf(0, " + feeling + ")", x -> x.shortOf(0, feeling), BAD);
        }
        // By the plan one choice is come to.
        for (int i : new int[] {-2, 1, MIN, MAX}) {
            refused(BUSY, "tell(0, " + i + ")", x -> x.tell(0, i), BAD);
        }
        int[][] forks = {{-1, 0, 0, 0}, {2, 0, 0, 0}, {0, -1, 0, 0}, {0, 10, 0, 0}, {0, 2, 0, 0}, {0, 4, 0, 0}, {0, 0, -1, 0},
            {0, 0, 2, 0}, {0, 0, 0, -1}, {0, 0, 0, 2}, {MAX, 0, 0, 0}, {0, MAX, 0, 0}, {0, 0, MAX, 0}, {0, 0, MIN, 0},
            {0, 0, 0, MAX}};
        for (int[] f : forks) {
            refused(BUSY, "fork " + java.util.Arrays.toString(f), x -> x.fork(f[0], f[1], f[2], f[3]), NONE);
        }
        refused(BUSY, "none is better: shortOf", x -> x.shortOf(1, 2), NOT);
    }

    private static void asking() {
        int[][] asks = {{-1, 0, 0}, {2, 0, 0}, {0, -2, 0}, {0, 3, 0}, {0, 4, 0}, {0, 0, -1}, {0, 0, 2}, {MIN, 0, 0}, {0, MIN, 0},
            {0, MAX, 0}, {0, -1, 2}, {2, -1, 0}};
        for (int[] a : asks) {
            refused(BUSY, "ask " + java.util.Arrays.toString(a), x -> x.ask(a[0], a[1], a[2]), NONE);
        }
        int[][] both = {{-1, 0, 1, 0}, {2, 0, 1, 0}, {0, 0, 0, 0}, {0, 2, 2, 1}, {0, -1, 1, 0}, {0, 1, -1, 0}, {0, 3, 1, 0},
            {0, 1, 3, 0}, {0, 0, 1, -1}, {0, 0, 1, 2}, {0, -1, -1, 0}, {0, MAX, 1, 0}, {0, 1, MIN, 0}};
        for (int[] b : both) {
            refused(BUSY, "together " + java.util.Arrays.toString(b), x -> x.together(b[0], b[1], b[2], b[3]), NONE);
        }
        for (int quarrel : new int[] {-1, 2, MIN, MAX}) {
            refused(BUSY, "first(" + quarrel + ")", x -> x.first(quarrel), BAD);
            refused(BUSY, "most(" + quarrel + ")", x -> x.most(quarrel), BAD);
        }
        refused(RefusalTest::noThings, "without things: first(0)", x -> x.first(0), BAD);
        refused(RefusalTest::noThings, "without things: ask(0, 0, 0)", x -> x.ask(0, 0, 0), NONE);
        refused(RefusalTest::noThings, "without things: together", x -> x.together(0, 0, 1, 0), NONE);
    }

    private static SueOrSettle noThings() {
        SueOrSettle x = new SueOrSettle();
        tell(x, "?(0:1,0:99)");
        tell(x, "7");
        return x;
    }

    private static void edges() {
        int[][] edges = {{-1, 0, 0}, {2, 0, 0}, {0, -1, 0}, {0, 3, 0}, {0, 10, 0}, {0, 102, 0}, {0, 130, 0}, {0, 202, 0},
            {0, 210, 0}, {0, 300, 0}, {0, 400, 0}, {0, 0, -1}, {0, 0, 2}, {0, MIN, 0}, {0, MAX, 0}, {0, 0, MIN}, {0, 0, MAX},
            {0, -100, 0}};
        for (int[] e : edges) {
            refused(BUSY, "edge " + java.util.Arrays.toString(e), x -> x.edge(e[0], e[1], e[2]), BAD);
        }
        int[][] others = {{-1, 0, 0, 0}, {2, 0, 0, 0}, {0, -1, -1, 0}, {0, 10, -1, 0}, {0, 0, -1, 0}, {0, 0, -2, 0},
            {0, 0, 2, 0}, {0, 2, 0, 0}, {0, 4, 0, 0}, {0, 4, -1, 0}, {0, 0, 0, -1}, {0, 0, 0, 2}, {0, MAX, -1, 0},
            {0, 0, MAX, 0}, {0, 0, MIN, 0}, {0, 2, -1, 2}, {0, 2, -1, -1}};
        for (int[] e : others) {
            refused(BUSY, "edgeOf " + java.util.Arrays.toString(e), x -> x.edgeOf(e[0], e[1], e[2], e[3]), BAD);
        }
        refused(BUSY, "it does not matter: edge of c", x -> x.edge(0, 200, 1), NOT);
        refused(RefusalTest::noThings, "98 moves: most", x -> x.most(0), NOT);
        refused(RefusalTest::noThings, "98 moves: edgeOf", x -> x.edgeOf(0, 1, -1, 1), NOT);
        refused(RefusalTest::noThings, "no choice: most", x -> x.most(1), NOT);
        refused(RefusalTest::noThings, "no choice: edgeOf", x -> x.edgeOf(1, 0, -1, 1), NOT);
        refused(RefusalTest::noThings, "no thing: edge", x -> x.edge(0, 0, 1), BAD);
    }

    private static void doubts() {
        int[][] doubts = {{-1, 0, 101, 0}, {2, 0, 101, 0}, {0, -1, 101, 0}, {0, 3, 101, 0}, {0, 1, 101, 0}, {0, 0, 100, 0},
            {0, 0, 99, 0}, {0, 0, 0, 0}, {0, 0, 1, 0}, {0, 0, 201, 0}, {0, 0, 9998, 0}, {0, 0, 10000, 0}, {0, 0, 10099, 0},
            {0, 0, -101, 0}, {0, 0, 101, -1}, {0, 0, 101, 2}, {0, 0, MIN, 0}, {0, 0, MAX, 0}, {0, MAX, 101, 0},
            {0, 1, 105, 1}, {0, 0, 502, 1}, {2, 0, 105, 1}};
        for (int[] d : doubts) {
            refused(BUSY, "doubt " + java.util.Arrays.toString(d), x -> x.doubt(d[0], d[1], d[2], d[3]), BAD);
            refused(BUSY, "worst " + java.util.Arrays.toString(d), x -> x.worst(d[0], d[1], d[2], d[3]), NONE);
        }
    }

    private static void tables() {
        int[][] tables = {{0, 1}, {1, 0}, {5, 1}, {1, 5}, {-1, 2}, {2, -1}, {MIN, 2}, {2, MAX}, {0, 0}, {5, 5}};
        for (int[] t : tables) {
            refused(BUSY, "table " + t[0] + " " + t[1], x -> x.table(t[0], t[1]), BAD);
            refused(NEW, "table " + t[0] + " " + t[1], x -> x.table(t[0], t[1]), BAD);
        }
        int[][] cells = {{-1, 0, 1}, {-10, 0, 1}, {2, 0, 1}, {9, 0, 1}, {12, 0, 1}, {30, 0, 1}, {31, 1, 1}, {0, -1, 1},
            {0, 2, 1}, {0, 0, 100}, {0, 0, -100}, {0, 1, MIN}, {0, 1, MAX}, {MIN, 0, 1}, {MAX, 0, 1}, {0, MAX, 1}};
        for (int[] c : cells) {
            refused(BUSY, "cell " + java.util.Arrays.toString(c), x -> x.cell(c[0], c[1], c[2]), VOID);
        }
        refused(NEW, "no table: cell", x -> x.cell(0, 0, 0), VOID);
        // Of the table: the row 2 gets 9, 0; the pairs (2, 0), (0, 1), (2, 1) and so on are counted in PromisesTest.
        for (int i : new int[] {-2, 6, MIN, MAX}) {
            refused(BUSY, "sure(" + i + ")", x -> x.sure(i), BAD);
        }
        for (int i = -2; i < 2; i++) {
            int place = i;
            refused(NEW, "no table: sure(" + i + ")", x -> x.sure(place), BAD);
        }
        for (int what : new int[] {-1, 2, MIN, MAX}) {
            refused(BUSY, "lots(" + what + ")", x -> x.lots(what), VOID);
            refused(NEW, "what ahead of state: lots(" + what + ")", x -> x.lots(what), VOID);
            refused(BUSY, "struck(" + what + ")", x -> x.struck(what), BAD);
        }
        refused(BUSY, "3 by 2: lots(0)", x -> x.lots(0), STATE);
        refused(NEW, "no table: lots(1)", x -> x.lots(1), STATE);
        refused(NEW, "no table: struck(0)", x -> x.struck(0), BAD);
        refused(NEW, "no table: struck(1)", x -> x.struck(1), BAD);
    }

    private static void offers() {
        int[][] sorts = {{0, 1, 1}, {10, 1, 1}, {-1, 1, 1}, {1, -1, 1}, {1, 100, 1}, {1, 1, -1}, {1, 1, 100}, {MIN, 1, 1},
            {MAX, 1, 1}, {1, MAX, 1}, {1, 1, MIN}};
        for (int[] s : sorts) {
            refused(BUSY, "sort " + java.util.Arrays.toString(s), x -> x.sort(s[0], s[1], s[2]), BAD);
            refused(ALL, "bad ahead of full: sort " + java.util.Arrays.toString(s), x -> x.sort(s[0], s[1], s[2]), BAD);
        }
        for (int sum : new int[] {-1, 100, MIN, MAX}) {
            refused(BUSY, "offer(" + sum + ")", x -> x.offer(sum), BAD);
            refused(ALL, "bad ahead of full: offer(" + sum + ")", x -> x.offer(sum), BAD);
        }
        refused(BUSY, "told: offer(60)", x -> x.offer(60), BAD);
        refused(BUSY, "told: offer(25)", x -> x.offer(25), BAD);
        refused(ALL, "told ahead of full: offer(40)", x -> x.offer(40), BAD);
        int[][] holds = {{-1, 0}, {100, 0}, {0, -1}, {0, 3}, {MIN, 1}, {MAX, 2}, {0, MIN}, {0, MAX}};
        for (int[] h : holds) {
            refused(BUSY, "holds " + h[0] + " " + h[1], x -> x.holds(h[0], h[1]), BAD);
            refused(NEW, "bad ahead of state: holds " + h[0] + " " + h[1], x -> x.holds(h[0], h[1]), BAD);
        }
        for (int what = 0; what < 3; what++) {
            int asks = what;
            refused(NEW, "neither: holds(0, " + what + ")", x -> x.holds(0, asks), STATE);
            refused(() -> offering(true, false), "no offer: holds(0, " + what + ")", x -> x.holds(0, asks), STATE);
            refused(() -> offering(false, true), "no sort: holds(0, " + what + ")", x -> x.holds(0, asks), STATE);
        }
        refused(() -> offering(true, true), "none holds: holds(0, 1)", x -> x.holds(0, 1), NOT);
        refused(() -> offering(true, true), "none holds: holds(0, 2)", x -> x.holds(0, 2), NOT);
    }

    /** Sorts and offers of which no profile holds with d 0. */
    private static SueOrSettle offering(boolean sorts, boolean offers) {
        SueOrSettle x = new SueOrSettle();
        if (sorts) {
            x.sort(1, 50, 0);
            x.sort(1, 20, 5);
        }
        if (offers) {
            x.offer(50);
            x.offer(20);
        }
        return x;
    }

    private static void hiredAndDays() {
        int[][] efforts = {{-1, 0}, {100, 0}, {0, -1}, {0, 101}, {MIN, 0}, {MAX, 0}, {0, MIN}, {0, MAX}};
        for (int[] e : efforts) {
            refused(BUSY, "effort " + e[0] + " " + e[1], x -> x.effort(e[0], e[1]), BAD);
            refused(ALL, "bad ahead of full: effort " + e[0] + " " + e[1], x -> x.effort(e[0], e[1]), BAD);
        }
        int[][] hired = {{-1, 0}, {1000, 0}, {0, -2}, {0, 4}, {MIN, 0}, {MAX, 0}, {0, MIN}, {0, MAX}, {-1, -1}, {1000, -1}};
        for (int[] h : hired) {
            refused(BUSY, "hired " + h[0] + " " + h[1], x -> x.hired(h[0], h[1]), BAD);
            refused(NEW, "bad ahead of state: hired " + h[0] + " " + h[1], x -> x.hired(h[0], h[1]), BAD);
        }
        for (int what = 0; what < 4; what++) {
            int asks = what;
            refused(NEW, "none: hired(5, " + what + ")", x -> x.hired(5, asks), STATE);
            refused(RefusalTest::oneEffort, "one: hired(5, " + what + ")", x -> x.hired(5, asks), STATE);
        }
        int[][] days = {{-1, 0, 0, 0}, {20, 0, 0, 0}, {0, -1, 0, 0}, {0, 1000, 0, 0}, {0, 0, -1, 0}, {0, 0, 101, 0},
            {0, 0, 0, -1}, {0, 0, 0, 100}, {MIN, 0, 0, 0}, {MAX, 0, 0, 0}, {0, MAX, 0, 0}, {0, 0, MIN, 0}, {0, 0, 0, MAX}};
        for (int[] d : days) {
            refused(BUSY, "day " + java.util.Arrays.toString(d), x -> x.day(d[0], d[1], d[2], d[3]), BAD);
        }
        int[][] waits = {{0, 0, 0}, {21, 0, 0}, {101, 0, 0}, {2020, 0, 0}, {100, 0, 0}, {1919, 0, 0}, {-1, 0, 0}, {1, 1000, 0},
            {1, -1000, 0}, {1, 0, -1}, {1, 0, 2}, {MIN, 0, 0}, {MAX, 0, 0}, {1, MIN, 1}, {1, MAX, 1}, {99, 0, 0}, {-99, 0, 0},
            {-100, 0, 0}, {2021, 0, 0}};
        for (int[] w : waits) {
            refused(BUSY, "waits " + java.util.Arrays.toString(w), x -> x.waits(w[0], w[1], w[2]), NONE);
        }
    }

    private static SueOrSettle oneEffort() {
        SueOrSettle x = new SueOrSettle();
        x.effort(1, 50);
        return x;
    }

    private static void rows() {
        // Shelves of busy(): 0 a feeling, 1 nothing, 2 and 5 shorts (7, 60), 3 ints (5), 4 longs (0).
        int[][] days = {{-1, 0, 1}, {6, 0, 1}, {2, 0, 0}, {2, 0, 21}, {2, 0, -1}, {MIN, 0, 1}, {MAX, 0, 1}, {2, 0, MIN},
            {2, 0, MAX}, {0, 0, 0}, {1, 0, 21}};
        for (int[] d : days) {
            refused(BUSY, "days " + java.util.Arrays.toString(d), x -> x.days(d[0], d[1], d[2]), BAD);
        }
        for (int shelf : new int[] {0, 3, 4}) {
            refused(BUSY, "no row of shorts: days(" + shelf + ", 0, 1)", x -> x.days(shelf, 0, 1), OTHER);
            refused(BUSY, "no row of shorts: days(" + shelf + ", -1, 20)", x -> x.days(shelf, -1, 20), OTHER);
        }
        refused(BUSY, "missing: days(1, 0, 20)", x -> x.days(1, 0, 20), 0);
        for (int i : new int[] {-1, 3, 5, 6, 7, 8, MIN, MAX}) {
            refused(BUSY, "it ends: days(2, " + i + ", 20)", x -> x.days(2, i, 20), 0);
        }
        for (int shelf : new int[] {-1, 6, MIN, MAX}) {
            refused(BUSY, "keep(" + shelf + ", 0)", x -> x.keep(shelf, 0), BAD);
            refused(BUSY, "keep(" + shelf + ", -1)", x -> x.keep(shelf, -1), BAD);
            refused(BUSY, "row(" + shelf + ", 0, 1)", x -> x.row(shelf, 0, 1), BAD);
            refused(BUSY, "bad ahead of size: row(" + shelf + ", 0, -1)", x -> x.row(shelf, 0, -1), BAD);
            refused(BUSY, "put(" + shelf + ", 0, 1)", x -> x.put(shelf, 0, 1), BAD);
            refused(BUSY, "element(" + shelf + ", 0)", x -> x.element(shelf, 0), NONE);
            refused(BUSY, "shift from " + shelf, x -> x.shift(shelf, 0, 2, 0, 1), BAD);
            refused(BUSY, "shift to " + shelf, x -> x.shift(2, 0, shelf, 0, 1), BAD);
            refused(BUSY, "bad ahead of nothing: shift to " + shelf, x -> x.shift(1, 0, shelf, 0, 1), BAD);
            refused(BUSY, "bad ahead of kind: shift from " + shelf, x -> x.shift(shelf, 0, 0, 0, 1), BAD);
            refused(BUSY, "taken(" + shelf + ", 0)", x -> x.taken(shelf, 0), BAD);
        }
        for (int feeling : new int[] {-2, 6, MIN, MAX}) {
            refused(BUSY, "keep(0, " + feeling + ")", x -> x.keep(0, feeling), BAD);
            refused(BUSY, "keep(2, " + feeling + ")", x -> x.keep(2, feeling), BAD);
        }
        for (int sort : new int[] {-1, 5, MIN, MAX}) {
            refused(BUSY, "row(2, " + sort + ", 1)", x -> x.row(2, sort, 1), BAD);
            refused(BUSY, "bad ahead of size: row(2, " + sort + ", -1)", x -> x.row(2, sort, -1), BAD);
        }
        for (int n : new int[] {61, MAX}) {
            refused(BUSY, "row(2, 1, " + n + ")", x -> x.row(2, 1, n), BAD);
        }
        for (int n : new int[] {-1, MIN}) {
            refused(BUSY, "row(2, 1, " + n + ")", x -> x.row(2, 1, n), SIZE);
            refused(BUSY, "row(0, 1, " + n + ")", x -> x.row(0, 1, n), SIZE);
        }
        elements();
        shifts();
        for (int kind : new int[] {-1, 6, MIN, MAX}) {
            refused(BUSY, "taken(0, " + kind + ")", x -> x.taken(0, kind), BAD);
            refused(BUSY, "bad ahead of nothing: taken(1, " + kind + ")", x -> x.taken(1, kind), BAD);
            refused(BUSY, "bad ahead of kind: taken(2, " + kind + ")", x -> x.taken(2, kind), BAD);
        }
        refused(BUSY, "nothing: taken(1, 0)", x -> x.taken(1, 0), NOTHING);
        refused(BUSY, "a row: taken(2, 0)", x -> x.taken(2, 0), OTHER);
        for (int kind : new int[] {2, 4, 5}) {
            refused(BUSY, "regret: taken(0, " + kind + ")", x -> x.taken(0, kind), OTHER);
        }
    }

    private static void elements() {
        for (int i : new int[] {0, -1, MAX}) {
            refused(BUSY, "nothing: put(1, " + i + ", 5)", x -> x.put(1, i, 5), NOTHING);
            refused(BUSY, "a feeling: put(0, " + i + ", 5)", x -> x.put(0, i, 5), OTHER);
            refused(BUSY, "no element: put(4, " + i + ", 5)", x -> x.put(4, i, 5), PLACE);
            refused(BUSY, "nothing: element(1, " + i + ")", x -> x.element(1, i), NONE);
            refused(BUSY, "a feeling: element(0, " + i + ")", x -> x.element(0, i), NONE);
            refused(BUSY, "no element: element(4, " + i + ")", x -> x.element(4, i), NONE);
        }
        for (int i : new int[] {-1, 7, 59, 60, MIN, MAX}) {
            refused(BUSY, "put(2, " + i + ", 5)", x -> x.put(2, i, 5), PLACE);
            refused(BUSY, "element(2, " + i + ")", x -> x.element(2, i), NONE);
        }
        refused(BUSY, "put(5, 60, 5)", x -> x.put(5, 60, 5), PLACE);
        refused(BUSY, "put(5, -1, 5)", x -> x.put(5, -1, 5), PLACE);
        refused(BUSY, "element(5, 60)", x -> x.element(5, 60), NONE);
    }

    private static void shifts() {
        int[][] nothing = {{1, 0, 2, 0, 1}, {2, 0, 1, 0, 1}, {1, 0, 1, 0, 0}, {0, 0, 1, 0, 0}, {1, 0, 0, 0, 0}, {1, -1, 2, -1, 1}};
        for (int[] s : nothing) {
            refused(BUSY, "shift " + java.util.Arrays.toString(s), x -> x.shift(s[0], s[1], s[2], s[3], s[4]), NOTHING);
        }
        int[][] other = {{0, 0, 2, 0, 1}, {2, 0, 0, 0, 1}, {0, 0, 0, 0, 0}, {2, 0, 3, 0, 1}, {3, 0, 5, 0, 1}, {3, 9, 2, 9, 9},
            {2, 0, 4, 0, 0}, {0, -1, 0, 0, 0}};
        for (int[] s : other) {
            refused(BUSY, "shift " + java.util.Arrays.toString(s), x -> x.shift(s[0], s[1], s[2], s[3], s[4]), OTHER);
        }
        int[][] places = {{2, 0, 5, 0, 8}, {2, 1, 5, 0, 7}, {2, 7, 5, 0, 1}, {2, 8, 5, 0, 0}, {2, -1, 5, 0, 1}, {2, 0, 5, -1, 1},
            {2, 0, 5, 60, 1}, {2, 0, 5, 54, 7}, {2, 0, 5, 61, 0}, {5, 0, 2, 0, 8}, {5, 0, 2, 1, 7}, {2, 0, 2, 1, 7},
            {2, 0, 5, 0, -1}, {2, 0, 5, 0, MIN}, {2, 0, 5, 0, MAX}, {2, MAX, 5, 0, 1}, {2, MAX, 5, MAX, MAX},
            {2, MIN, 5, MIN, MIN}, {2, MIN, 5, 0, 0}, {2, 1, 5, 1, MAX}, {4, 0, 4, 0, 1}, {4, 1, 4, 0, 0}, {2, -1, 5, 0, 0},
            {2, 0, 5, -1, 0}};
        for (int[] s : places) {
            refused(BUSY, "shift " + java.util.Arrays.toString(s), x -> x.shift(s[0], s[1], s[2], s[3], s[4]), PLACE);
        }
    }

    private static void others() {
        int[][] runs = {{-1, 0, 1}, {2, 0, 1}, {0, 0, 0}, {0, 0, 201}, {0, 0, -1}, {MIN, 0, 1}, {MAX, 0, 1}, {0, 0, MIN},
            {0, 0, MAX}};
        for (int[] r : runs) {
            refused(BUSY, "run " + java.util.Arrays.toString(r), x -> x.run(r[0], r[1], r[2]), VOID);
        }
        refused(NEW, "no quarrel: run(0, 0, 1)", x -> x.run(0, 0, 1), VOID);
        for (int what : new int[] {-1, 6, MIN, MAX}) {
            refused(BUSY, "count(" + what + ")", x -> x.count(what), BAD);
        }
    }

    /** What is BIG is answered so behind what is BAD and ahead of what is NOT. */
    private static void bigness() {
        refused(HUGE, "bottom()", SueOrSettle::bottom, BIG);
        refused(HUGE, "number(0)", x -> x.number(0), BIG);
        refused(HUGE, "bad ahead of big: number(3)", x -> x.number(3), BAD);
        refused(HUGE, "bad ahead of big: number(256)", x -> x.number(256), BAD);
        refused(HUGE, "chance(0, 0, 0)", x -> x.chance(0, 0, 0), BIG);
        refused(HUGE, "against one another: chance(1, 2, 0)", x -> x.chance(1, 2, 0), BIG);
        refused(HUGE, "bad ahead of big: chance(256, 0, 0)", x -> x.chance(256, 0, 0), BAD);
        refused(HUGE, "bad ahead of big: chance(0, 0, 2)", x -> x.chance(0, 0, 2), BAD);
        for (int feeling = 0; feeling < 6; feeling++) {
            int f = feeling;
            for (int what = 0; what < 3; what++) {
                int asks = what;
                refused(HUGE, "best(0, " + f + ", " + what + ")", x -> x.best(0, f, asks), NONE);
            }
            refused(HUGE, "judge(0, " + f + ", 0)", x -> x.judge(0, f, 0), NONE);
            refused(HUGE, "judge(0, " + f + ", 1)", x -> x.judge(0, f, 1), NONE);
            refused(HUGE, "shortOf(0, " + f + ")", x -> x.shortOf(0, f), BIG);
        }
        refused(HUGE, "bad ahead of big: shortOf(0, 6)", x -> x.shortOf(0, 6), BAD);
        refused(HUGE, "bad ahead of big: shortOf(2, 0)", x -> x.shortOf(2, 0), BAD);
        refused(HUGE, "fork(0, 0, 0, 0)", x -> x.fork(0, 0, 0, 0), NONE);
        refused(HUGE, "ask(0, 0, 0)", x -> x.ask(0, 0, 0), NONE);
        refused(HUGE, "ask(0, -1, 1)", x -> x.ask(0, -1, 1), NONE);
        refused(HUGE, "together(0, 0, 1, 0)", x -> x.together(0, 0, 1, 0), NONE);
        refused(HUGE, "first(0)", x -> x.first(0), BIG);
        refused(HUGE, "bad ahead of big: first(2)", x -> x.first(2), BAD);
        refused(HUGE, "edge(0, 0, 0)", x -> x.edge(0, 0, 0), BIG);
        refused(HUGE, "big ahead of not: edge(1, 0, 0)", x -> x.edge(1, 0, 0), BIG);
        refused(HUGE, "bad ahead of big: edge(0, 10, 0)", x -> x.edge(0, 10, 0), BAD);
        refused(HUGE, "edgeOf(0, 0, 0, 0)", x -> x.edgeOf(0, 0, 0, 0), BIG);
        refused(HUGE, "big ahead of not: edgeOf(1, 1, -1, 0)", x -> x.edgeOf(1, 1, -1, 0), BIG);
        refused(HUGE, "bad ahead of big: edgeOf(0, 0, 2, 0)", x -> x.edgeOf(0, 0, 2, 0), BAD);
        refused(HUGE, "most(0)", x -> x.most(0), BIG);
        refused(HUGE, "big ahead of not: most(1)", x -> x.most(1), BIG);
        refused(HUGE, "bad ahead of big: most(2)", x -> x.most(2), BAD);
        refused(HUGE, "doubt(0, 0, 199, 0)", x -> x.doubt(0, 0, 199, 0), BIG);
        refused(HUGE, "doubt(0, 0, 199, 1)", x -> x.doubt(0, 0, 199, 1), BIG);
        refused(HUGE, "bad ahead of big, it hangs: doubt(0, 1, 199, 0)", x -> x.doubt(0, 1, 199, 0), BAD);
        refused(HUGE, "bad ahead of big: doubt(0, 0, 201, 1)", x -> x.doubt(0, 0, 201, 1), BAD);
        refused(HUGE, "worst(0, 0, 199, 0)", x -> x.worst(0, 0, 199, 0), NONE);
    }

    private static void fullness() {
        refused(RefusalTest::fourThings, "the fifth: thing(2)", x -> x.thing(2), FULL);
        refused(RefusalTest::fourThings, "the fifth: thing(3)", x -> x.thing(3), FULL);
        refused(RefusalTest::fourThings, "bad ahead of full: thing(4)", x -> x.thing(4), BAD);
        for (int kind = 0; kind < 6; kind++) {
            int of = kind;
            refused(ALL, "the 21st: feeling(" + kind + ", 5)", x -> x.feeling(of, 5), FULL);
        }
        refused(ALL, "the seventh: step(3, 3)", x -> x.step(3, 3), FULL);
        refused(ALL, "the seventh, like one that is told: step(10, 3)", x -> x.step(10, 3), FULL);
        refused(ALL, "the fourth: sort(1, 1, 1)", x -> x.sort(1, 1, 1), FULL);
        refused(ALL, "the fifth: offer(1)", x -> x.offer(1), FULL);
        refused(ALL, "the fifth: effort(1, 1)", x -> x.effort(1, 1), FULL);
    }

    /** What empties the tape or the trace, and changes nothing else. */
    private static void emptied() {
        becomes(BUSY, "a fault", x -> {
            feed(x, "x");
            return x.quarrel();
        }, -106, RefusalTest::quietThatActed);
        becomes(QUIET, "an empty tape", SueOrSettle::quarrel, -100, QUIET);
        becomes(QUIET, "too many nodes", x -> {
            feed(x, "A=?(0:1,0:2,0:3,0:4);B=?(0:A,0:A,0:A,0:A);?(0:B,0:B,0:B,0:?(0:B,0:B))");
            return x.quarrel();
        }, FULL, QUIET);
        int[][] acts = {{-1, 0}, {6, 0}, {0, -1}, {0, 4}, {MIN, 0}, {MAX, 0}, {0, MIN}, {0, MAX}};
        for (int[] a : acts) {
            becomes(RefusalTest::quietThatActed, "act " + a[0] + " " + a[1], x -> x.act(a[0], a[1], 5), 0, QUIET);
        }
        becomes(QUIET, "nothing is kept: clear() twice", x -> {
            x.clear();
            return x.clear();
        }, 0, RefusalTest::quietWithoutSorts);
    }

    private static SueOrSettle quietThatActed() {
        SueOrSettle x = quiet();
        x.act(5, 3, 1);
        return x;
    }

    private static SueOrSettle quietWithoutSorts() {
        SueOrSettle x = quiet();
        x.clear();
        return x;
    }

    /** Calls that only ask change nothing. */
    private static void onlyAsked() {
        Call[] calls = {SueOrSettle::bottom, x -> x.number(0), x -> x.chance(1, 0, 0), x -> x.node(0, 0, 2),
            x -> x.counts(1, 7), x -> x.best(0, 0, 0), x -> x.best(0, 3, 1), x -> x.best(1, 2, 0), x -> x.plan(0, 0, -1),
            x -> x.judge(0, 0, 0), x -> x.judge(1, 3, 1), x -> x.judge(1, 2, 1), x -> x.shortOf(0, 0), x -> x.shortOf(1, 2),
            x -> x.fork(0, 0, 0, 0), x -> x.fork(1, 2, 1, 1), x -> x.tell(0, -1), x -> x.tell(0, 0), x -> x.ask(0, 0, 0),
            x -> x.ask(0, -1, 1), x -> x.together(0, 0, 1, 0), x -> x.first(0), x -> x.edge(0, 0, 0), x -> x.edge(0, 1, 1),
            x -> x.edge(0, 121, 1), x -> x.edge(1, 2, 1), x -> x.edgeOf(0, 0, 0, 0), x -> x.edgeOf(0, 0, 1, 1),
            x -> x.edgeOf(0, 2, -1, 1), x -> x.edgeOf(0, 3, -1, 0), x -> x.most(0), x -> x.most(1), x -> x.doubt(0, 0, 199, 0),
            x -> x.doubt(1, 2, 5099, 0), x -> x.worst(0, 0, 199, 0), x -> x.worst(1, 0, 9999, 1), x -> x.sure(-1),
            x -> x.sure(0), x -> x.lots(0), x -> x.struck(0), x -> x.struck(1), x -> x.holds(10, 0), x -> x.holds(10, 1),
            x -> x.holds(10, 2), x -> x.hired(500, 0), x -> x.hired(500, 1), x -> x.hired(500, 2), x -> x.hired(500, 3),
            x -> x.waits(20, 5, 0), x -> x.waits(1, 5, 1), x -> x.run(0, 5, 200), x -> x.run(1, MIN, 1), x -> x.trace(0),
            x -> x.element(2, 0), x -> x.taken(0, 0), x -> x.count(0), x -> x.count(4), x -> x.shift(2, 0, 2, 0, 7),
            x -> x.shift(2, 3, 5, 4, 0)};
        for (int i = 0; i < calls.length; i++) {
            refused(BUSY, "asked #" + i, calls[i], calls[i].on(busy()));
        }
    }

    private static SueOrSettle fourThings() {
        SueOrSettle x = new SueOrSettle();
        x.thing(2);
        x.thing(3);
        x.thing(2);
        x.thing(3);
        x.hang(3, 1);
        x.weight(3, 2, 2, 9);
        return x;
    }
}
