/**
 * Sentence by sentence of the document: each bound that it names, the last value on the one side and the first on the
 * other. The sentence stands ahead of its answers. (That refused calls change nothing: RefusalTest.)
 */
public final class BoundsTest {
    private static final int BAD = -1, NOT = -2, FULL = -3, BIG = -4, STATE = -5, VOID = -2000000000;
    private static final long NONE = Long.MIN_VALUE;
    private static final int MIN = Integer.MIN_VALUE, MAX = Integer.MAX_VALUE;
    private static int wrong = 0;
    private static int asked = 0;
    private static String sentence = "";

    private static void says(String words) {
        sentence = words;
    }

    private static void due(String what, long got, long want) {
        asked++;
        if (got != want) {
            wrong++;
            System.out.println("\"" + sentence + "\": " + what + " answered " + got + ", due is " + want);
        }
    }

    private static int feed(SueOrSettle x, String text) {
        int size = 0;
        for (int i = 0; i < text.length(); i += 4) {
            int v = 0;
            int n = Math.min(4, text.length() - i);
            for (int k = 0; k < n; k++) {
                v |= text.charAt(i + k) << 8 * k;
            }
            size = x.feed(n, v);
        }
        return size;
    }

    private static int tell(SueOrSettle x, String text) {
        feed(x, text);
        return x.quarrel();
    }

    /** An object with things of so many ways. */
    private static SueOrSettle with(int... ways) {
        SueOrSettle x = new SueOrSettle();
        for (int each : ways) {
            x.thing(each);
        }
        return x;
    }

    /** The answer of quarrel() to a text, on an object with things of so many ways. */
    private static int read(String text, int... ways) {
        return tell(with(ways), text);
    }

    private static void fraction(String what, long top, long bottom, long wantTop, long wantBottom) {
        due(what + ", top", top, wantTop);
        due(what + ", bottom", bottom, wantBottom);
    }

    public static void main(String[] args) {
        things();
        hanging();
        weights();
        bottoms();
        chances();
        tapes();
        bytes();
        texts();
        capitals();
        depths();
        sizes();
        nodes();
        changes();
        feelings();
        steps();
        plans();
        forks();
        asking();
        edgesOfWeights();
        edgesOfCosts();
        edgesThatGetBig();
        doubts();
        tables();
        games();
        offers();
        efforts();
        days();
        daysFromRows();
        runs();
        acts();
        shelves();
        shifts();
        System.out.println(asked + " answers at bounds, " + wrong + " wrong");
        if (wrong != 0) {
            System.exit(1);
        }
    }

    // ---------------------------------------------------------------- 1 things

    private static void things() {
        says("THINGS 0 .. 3 (letters a .. d), as they come, each with 2 or 3 WAYS");
        SueOrSettle x = new SueOrSettle();
        due("none at first", x.count(0), 0);
        due("1 way", x.thing(1), BAD);
        due("4 ways", x.thing(4), BAD);
        due("2 ways", x.thing(2), 0);
        due("3 ways", x.thing(3), 1);
        due("the third", x.thing(2), 2);
        due("the last", x.thing(3), 3);
        due("one more", x.thing(2), FULL);
        due("one more", x.thing(3), FULL);
        due("four", x.count(0), 4);
        due("a has no third way", x.number(2), BAD);
        due("b has a third way", x.number(2 << 2), 1);
        due("b has no fourth way", x.number(3 << 2), BAD);
        due("d has a third way", x.number(2 << 6), 1);
        due("d has no fourth way", x.number(3 << 6), BAD);
        due("there is no fifth digit", x.number(1 << 8), BAD);
        due("2 by 3 by 2 by 3", x.bottom(), 36);
        due("d", tell(x, "!d(1,2,3)"), 0);
        due("a", tell(x, "!a(1,2)"), 1);
        due("behind d", tell(x, "!e(1,2)"), -101);
        due("ahead of a", tell(x, "!`(1,2)"), -101);
        due("a capital", tell(x, "!A(1,2)"), -101);
        due("no things: a", read("!a(1,2)"), -101);
        due("three things: c", read("!c(1,2)", 2, 2, 2), 0);
        due("three things: d", read("!d(1,2)", 2, 2, 2), -101);

        says("A THING with so many WAYS (2, 3): its number. BAD; STATE: a QUARREL was told; FULL.");
        x = with(2);
        due("a fault", tell(x, "x"), -100);
        due("no quarrel was told by it", x.thing(2), 1);
        String five = "A=?(0:1,0:2,0:3,0:4);B=?(0:A,0:A,0:A,0:A);";
        due("too many nodes", tell(x, five + "?(0:?(0:B,0:B),0:B,0:B,0:B)"), FULL);
        due("no quarrel was told by it", x.thing(3), 2);
        due("a quarrel", tell(x, "5"), 0);
        due("a quarrel was told", x.thing(2), STATE);
        due("BAD is named first", x.thing(1), BAD);
        x = with(2, 2, 2, 2);
        due("FULL", x.thing(2), FULL);
        due("BAD is named first", x.thing(4), BAD);
        tell(x, "5");
        due("STATE is named ahead of FULL", x.thing(2), STATE);
    }

    private static void hanging() {
        says("one may HANG on an earlier THING (told, once, at most one; ahead of the first QUARREL)");
        SueOrSettle x = with(3, 2, 3, 2);
        due("on the one ahead of it", x.hang(3, 2), 1);
        due("on itself", x.hang(2, 2), BAD);
        due("on the one behind it", x.hang(2, 3), BAD);
        due("on none", x.hang(2, -1), BAD);
        due("the first on none", x.hang(0, -1), BAD);
        due("the first on itself", x.hang(0, 0), BAD);
        due("no such thing", x.hang(4, 0), BAD);
        due("no such thing", x.hang(-1, -2), BAD);
        due("once", x.hang(3, 2), STATE);
        due("at most one", x.hang(3, 0), STATE);
        due("BAD is named first", x.hang(3, 3), BAD);
        due("several on one", x.hang(1, 0), 1);
        due("several on one", x.hang(2, 0), 1);
        x = with(2, 2);
        due("a fault is no quarrel", tell(x, "?"), -101);
        due("ahead of the first quarrel", x.hang(1, 0), 1);
        x = with(2, 2);
        tell(x, "5");
        due("behind the first quarrel", x.hang(1, 0), STATE);
        due("BAD is named first", x.hang(0, 1), BAD);
        due("it does not hang", x.weight(1, 1, 0, 1), BAD);

        says("(WEIGHTS of it are 1 then; what can be UNDONE or DONE AGAIN is none.)");
        x = with(2, 3, 2);
        for (int way = 0; way < 3; way++) {
            x.weight(1, 0, way, 50 + way);
        }
        x.weight(0, 0, 1, 7);
        x.weight(2, 0, 0, 8);
        x.undo();
        due("three can be undone", x.count(4), 4);
        due("refused: they stay", x.hang(1, 1), BAD);
        due("refused: one can be done again", x.redo(), 0);
        due("refused: one can be undone", x.undo(), 4);
        due("it hangs", x.hang(1, 0), 1);
        due("none", x.count(4), 0);
        due("none can be undone", x.undo(), STATE);
        due("none can be done again", x.redo(), STATE);
        for (int i = 0; i < 6; i++) {
            due("row " + i / 3 + " way " + i % 3, x.weight(1, i / 3, i % 3, 1), 1);
        }
        due("the other one's stays", x.weight(0, 0, 1, 1), 7);
        due("what was undone stays so", x.weight(2, 0, 0, 1), 1);
        x = with(3, 2, 3, 2);
        for (int i = 0; i < 12; i++) {
            x.weight(i / 3, 0, i % 3, 20 + i);
        }
        due("each by its own", x.bottom(), 63L * 47 * 81 * 59);
        due("it hangs", x.hang(1, 0), 1);
        due("1 and 1", x.bottom(), 63L * 2 * 81 * 59);
        due("the third hangs", x.hang(3, 1), 1);
        for (int i = 0; i < 12; i++) {
            int thing = i / 3;
            int was = thing % 2 == 0 ? 20 + i : i % 3 == 2 ? BAD : 1;
            due("thing " + thing + " way " + i % 3, x.weight(thing, 0, i % 3, 1), was);
        }
        chainOfThings();
    }

    /** b hangs on a, c on b, d on c: each by the row of its own. */
    private static void chainOfThings() {
        SueOrSettle x = with(2, 3, 2, 2);
        for (int thing = 1; thing < 4; thing++) {
            x.hang(thing, thing - 1);
        }
        x.weight(1, 1, 2, 4);
        x.weight(2, 2, 1, 3);
        x.weight(3, 1, 0, 7);
        // 2 by (3, 6) by (2, 2, 4) by (2, 8)
        due("2 by 6 by 4 by 8", x.bottom(), 384);
        // a 1 of 2, b 4 of 6, c 3 of 4, d 7 of 8
        due("1, 2, 1, 0", x.number(1 + 8 + 16), 4 * 3 * 7);
        due("1, 2, 1, 1", x.number(1 + 8 + 16 + 64), 4 * 3);
        due("0, 2, 0, 0", x.number(8), 2 * 4);
        due("0, 2, 0, 0: 1 of 2, 1 of 3, 1 of 4, 1 of 2", x.number(8), 384 / 48);
        due("1, 0, 1, 0: 1 of 2, 1 of 6, 1 of 2, 7 of 8", x.number(1 + 16), 384 * 7 / 192);
        fraction("d given c and a", x.chance(1 << 6, 2 << 4 | 2, 0), x.chance(1 << 6, 2 << 4 | 2, 1), 7, 8);
        tell(x, "!d(!c(!b(!a(0,1),!a(2,3),!a(4,5)),!b(!a(6,7),!a(8,9),!a(10,11))),!c(!b(!a(12,13),!a(14,15),!a(16,17)),18))");
        int[][][] weights = {{{1, 1}}, {{1, 1, 1}, {1, 1, 4}}, {{1, 1}, {1, 1}, {1, 3}}, {{1, 1}, {7, 1}}};
        for (int seed = 0; seed < 150; seed++) {
            int z = seed;
            int[] ways = new int[4];
            for (int thing = 0; thing < 4; thing++) {
                z = z * 1103515245 + 12345;
                int[] row = weights[thing][thing == 0 ? 0 : ways[thing - 1]];
                int sum = 0;
                for (int each : row) {
                    sum += each;
                }
                int left = (z >>> 8) % sum;
                while (left >= row[ways[thing]]) {
                    left -= row[ways[thing]];
                    ways[thing]++;
                }
            }
            int end = 12 * ways[3] + 6 * ways[2] + 2 * ways[1] + ways[0];
            due("seed " + seed, x.run(0, seed, 1), Math.min(18, end));
        }
    }

    private static void weights() {
        says("WEIGHTS 1 .. 99 (1 at first) of each WAY; of one that HANGS for each WAY of the other one");
        SueOrSettle x = with(2, 3, 2, 3);
        x.hang(1, 0);
        x.hang(2, 1);
        int[] rows = {1, 2, 3, 1};
        int[] ways = {2, 3, 2, 3};
        for (int thing = 0; thing < 4; thing++) {
            for (int row = -1; row <= 3; row++) {
                for (int way = -1; way <= 3; way++) {
                    boolean is = row >= 0 && row < rows[thing] && way >= 0 && way < ways[thing];
                    due("thing " + thing + " row " + row + " way " + way, x.weight(thing, row, way, 1), is ? 1 : BAD);
                }
            }
        }
        due("thing 4", x.weight(4, 0, 0, 1), BAD);
        due("thing -1", x.weight(-1, 0, 0, 1), BAD);
        due("0", x.weight(0, 0, 0, 0), BAD);
        due("100", x.weight(0, 0, 0, 100), BAD);
        due("99", x.weight(0, 0, 0, 99), 1);
        due("99 and 1, by 3 by 2 by 3", x.bottom(), 100 * 3 * 2 * 3);
        due("1", x.weight(0, 0, 0, 1), 99);
        due("it was 1", x.weight(0, 0, 0, 1), 1);
        tell(x, "5");
        due("behind a quarrel too", x.weight(2, 2, 1, 99), 1);
    }

    /** Sums 250; 125, 16, 16; 125, 16, 16; 125, 8, 8: 250 by 2000 by 2000 by 1000. */
    private static SueOrSettle justWithin() {
        SueOrSettle x = with(3, 3, 3, 3);
        x.weight(0, 0, 0, 99);
        x.weight(0, 0, 1, 99);
        x.weight(0, 0, 2, 52);
        for (int thing = 1; thing < 4; thing++) {
            x.hang(thing, 0);
        }
        for (int thing = 1; thing < 4; thing++) {
            x.weight(thing, 0, 0, 99);
            x.weight(thing, 0, 1, 25);
            x.weight(thing, 1, 0, thing == 3 ? 6 : 14);
            x.weight(thing, 2, 0, thing == 3 ? 6 : 14);
        }
        x.weight(0, 0, 0, 99);
        return x;
    }

    private static void bottoms() {
        says("(BOTTOMS above 1000000000000: BIG.)");
        SueOrSettle x = justWithin();
        due("10 to the 12th", x.bottom(), 1000000000000L);
        // 99 * 99 * 16 * 99 * 16 * 99 * 8
        due("NUMBER of the first", x.number(0), 99L * 99 * 99 * 99 * 16 * 16 * 8);
        due("what is told of it", x.chance(1, 0, 0), 99);
        due("what is told of it", x.chance(1, 0, 1), 250);
        x.feeling(0, 0);
        x.feeling(3, 0);
        String deep = "?(99:".repeat(12) + "-999" + ")".repeat(12);
        due("told", tell(x, deep), 0);
        fraction("-999 and 12 costs of 99", x.best(0, 0, 0), x.best(0, 0, 1), -2187, 1);
        due("told", tell(x, "?(0:999,0:!a(-999,!b(-999,999,999),!c(-999,-999,!d(999,999,-999))))"), 1);
        x.plan(1, 0, 1);
        // Of 250: 99 lose; 99 by 14 of 16 lose; 52 lose, but for 1 of 16 by 7 of 8.
        long won = 99 * 2 * 8 + 52 * 7;
        long lost = 250 * 16 * 8 - won;
        fraction("judged", x.judge(1, 0, 0), x.judge(1, 0, 1), 999 * (won - lost) / 8, 250 * 16 * 8 / 8);
        fraction("what might have been", x.judge(1, 1, 0), x.judge(1, 1, 1), 2 * 999 * -lost / 8, 250 * 16 * 8 / 8);
        due("one more", x.weight(0, 0, 2, 53), 52);
        due("251", x.bottom(), BIG);
        due("251", x.number(0), BIG);
        due("251", x.chance(0, 0, 0), BIG);
        due("251", x.best(1, 0, 0), NONE);
        due("251", x.judge(1, 0, 1), NONE);
        due("251", x.shortOf(1, 0), BIG);
        due("251", x.first(1), BIG);
        due("251", x.most(1), BIG);
        due("runs are made", x.run(0, 1, 1), -2187);
        x.undo();
        due("undone", x.bottom(), 1000000000000L);
        says("BOTTOM. BIG; 1 without THINGS.");
        due("none", new SueOrSettle().bottom(), 1);
        says("NUMBER of a STATE (digits base 4 of WAYS: THING 0 the lowest). BAD, BIG.");
        due("none", new SueOrSettle().number(0), 1);
        due("none", new SueOrSettle().number(1), BAD);
        due("below", new SueOrSettle().number(-1), BAD);
        x = with(3);
        due("the last way", x.number(2), 1);
        due("no way", x.number(3), BAD);
        due("no thing", x.number(4), BAD);
        due("far", x.number(MAX), BAD);
        due("far", x.number(MIN), BAD);
        x = justWithin();
        x.weight(0, 0, 2, 53);
        due("the last state", x.number(2 + 8 + 32 + 128), BIG);
        due("BAD is named first", x.number(3 + 8 + 32 + 128), BAD);
    }

    private static void chances() {
        says("CHANCE of told WAYS (two bits for each THING: 0 any, 1 + WAY) given told WAYS");
        SueOrSettle x = with(2, 3);
        x.hang(1, 0);
        x.weight(0, 0, 1, 3);
        x.weight(1, 0, 2, 2);
        fraction("any", x.chance(0, 0, 0), x.chance(0, 0, 1), 1, 1);
        fraction("the last way of a", x.chance(2, 0, 0), x.chance(2, 0, 1), 3, 4);
        due("no third way of a", x.chance(3, 0, 0), BAD);
        fraction("the last way of b", x.chance(12, 0, 0), x.chance(12, 0, 1), 3, 8);
        due("no third thing", x.chance(16, 0, 0), BAD);
        due("no third thing given", x.chance(0, 16, 0), BAD);
        due("no third way given", x.chance(0, 3, 0), BAD);
        due("below", x.chance(-1, 0, 0), BAD);
        due("below", x.chance(0, -1, 0), BAD);
        due("a high digit", x.chance(1 << 30, 0, 0), BAD);
        due("what 2", x.chance(0, 0, 2), BAD);
        due("what -1", x.chance(0, 0, -1), BAD);
        says("as a FRACTION (0 / 1, if they are against one another)");
        fraction("against one another", x.chance(1, 2, 0), x.chance(1, 2, 1), 0, 1);
        fraction("against in b alone", x.chance(1 + 4, 1 + 8, 0), x.chance(1 + 4, 1 + 8, 1), 0, 1);
        fraction("the same", x.chance(2 + 12, 2 + 12, 0), x.chance(2 + 12, 2 + 12, 1), 1, 1);
        fraction("given more than asked", x.chance(2, 2 + 12, 0), x.chance(2, 2 + 12, 1), 1, 1);
        fraction("a given b", x.chance(1, 12, 0), x.chance(1, 12, 1), 1, 3);
        x = justWithin();
        x.weight(0, 0, 2, 53);
        due("BIG", x.chance(1, 2, 0), BIG);
        due("BAD is named first", x.chance(1, 0, 2), BAD);
    }

    // ---------------------------------------------------------------- 2 quarrels

    private static void tapes() {
        says("n (1 .. 4) bytes come to THE TAPE, the lowest of v first: how many it has. BAD, FULL.");
        SueOrSettle x = new SueOrSettle();
        due("0", x.feed(0, 0x34333231), BAD);
        due("5", x.feed(5, 0x34333231), BAD);
        due("1", x.feed(1, 0x34333231), 1);
        x.quarrel();
        due("the lowest", x.node(0, 0, 1), 1);
        due("3", x.feed(3, 0x34333231), 3);
        x.quarrel();
        due("the lowest first", x.node(1, 0, 1), 123);
        due("4", x.feed(4, 0x3433322d), 4);
        x.quarrel();
        due("the lowest first", x.node(2, 0, 1), -234);
        due("the highest bit", x.feed(4, 0xb1303031), 4);
        due("is none of a sign's", x.quarrel(), -103);

        says("THE TAPE (at most 200 bytes)");
        String capitals = "";
        for (char capital = 'A'; capital <= 'E'; capital++) {
            capitals += capital + "=?(00:-100,00:-200,00:-300,00:-400);";
        }
        x = new SueOrSettle();
        due("200", feed(x, capitals + "?(01:E,2:3,4:5)"), 200);
        due("a byte more", x.feed(1, ')'), FULL);
        due("four bytes more", x.feed(4, ')'), FULL);
        due("BAD is named first", x.feed(0, ')'), BAD);
        due("200", x.count(2), 200);
        due("is told", x.quarrel(), 0);
        due("is empty then", x.count(2), 0);
        due("its last end", x.node(0, 7, 1), 5);
        due("199: it ends too early", tell(x, capitals + "?(01:E,2:3,4:5"), -299);
        due("200: it ends too early", tell(x, capitals + "?(01:E,2:3,4:5,"), -300);
        due("200: the last byte", tell(x, capitals + "?(01:E,2:3,4:5;"), -299);
        due("197", feed(x, capitals + "?(01:E,2:3,4"), 197);
        due("4 more", x.feed(4, 0x29353a3a), FULL);
        due("none of them came", x.count(2), 197);
        due("3 more", x.feed(3, 0x29353a), 200);
        due("is told", x.quarrel(), 1);
        due("empty", x.quarrel(), -100);

        // Nodes as dense as they can be: 40, of which 11 ends are three more each.
        String dense = "!a(!b(X,X,X),!b(X,X,X),!b(X,X,X))".replace("X", "!c(1,!d(7,8,9),1)")
                .replaceFirst("c.1", "c(!d(4,5,6)").replaceFirst("c.1", "c(!d(4,5,6)");
        x = with(3, 3, 3, 3);
        due("193", feed(x, dense), 193);
        due("is told", x.quarrel(), 0);
        due("73 nodes", x.node(0, 0, 2), 73);
        due("the last", x.node(0, 72, 1), 1);
        due("the last but one", x.node(0, 71, 1), 9);
        x = new SueOrSettle();
        for (int i = 0; i < 100; i++) {
            due("each text is read anew", tell(x, "?(0:1,0:2"), -109);
        }
        due("each text is read anew", tell(x, "?(0:1,0:2)"), 0);

        says("A QUARREL (0 .. 5, as they come)");
        x = new SueOrSettle();
        for (int i = 0; i < 6; i++) {
            due("quarrel " + i, tell(x, "" + i), i);
        }
        due("the last", x.node(5, 0, 1), 5);
        due("no seventh", x.node(6, 0, 2), VOID);
        due("none ahead", x.node(-1, 0, 2), VOID);
        says("FULL (QUARRELS: it stays; NODES: it is empty)");
        due("4", feed(x, "?(1:"), 4);
        due("FULL", x.quarrel(), FULL);
        due("it stays", x.count(2), 4);
        due("it goes on", feed(x, "2)"), 6);
        due("FULL", x.quarrel(), FULL);
        due("it stays", x.count(2), 6);
        due("six", x.count(1), 6);
    }

    /** Behind each beginning of a text: the signs with which it goes on; "." if it may end there. */
    private static final String[][] GOES_ON = {
        {"", "0123456789-?!A"}, {"-", "0123456789"}, {"1", "0123456789."}, {"12", "0123456789."}, {"123", "."},
        {"-1", "0123456789."}, {"-123", "."}, {"?", "("}, {"?(", "0123456789"}, {"?(1", "0123456789:"}, {"?(12", ":"},
        {"?(1:", "0123456789-?!"}, {"?(1:2", "0123456789,)"}, {"?(1:234", ",)"}, {"?(1:-", "0123456789"},
        {"?(1:2,", "0123456789"}, {"?(1:2,3:4,5:6,7:890", ")"}, {"?(1:2)", "."}, {"!", "ab"}, {"!a", "("}, {"!b", "("},
        {"!a(", "0123456789-?!"}, {"!a(123", ","}, {"!a(1,234", ")"}, {"!b(123", ","}, {"!b(1,234", ","}, {"!b(1,2,345", ")"},
        {"!a(1,2)", "."}, {"!a(!", "b"}, {"!a(1,!", "b"}, {"!b(!a(1,!", ""}, {"!a(1,?(1:!", "b"}, {"?(1:!a(1,2),2:!", "ab"},
        {"?(1:!a(1,2)", ",)"}, {"?(1:!a(1,2),", "0123456789"}, {"A", "="}, {"A=", "0123456789-?!"}, {"A=123", ";"},
        {"A=1", "0123456789;"}, {"A=1;", "0123456789-?!AB"}, {"A=1;A", "."}, {"A=1;B", "="}, {"A=1;B=", "0123456789-?!A"},
        {"A=1;B=A", ";"}, {"A=1;B=A;", "0123456789-?!ABC"}, {"A=1;?(1:", "0123456789-?!A"}, {"A=1;?(1:A", ",)"},
        {"A=!a(1,2);!a(", "0123456789-?!"}, {"A=!a(1,2);!b(1,", "0123456789-?!A"}, {"A=!a(1,2);!b(!a(1,", "0123456789-?!"},
        {"A=!a(1,2);B=!a(", "0123456789-?!"}, {"A=!a(1,2);B=!b(A,1,1);!a(", "0123456789-?!"}, {"A=!a(1,2);?(1:A,2:", "0123456789-?!A"},
        {"A=1;B=2;C=3;D=4;E=5;", "0123456789-?!ABCDEF"}, {"A=1;B=2;C=3;D=4;E=5;F", "="},
        {"A=1;B=2;C=3;D=4;E=5;F=6;", "0123456789-?!ABCDEF"}, {"A=1;B=2;C=3;D=4;E=5;F=6;F", "."},
        {"A=1;B=2;C=3;D=4;E=5;F=6;A", "."}, {"A=1;B=2;C=3;D=4;E=5;F=", "0123456789-?!ABCDE"}};

    /** The signs that complete a text behind a beginning. */
    private static boolean isWhole(String text) {
        return text.matches("(A=1;B=2;C=3;D=4;E=5;F=6;)?(-?[0-9]{1,3}|[A-F])") && (text.indexOf('=') > 0 || !text.matches("[A-F]"))
                || text.matches("A=1;(B=A;)?(-?[0-9]{1,3}|A)") || text.matches("A=1;B=A;B")
                || text.matches("A=1;B=2;C=3;D=4;E=5;([0-9]|[A-E])")
                || text.equals("?(1:2)") || text.equals("?(1:234)") || text.equals("?(1:2,3:4,5:6,7:890)")
                || text.equals("!a(1,2)") || text.equals("!a(1,234)") || text.equals("!b(1,2,345)")
                || text.equals("?(1:!a(1,2))") || text.equals("A=1;?(1:A)");
    }

    private static void bytes() {
        says("FAULT: the place (from 0) of the first byte with which no text goes on. The length, if it ends too early.");
        for (String[] each : GOES_ON) {
            String begun = each[0];
            due("ends: " + begun, read(begun, 2, 3), each[1].endsWith(".") ? 0 : -100 - begun.length());
            for (int sign = 0; sign < 256; sign++) {
                String text = begun + (char) sign;
                boolean goes = sign != '.' && each[1].indexOf(sign) >= 0;
                int want = !goes ? -100 - begun.length() : isWhole(text) ? 0 : -100 - text.length();
                due(begun + " and the byte " + sign, read(text, 2, 3), want);
            }
        }
    }

    private static void texts() {
        says("END: a number (1 to 3 digits), perhaps - ahead");
        String[] ends = {"0", "9", "10", "99", "100", "999", "-0", "-1", "-999", "000", "007", "-010"};
        int[] numbers = {0, 9, 10, 99, 100, 999, 0, -1, -999, 0, 7, -10};
        for (int i = 0; i < ends.length; i++) {
            SueOrSettle x = new SueOrSettle();
            due(ends[i], tell(x, ends[i]), 0);
            due(ends[i], x.node(0, 0, 1), numbers[i]);
        }
        due("no digit", read("-"), -101);
        due("4 digits", read("1000"), -103);
        due("4 digits", read("-1000"), -104);
        due("0 ahead", read("0001"), -103);

        says("a CHOICE, 1 to 4 WAYS, each a COST (1 to 2 digits), : and a NODE");
        due("no way", read("?()"), -102);
        due("1 way", read("?(0:1)"), 0);
        due("4 ways", read("?(0:1,0:2,0:3,0:4)"), 0);
        due("5 ways", read("?(0:1,0:2,0:3,0:4,0:5)"), -117);
        due("no cost", read("?(:1)"), -102);
        due("a cost below 0", read("?(-1:1)"), -102);
        due("3 digits", read("?(100:1)"), -104);
        SueOrSettle x = new SueOrSettle();
        due("costs", tell(x, "?(0:1,00:2,9:3,99:4)"), 0);
        due("0", x.node(0, 0, 20), 0);
        due("00", x.node(0, 0, 21), 0);
        due("9", x.node(0, 0, 22), 9);
        due("99", x.node(0, 0, 23), 99);

        says("what TURNS OUT, as many NODES as the THING has WAYS");
        due("1 of 2", read("!a(1)", 2, 3), -104);
        due("2 of 2", read("!a(1,2)", 2, 3), 0);
        due("3 of 2", read("!a(1,2,3)", 2, 3), -106);
        due("2 of 3", read("!b(1,2)", 2, 3), -106);
        due("3 of 3", read("!b(1,2,3)", 2, 3), 0);
        due("4 of 3", read("!b(1,2,3,4)", 2, 3), -108);

        says("No blanks.");
        String good = "A=!b(1,-2,30);B=?(1:A,22:-3);?(0:4,5:!a(A,B),6:B)";
        due("without", read(good, 2, 3), 0);
        for (int i = 0; i <= good.length(); i++) {
            due("a blank at " + i, read(good.substring(0, i) + ' ' + good.substring(i), 2, 3), -100 - i);
            if (i < good.length()) {
                due("the first " + i, read(good.substring(0, i), 2, 3), -100 - i);
            }
        }

        says("On no way may a THING TURN OUT twice.");
        due("in it", read("!a(!a(1,2),3)", 2, 3), -104);
        due("in its last way", read("!a(1,!a(1,2))", 2, 3), -106);
        due("in a choice in it", read("!a(1,?(1:2,3:!a(1,2)))", 2, 3), -100 - 14);
        due("in another one in it", read("!a(1,!b(1,2,!a(1,2)))", 2, 3), -100 - 13);
        due("in two ways of another", read("!b(!a(1,2),!a(1,2),!a(1,2))", 2, 3), 0);
        due("in two ways of a choice", read("?(0:!a(1,2),0:!a(1,2))", 2, 3), 0);
        due("behind it", read("!b(!a(1,2),1,!b(1,2,3))", 2, 3), -100 - 14);
    }

    private static void capitals() {
        says("CAPITALS A .. F, each told once, from A on in order");
        due("A alone", read("A=7;A"), 0);
        due("B first", read("B=7;B"), -100);
        due("A again", read("A=7;A=8;A"), -105);
        due("C behind A", read("A=7;C=8;C"), -104);
        SueOrSettle x = new SueOrSettle();
        due("A to F", tell(x, "A=1;B=2;C=3;D=4;E=5;F=6;?(0:A,0:F,0:E)"), 0);
        due("A", x.node(0, 1, 1), 1);
        due("F", x.node(0, 2, 1), 6);
        due("E", x.node(0, 3, 1), 5);
        due("G", read("A=1;B=2;C=3;D=4;E=5;F=6;G=7;G"), -124);
        due("G", read("A=1;B=2;C=3;D=4;E=5;F=6;G"), -124);
        due("F again", read("A=1;B=2;C=3;D=4;E=5;F=6;F=7;F"), -125);

        says("a CAPITAL told ahead: that NODE once more");
        due("not told", read("A=1;?(0:B)"), -100 - 8);
        due("in its own telling", read("A=A;A"), -102);
        due("in its own telling", read("A=?(0:A);A"), -106);
        due("told behind", read("A=B;B=1;A"), -102);
        due("told ahead", read("A=1;B=A;B"), 0);
        due("never told", read("?(0:A)"), -104);

        says("At the beginning of a telling the next CAPITAL in order is one that is told now (= must follow), "
                + "any other one there begins the last NODE.");
        due("A: = must follow", read("A"), -101);
        due("A: = must follow", read("A;"), -101);
        due("B: = must follow", read("A=1;B"), -105);
        due("A begins the last", read("A=1;A"), 0);
        due("A begins the last: ; goes not on", read("A=1;A;"), -105);
        due("C begins it, but is not told", read("A=1;C"), -104);

        says("of one that turned out on that way; a CAPITAL of which some NODE did");
        due("of itself", read("A=!a(1,2);!a(A,1)", 2, 3), -113);
        due("of itself, b", read("A=!b(1,2,3);!b(1,2,A)", 2, 3), -100 - 19);
        due("of itself, d", read("A=!d(1,2);!d(1,A)", 2, 3, 3, 2), -100 - 15);
        due("of another", read("A=!d(1,2);!c(A,1,A)", 2, 3, 3, 2), 0);
        due("of a node in it", read("A=!b(1,2,!a(3,4));!a(1,A)", 2, 3), -100 - 23);
        due("of a capital in it", read("A=!a(1,2);B=?(1:A);!a(1,B)", 2, 3), -100 - 24);
        due("of none", read("A=!a(1,2);!b(A,A,A)", 2, 3), 0);
        says("(Of a CAPITAL's own telling what turned out within it counts.)");
        due("within", read("A=!a(1,!a(1,2));1", 2, 3), -108);
        due("by another capital within", read("A=!a(1,2);B=!a(A,1);1", 2, 3), -115);
        due("not what turns out where it is told", read("A=!a(1,2);B=!a(1,2);?(0:A,0:B)", 2, 3), 0);
    }

    private static void depths() {
        says("At most 12 ( are open at once (written out).");
        due("12", read("?(0:".repeat(12) + "1" + ")".repeat(12)), 0);
        due("13: the (", read("?(0:".repeat(13) + "1" + ")".repeat(13)), -100 - 12 * 4 - 1);
        due("12, one of a thing", read("?(0:".repeat(11) + "!a(1,2)" + ")".repeat(11), 2), 0);
        due("13, one of a thing: the (", read("?(0:".repeat(12) + "!a(1,2)" + ")".repeat(12), 2), -100 - 12 * 4 - 2);
        due("12, the first of a thing", read("!a(1," + "?(0:".repeat(11) + "1" + ")".repeat(12), 2), 0);
        due("13, the first of a thing: the (", read("!a(1," + "?(0:".repeat(12) + "1" + ")".repeat(13), 2), -100 - 5 - 44 - 1);
        due("12 in the first way of a thing", read("!a(" + "?(0:".repeat(11) + "1" + ")".repeat(11) + ",1)", 2), 0);
        due("13 in the first way of a thing: the (", read("!a(" + "?(0:".repeat(12) + "1" + ")".repeat(12) + ",1)", 2),
                -100 - 3 - 44 - 1);
        due("13 one behind the other", read("?(0:" + "?(0:1),0:".repeat(3) + "?(0:1))"), 0);
        String eight = "?(0:?(0:?(0:1)),0:?(0:?(0:?(0:1)),0:?(0:?(0:?(0:1)))))";
        due("far more than 12 in all", read("?(0:" + eight + ",0:" + eight + ")"), 0);

        says("a CAPITAL by which a 13th ( would be open: the CAPITAL");
        String six = "?(0:".repeat(6) + "1" + ")".repeat(6);
        due("6 and 6", read("A=" + six + ";" + "?(0:".repeat(6) + "A" + ")".repeat(6)), 0);
        due("7 and 6", read("A=" + six + ";" + "?(0:".repeat(7) + "A" + ")".repeat(7)), -100 - 2 - 31 - 1 - 28);
        due("6 and 6 in a telling", read("A=" + six + ";B=" + "?(0:".repeat(6) + "A" + ")".repeat(6) + ";B"), 0);
        due("7 and 6 in a telling", read("A=" + six + ";B=" + "?(0:".repeat(7) + "A" + ")".repeat(7) + ";1"),
                -100 - 34 - 2 - 28);
        due("1 and 6 and 6", read("A=" + six + ";B=" + "?(0:".repeat(6) + "A" + ")".repeat(6) + ";?(0:B)"),
                -100 - 34 - 34 - 4);
        due("12 and an end", read("A=1;" + "?(0:".repeat(12) + "A" + ")".repeat(12)), 0);
        due("12 and 1", read("A=?(0:1);" + "?(0:".repeat(12) + "A" + ")".repeat(12)), -100 - 9 - 48);
        due("11 and 1", read("A=?(0:1);" + "?(0:".repeat(11) + "A" + ")".repeat(11)), 0);
        due("the deepest of its ways", read("A=?(0:1,0:?(0:2),0:3);" + "?(0:".repeat(11) + "A" + ")".repeat(11)),
                -100 - 22 - 44);
        due("the deepest of its ways", read("A=?(0:1,0:?(0:2),0:3);" + "?(0:".repeat(10) + "A" + ")".repeat(10)), 0);
    }

    private static void sizes() {
        says("All NODES written out, of the last NODE alone, are numbered from 0; more than 100: FULL.");
        // Written out A has 5, B 21, C 14, D 36: with three B more and the first 100.
        String told = "A=?(0:1,0:2,0:3,0:4);B=?(0:A,0:A,0:A,0:A);C=?(0:A,0:A,0:?(0:1,0:1));D=?(0:B,0:C);";
        SueOrSettle x = with(2);
        due("100", tell(x, told + "?(0:B,0:B,0:B,0:D)"), 0);
        due("100", x.node(0, 0, 2), 100);
        due("the last", x.node(0, 99, 0), 0);
        due("no more", x.node(0, 100, 0), VOID);
        due("101", tell(x, told.replace("0:1))", "0:?(0:1)))") + "?(0:B,0:B,0:B,0:D)"), FULL);
        due("THE TAPE is empty then", x.count(2), 0);
        due("one is told", x.count(1), 1);
        due("99", tell(x, told.replace("0:?(0:1,0:1)", "0:?(0:1)") + "?(0:B,0:B,0:B,0:D)"), 1);
        due("99", x.node(1, 0, 2), 99);
        due("of the last alone", tell(x, told + "E=?(0:D,0:D,0:D,0:D);?(0:1,0:2)"), 2);
        due("of the last alone", x.node(2, 0, 2), 3);
        due("a fault is named first", tell(x, told + "E=?(0:D,0:D,0:D,0:D);E,"), -100 - 81 - 21 - 1);
        due("THE TAPE is empty then", x.count(2), 0);
        due("far more than 100", tell(x, told + "E=?(0:D,0:D,0:D,0:D);F=?(0:E,0:E,0:E,0:E);?(0:F,0:F,0:F,0:F)"), FULL);
        due("one node", tell(x, "8"), 3);
        due("one node", x.node(3, 0, 2), 1);
    }

    private static void nodes() {
        says("Of a NODE: 0 KIND, 1 END or THING, 2 how many NODES (node any); 10 and WAY: the NODE there, 20 and WAY: its COST");
        SueOrSettle x = with(2, 3);
        due("told", tell(x, "?(1:!a(5,6),22:!b(7,8,9),3:-4,44:?(55:0))"), 0);
        int[] kinds = {1, 2, 0, 0, 2, 0, 0, 0, 0, 1, 0};
        int[] whats = {4, 0, 5, 6, 1, 7, 8, 9, -4, 1, 0};
        for (int node = 0; node < 11; node++) {
            due("kind of " + node, x.node(0, node, 0), kinds[node]);
            due("what of " + node, x.node(0, node, 1), whats[node]);
            due("how many", x.node(0, node, 2), 11);
        }
        due("node any", x.node(0, -1, 2), 11);
        due("node any", x.node(0, 11, 2), 11);
        due("node any", x.node(0, MIN, 2), 11);
        int[] to = {1, 4, 8, 9};
        int[] costs = {1, 22, 3, 44};
        for (int way = 0; way < 4; way++) {
            due("way " + way, x.node(0, 0, 10 + way), to[way]);
            due("cost " + way, x.node(0, 0, 20 + way), costs[way]);
        }
        int[][] none = {{0, -1}, {0, 3}, {0, 9}, {0, 14}, {0, 19}, {0, 24}, {0, 29}, {0, 30}, {1, 12}, {1, 20}, {1, 21}, {4, 13},
            {4, 20}, {8, 10}, {8, 20}, {9, 11}, {9, 21}, {11, 0}, {11, 1}, {-1, 0}, {-1, 10}};
        for (int[] each : none) {
            due("node " + each[0] + " what " + each[1], x.node(0, each[0], each[1]), VOID);
        }
        due("a's last", x.node(0, 1, 11), 3);
        due("b's last", x.node(0, 4, 12), 7);
        due("the one way", x.node(0, 9, 10), 10);
        due("its cost", x.node(0, 9, 20), 55);
        due("no quarrel", x.node(1, 0, 2), VOID);
        due("no quarrel", x.node(-1, 0, 2), VOID);
    }

    // ---------------------------------------------------------------- 6 changes

    private static void changes() {
        says("COST of a CHOICE's WAY (way 0 ..), or the END (way -1) becomes v: what it was. VOID: BAD.");
        SueOrSettle x = with(2);
        tell(x, "?(5:6,7:!a(8,9))");
        due("0", x.change(0, 0, 1, 0), 7);
        due("99", x.change(0, 0, 1, 99), 0);
        due("100", x.change(0, 0, 1, 100), VOID);
        due("-1", x.change(0, 0, 1, -1), VOID);
        due("-999", x.change(0, 1, -1, -999), 6);
        due("999", x.change(0, 1, -1, 999), -999);
        due("1000", x.change(0, 1, -1, 1000), VOID);
        due("-1000", x.change(0, 1, -1, -1000), VOID);
        due("the last node", x.change(0, 4, -1, 1), 9);
        due("behind it", x.change(0, 5, -1, 1), VOID);
        due("ahead of all", x.change(0, -1, -1, 1), VOID);
        due("no such way", x.change(0, 0, 2, 1), VOID);
        due("way -2", x.change(0, 1, -2, 1), VOID);
        due("a choice's end", x.change(0, 0, -1, 1), VOID);
        due("an end's cost", x.change(0, 1, 0, 1), VOID);
        due("of what turns out", x.change(0, 2, -1, 1), VOID);
        due("of what turns out", x.change(0, 2, 0, 1), VOID);
        due("no quarrel", x.change(1, 0, 0, 1), VOID);
        due("became", x.node(0, 0, 21), 99);
        due("became", x.node(0, 1, 1), 999);
        due("five came", x.count(4), 5);

        says("UNDONE: how many may still be. STATE: none.");
        x = with(2);
        due("none", x.undo(), STATE);
        due("one", x.weight(0, 0, 0, 9), 1);
        due("none still", x.undo(), 0);
        due("undone", x.number(0), 1);
        due("none", x.undo(), STATE);
        says("DONE AGAIN: how many may still be. STATE: none.");
        due("none still", x.redo(), 0);
        due("done again", x.number(0), 9);
        due("none", x.redo(), STATE);

        says("(as long as no other came behind)");
        x.weight(0, 0, 0, 8);
        x.undo();
        x.undo();
        due("refused ones do not matter", x.weight(0, 0, 0, 100), BAD);
        due("the first again", x.redo(), 1);
        due("9", x.number(0), 9);
        due("one of 1 to 1 came behind", x.weight(0, 0, 1, 1), 1);
        due("none again", x.redo(), STATE);
        due("two may be undone", x.count(4), 2);
        due("one still", x.undo(), 1);
        due("the other again", x.redo(), 0);
        tell(x, "?(1:2)");
        x.undo();
        x.plan(0, 0, 0);
        x.feeling(0, 0);
        x.best(0, 0, 2);
        x.doubt(0, 0, 199, 1);
        x.edge(0, 0, 1);
        tell(x, "5");
        due("no change came behind", x.redo(), 0);
        x.undo();
        due("a cost came behind", x.change(0, 0, 0, 1), 1);
        due("none again", x.redo(), STATE);

        fortyChanges();
    }

    private static void fortyChanges() {
        says("40 at most are kept");
        SueOrSettle x = with(2);
        for (int i = 1; i <= 40; i++) {
            x.weight(0, 0, 0, 1 + i);
            due("may be undone", x.count(4), i);
        }
        for (int i = 39; i >= 0; i--) {
            due("undone", x.undo(), i);
        }
        due("none", x.undo(), STATE);
        due("as it was at first", x.number(0), 1);
        for (int i = 39; i >= 0; i--) {
            due("done again", x.redo(), i);
        }
        due("none", x.redo(), STATE);
        due("as it was at last", x.number(0), 41);
        due("the 41st", x.weight(0, 0, 0, 42), 41);
        due("40", x.count(4), 40);
        for (int i = 39; i >= 0; i--) {
            due("undone", x.undo(), i);
            due("what it was", x.number(0), 2 + i);
        }
        due("none", x.undo(), STATE);
        due("the first one stays", x.number(0), 2);
        for (int i = 39; i >= 0; i--) {
            due("done again", x.redo(), i);
            due("what it became", x.number(0), 42 - i);
        }
        due("none", x.redo(), STATE);
        due("42", x.number(0), 42);
        for (int i = 0; i < 3; i++) {
            x.undo();
        }
        due("behind 37", x.weight(0, 0, 1, 5), 1);
        due("38", x.count(4), 38);
        due("none again", x.redo(), STATE);
        farChanges();
    }

    /** The first and the last of all places: a node that is alone, and the last way of the last choice of the last quarrel. */
    private static void farChanges() {
        SueOrSettle x = with(3, 3, 3, 3);
        x.hang(3, 2);
        tell(x, "5");
        for (int i = 1; i < 5; i++) {
            tell(x, "6");
        }
        tell(x, "A=?(0:1,0:2,0:3,0:4);B=?(0:A,0:A,0:A,0:A);?(0:B,0:B,0:B,0:?(0:B,0:?(0:1,0:?(0:1,0:2,0:3,0:4)),0:1))");
        due("nodes", x.node(5, 0, 2), 1 + 3 * 21 + 1 + 21 + 2 + 5 + 1);
        due("a node that is alone", x.change(0, 0, -1, 9), 5);
        due("the last weight", x.weight(3, 2, 2, 8), 1);
        due("the first weight", x.weight(0, 0, 0, 7), 1);
        due("the last choice", x.change(5, 88, 3, 55), 0);
        due("the last end", x.change(5, 93, -1, -55), 1);
        x.undo();
        due("1 again", x.node(5, 93, 1), 1);
        due("55 still", x.node(5, 88, 23), 55);
        x.undo();
        due("0 again", x.node(5, 88, 23), 0);
        due("7 still", x.chance(1, 0, 0), 7);
        x.undo();
        due("1 again", x.chance(1, 0, 0), 1);
        due("9 of 11 still", x.chance(3 << 6, 3 << 4, 0), 4);
        x.undo();
        due("1 of 3 again", x.chance(3 << 6, 3 << 4, 0), 1);
        due("9 still", x.node(0, 0, 1), 9);
        x.undo();
        due("5 again", x.node(0, 0, 1), 5);
        for (int i = 4; i >= 0; i--) {
            due("all again", x.redo(), i);
        }
        due("9", x.node(0, 0, 1), 9);
        due("8 of 10", x.chance(3 << 6, 3 << 4, 1), 5);
        due("7 of 9", x.chance(1, 0, 1), 9);
        due("55", x.node(5, 88, 23), 55);
        due("-55", x.node(5, 93, 1), -55);
    }

    // ---------------------------------------------------------------- 3 feelings and plans

    private static void feelings() {
        says("FEELINGS are BODIES 0 .. 19, as they come, of KINDS 0 .. 5");
        SueOrSettle x = new SueOrSettle();
        due("kind -1", x.feeling(-1, 0), BAD);
        due("kind 6", x.feeling(6, 0), BAD);
        due("none came", x.count(3), 0);
        for (int i = 0; i < 20; i++) {
            due("feeling " + i, x.feeling(i % 6, 5), i);
        }
        due("the 21st", x.feeling(0, 0), FULL);
        due("BAD is named first", x.feeling(6, 0), BAD);
        due("twenty", x.count(3), 20);
        due("the last", x.counts(19, 1), 100);
        due("none behind it", x.counts(20, 1), VOID);
        due("none ahead", x.counts(-1, 1), VOID);

        says("with a part s (0 .. 100; of 4, 5, else it does not matter)");
        x = new SueOrSettle();
        for (int kind = 0; kind < 6; kind++) {
            boolean matters = kind > 3;
            due("-1 of " + kind, x.feeling(kind, -1) >= 0 ? 1 : 0, matters ? 0 : 1);
            due("101 of " + kind, x.feeling(kind, 101) >= 0 ? 1 : 0, matters ? 0 : 1);
        }
        due("0 of 4", x.feeling(4, 0), 8);
        due("100 of 4", x.feeling(4, 100), 9);
        due("0 of 5", x.feeling(5, 0), 10);
        due("100 of 5", x.feeling(5, 100), 11);
        due("nothing", x.counts(8, 7), 0);
        due("nothing below 0", x.counts(8, -7), 0);
        due("all", x.counts(9, 7), 700);
        due("all below 0", x.counts(9, -7), -700);
        due("nothing", x.counts(10, 7), 0);
        due("shy below 0", x.counts(10, -1), -100);
        due("shy of 0", x.counts(10, 0), 0);
        due("all", x.counts(11, 7), 700);
        says("n its number, s its part (0 without)");
        due("coin: 3 and its number 1", x.act(1, 0, 3), 4);
        due("part: 3 and its number 9 and 100", x.act(9, 0, 3), 112);

        says("What counts of a VALUE (-9999 .. 9999) with a FEELING (REGRET: as FELT). VOID: BAD.");
        due("9999", x.counts(0, 9999), 999900);
        due("-9999", x.counts(0, -9999), -999900);
        for (int feeling = 0; feeling < 12; feeling++) {
            due("10000", x.counts(feeling, 10000), VOID);
            due("-10000", x.counts(feeling, -10000), VOID);
            due("0", x.counts(feeling, 0), 0);
        }
    }

    private static void steps() {
        says("STEPS: from a VALUE on (-9999 .. 9999), so much (0 .. 9): how many there are. BAD, FULL: 6.");
        SueOrSettle x = new SueOrSettle();
        x.feeling(1, 0);
        x.feeling(3, 0);
        due("-10000", x.step(-10000, 5), BAD);
        due("10000", x.step(10000, 5), BAD);
        due("-1", x.step(0, -1), BAD);
        due("10", x.step(0, 10), BAD);
        due("none yet: 100 each", x.counts(0, 9999), 999900);
        due("none yet: 100 each", x.counts(0, -9999), -999900);
        due("9999", x.step(9999, 9), 1);
        due("the last coin alone", x.counts(0, 9999), 9998 * 100 + 90);
        due("ahead of it", x.counts(0, 9998), 9998 * 100);
        due("-9998, nothing", x.step(-9998, 0), 2);
        due("coins 0 .. -9998", x.counts(0, -9999), 0);
        due("-9999, nothing", x.step(-9999, 0), 3);
        due("coins 0 .. -9998", x.counts(0, -9999), 0);
        due("the fourth", x.step(1, 1), 4);
        due("coin 1", x.counts(0, 1), 10);
        due("coin 0", x.counts(0, -1), 0);
        due("the fifth", x.step(0, 2), 5);
        due("coin 0", x.counts(0, -1), -20);
        due("coins 0 and -1", x.counts(0, -2), -20);
        due("coin 1", x.counts(0, 1), 10);
        due("the sixth", x.step(-1, 3), 6);
        due("coins 0 and -1", x.counts(0, -2), -50);
        due("coins 0, -1 and -2", x.counts(0, -3), -50);
        due("the seventh", x.step(5, 5), FULL);
        due("the seventh, a like one", x.step(0, 5), FULL);
        due("BAD is named first", x.step(0, 10), BAD);
        due("as it was", x.counts(0, -1), -20);
        due("REGRET: as FELT", x.counts(1, -2), -50);

        says("of like VALUES the one told last; below the least one, or without any, 100 hundredths");
        x = new SueOrSettle();
        x.feeling(1, 0);
        due("from 5", x.step(5, 3), 1);
        due("below it", x.counts(0, 4), 400);
        due("from it on", x.counts(0, 5), 430);
        due("from it on", x.counts(0, 6), 460);
        due("like", x.step(5, 9), 2);
        due("told last", x.counts(0, 6), 400 + 180);
        due("like", x.step(5, 0), 3);
        due("told last", x.counts(0, 6), 400);
        due("from -3", x.step(-3, 2), 4);
        due("coins 1 .. 4", x.counts(0, 4), 80);
        due("coins 0, -1, -2", x.counts(0, -3), -60);
        due("coin -3", x.counts(0, -4), -80);
        due("coin -4 is below", x.counts(0, -5), -180);
        due("0", x.counts(0, 0), 0);
    }

    private static void plans() {
        says("of like ones at each CHOICE the first WAY");
        SueOrSettle x = with(2);
        for (int kind = 0; kind < 6; kind++) {
            x.feeling(kind, 50);
        }
        tell(x, "?(1:5,0:4,2:6,0:3)");
        tell(x, "?(0:4,0:5,0:5,1:6)");
        for (int feeling = 0; feeling < 6; feeling++) {
            x.plan(0, 0, 3);
            due("becomes", x.best(0, feeling, 2), 1);
            due("all alike but the last", x.plan(0, 0, -1), 0);
            due("becomes", x.best(1, feeling, 2), 1);
            due("the last three alike", x.plan(1, 0, -1), 1);
        }
        says("It becomes the JUDGED PLAN, by what 2 alone: 1.");
        x.plan(1, 0, 3);
        x.best(1, 0, 0);
        x.best(1, 0, 1);
        due("stays", x.plan(1, 0, -1), 3);
        due("what 3", x.best(1, 0, 3), NONE);
        due("what -1", x.best(1, 0, -1), NONE);
        due("stays", x.plan(1, 0, -1), 3);

        says("JUDGED: a PLAN told by hand (each CHOICE's WAY; the first at first)");
        due("told", tell(x, "?(0:1,0:?(0:2,0:3))"), 2);
        due("at first", x.plan(2, 0, -1), 0);
        due("at first", x.plan(2, 2, -1), 0);
        says("The JUDGED PLAN's WAY at a CHOICE becomes v (-1: it stays): what it was. BAD.");
        due("the last way", x.plan(0, 0, 3), 0);
        due("beyond", x.plan(0, 0, 4), BAD);
        due("-1", x.plan(0, 0, -1), 3);
        due("-2", x.plan(0, 0, -2), BAD);
        due("the first way", x.plan(0, 0, 0), 3);
        due("became", x.plan(0, 0, -1), 0);
        due("an end", x.plan(0, 1, 0), BAD);
        due("an end stays", x.plan(0, 1, -1), BAD);
        SueOrSettle alone = new SueOrSettle();
        tell(alone, "?(3:4)");
        due("one way", alone.plan(0, 0, -1), 0);
        due("one way", alone.plan(0, 0, 0), 0);
        due("no second way", alone.plan(0, 0, 1), BAD);

        says("SHORT: the first CHOICE (by number) at which another WAY alone makes WORTH greater; NOT: none.");
        x.plan(2, 0, 1);
        due("3 is more than 2", x.shortOf(2, 0), 2);
        x.change(2, 4, -1, 2);
        due("2 is no more than 2", x.shortOf(2, 0), NOT);
        x.change(2, 1, -1, 2);
        due("2 is no more than 2", x.shortOf(2, 0), NOT);
        x.change(2, 1, -1, 3);
        due("3 is", x.shortOf(2, 0), 0);
        x.plan(2, 0, 0);
        x.change(2, 4, -1, 9);
        due("two ways at once are not alone", x.shortOf(2, 0), NOT);
        SueOrSettle four = new SueOrSettle();
        four.feeling(0, 0);
        tell(four, "?(0:?(0:9,0:5),0:1,0:1,0:1)");
        four.plan(0, 1, 1);
        due("none of four ways, but one of two", four.shortOf(0, 0), 1);

        says("LEAST: the least that counts over STATES, over 100");
        due("told", tell(x, "?(0:!a(7,-3),0:-3,0:!a(-4,99))"), 3);
        x.best(3, 2, 2);
        due("-3 and -3: the first", x.plan(3, 0, -1), 0);
        fraction("its worth", x.best(3, 2, 0), x.best(3, 2, 1), -3, 1);
        due("no other is greater", x.shortOf(3, 2), NOT);
        x.plan(3, 0, 2);
        fraction("-4", x.judge(3, 2, 0), x.judge(3, 2, 1), -4, 1);
        due("what 2", x.judge(3, 2, 2), NONE);
        due("what -1", x.judge(3, 2, -1), NONE);
    }

    private static void forks() {
        says("FORK: top (what 0), bottom (1) of a WAY at a CHOICE (COIN). Long.MIN_VALUE: BAD, BIG.");
        SueOrSettle x = with(3);
        x.weight(0, 0, 1, 2);
        due("told", tell(x, "?(9:!a(1,?(8:-9,99:-999,0:0,7:9),4),0:1)"), 0);
        fraction("1, 2 by 2, 4 of 4, less 9", x.fork(0, 0, 0, 0), x.fork(0, 0, 0, 1), 9 - 36, 4);
        fraction("the last way", x.fork(0, 0, 1, 0), x.fork(0, 0, 1, 1), 1, 1);
        fraction("less its cost alone", x.fork(0, 3, 0, 0), x.fork(0, 3, 0, 1), -17, 1);
        fraction("the least", x.fork(0, 3, 1, 0), x.fork(0, 3, 1, 1), -1098, 1);
        fraction("nothing", x.fork(0, 3, 2, 0), x.fork(0, 3, 2, 1), 0, 1);
        fraction("the last of four", x.fork(0, 3, 3, 0), x.fork(0, 3, 3, 1), 2, 1);
        int[][] none = {{0, 2, 0}, {0, -1, 0}, {3, 4, 0}, {1, 0, 0}, {2, 0, 0}, {0, 0, 2}, {0, 0, -1}, {10, 0, 0}, {-1, 0, 0}};
        for (int[] each : none) {
            due("fork of " + each[0] + ", " + each[1] + ", " + each[2], x.fork(0, each[0], each[1], each[2]), NONE);
        }
        says("TELL: how many (i -1), the i-th. BAD.");
        due("two are come to", x.tell(0, -1), 2);
        due("the first", x.tell(0, 0), 0);
        due("the last", x.tell(0, 1), 30);
        due("behind it", x.tell(0, 2), BAD);
        due("i -2", x.tell(0, -2), BAD);
        x.plan(0, 3, 3);
        due("the last way", x.tell(0, 1), 33);
        x.plan(0, 0, 1);
        due("one is come to", x.tell(0, -1), 1);
        due("the first", x.tell(0, 0), 1);
        due("behind it", x.tell(0, 1), BAD);
        due("no choice", tell(x, "!a(1,2,3)"), 1);
        due("none", x.tell(1, -1), 0);
        due("none", x.tell(1, 0), BAD);
        due("no quarrel", x.tell(2, -1), BAD);
    }

    // ---------------------------------------------------------------- 4 asking, edges, doubt

    private static void asking() {
        says("ASKING a THING (0 .. 3), KNOWING ALL (-1): top (what 0), bottom (1). Long.MIN_VALUE: BAD, BIG.");
        SueOrSettle x = with(2, 2, 2, 3);
        due("told", tell(x, "?(0:1,0:!d(0,3,0))"), 0);
        fraction("the last thing", x.ask(0, 3, 0), x.ask(0, 3, 1), 2, 3);
        fraction("knowing all", x.ask(0, -1, 0), x.ask(0, -1, 1), 2, 3);
        fraction("of no use", x.ask(0, 0, 0), x.ask(0, 0, 1), 0, 1);
        due("thing 4", x.ask(0, 4, 0), NONE);
        due("thing -2", x.ask(0, -2, 0), NONE);
        due("what 2", x.ask(0, 3, 2), NONE);
        due("what -1", x.ask(0, 3, -1), NONE);
        SueOrSettle none = new SueOrSettle();
        tell(none, "?(0:1,0:2)");
        fraction("all that is not there", none.ask(0, -1, 0), none.ask(0, -1, 1), 0, 1);
        due("no thing", none.ask(0, 0, 0), NONE);
        SueOrSettle two = with(2);
        tell(two, "?(0:5,0:!a(3,9))");
        fraction("5 and 9 by halves, less 6", two.ask(0, -1, 0), two.ask(0, -1, 1), 1, 1);
        says("TOGETHER of two THINGS: top, bottom. Long.MIN_VALUE: BAD (one and the same), BIG.");
        fraction("of no use", x.together(0, 0, 3, 0), x.together(0, 0, 3, 1), 0, 1);
        for (int thing = 0; thing < 4; thing++) {
            due("one and the same", x.together(0, thing, thing, 0), NONE);
            due("thing 4", x.together(0, thing, 4, 0), NONE);
            due("thing -1", x.together(0, -1, thing, 0), NONE);
        }
        due("what 2", x.together(0, 0, 3, 2), NONE);
        due("told", tell(x, "?(0:1,0:!a(!b(2,0),!b(0,2)))"), 1);
        fraction("each of no use, both of some", x.together(1, 0, 1, 0), x.together(1, 0, 1, 1), 1, 2);
        says("FIRST to ask. BAD (also without THINGS), BIG.");
        due("the last", x.first(0), 3);
        due("of like ones the least", x.first(1), 0);
        due("no quarrel", x.first(2), BAD);
        due("no quarrel", x.first(-1), BAD);
        due("without things", none.first(0), BAD);
        says("FIRST to ask: the THING of the greatest; of like ones the least.");
        due("told", tell(x, "?(0:1,0:!b(0,2),0:!c(0,2))"), 2);
        due("b and c", x.first(2), 1);
        due("told", tell(x, "?(0:1,0:!b(0,2),0:!c(0,3))"), 3);
        due("c", x.first(3), 2);
        // Without asking 3 / 2; b: 0, 2 beside 3 / 2: 7 / 4; c: 0, 3 beside 1: 2; both: 3, 3, 2, 1.
        fraction("b", x.ask(3, 1, 0), x.ask(3, 1, 1), 1, 4);
        fraction("c", x.ask(3, 2, 0), x.ask(3, 2, 1), 1, 2);
        fraction("9 / 4 less 7 / 4 less 2 and 3 / 2", x.together(3, 1, 2, 0), x.together(3, 1, 2, 1), 0, 1);
        fraction("a is of no use", x.together(3, 0, 2, 0), x.together(3, 0, 2, 1), 0, 1);
        due("told", tell(x, "?(0:!a(0,2),0:!b(0,3),0:!c(0,2))"), 4);
        // Without asking 3 / 2; a: 3 / 2, 2: 7 / 4; b: 1, 3: 2; c: 7 / 4; b and c: 1, 2, 3, 3: 9 / 4.
        fraction("b and c", x.together(4, 1, 2, 0), x.together(4, 1, 2, 1), 0, 1);
        fraction("a and c: 3 / 2, 2, 2, 2 less 7 / 2 and 3 / 2", x.together(4, 0, 2, 0), x.together(4, 0, 2, 1), -1, 8);
        due("b", x.first(4), 1);
        x = with(2, 2, 2, 3);
        for (int i = 0; i < 4; i++) {
            tell(x, "5");
        }
        due("told", tell(x, "?(9:-9,9:!a(-12,-8),9:!d(-12,-12,-7))"), 4);
        // Without asking -18; a: -19, -17 by halves; d: -18, -18, -16 by thirds: -35 / 2 and -52 / 3.
        due("all below 0: d", x.first(4), 3);
        fraction("d", x.ask(4, 3, 0), x.ask(4, 3, 1), 2, 3);
        fraction("a", x.ask(4, 0, 0), x.ask(4, 0, 1), 1, 2);
    }

    /** Settles for c, or sues for 999 with weights of a. */
    private static SueOrSettle sues(int c, int won, int lost) {
        SueOrSettle x = with(2);
        x.weight(0, 0, 0, won);
        x.weight(0, 0, 1, lost);
        tell(x, "?(0:" + c + ",0:!a(999,0))");
        return x;
    }

    private static void edgesOfWeights() {
        says("40 moves at most are tried");
        // 999 * 40 / 139 = 287.5, 41 / 140: 292.6, 42 / 141: 297.6
        due("up, the first", sues(10, 1, 99).edge(0, 0, 1), 1);
        due("up, the 39th", sues(287, 1, 99).edge(0, 0, 1), 39);
        due("up, the 40th", sues(288, 1, 99).edge(0, 0, 1), 40);
        due("up, the 40th", sues(292, 1, 99).edge(0, 0, 1), 40);
        due("up, the 41st", sues(293, 1, 99).edge(0, 0, 1), NOT);
        // 999 * 21 / 120 = 174.8, 20 / 119: 167.9, 19 / 118: 160.9
        due("down, the 39th", sues(175, 60, 99).edge(0, 0, 0), 39);
        due("down, the 40th", sues(174, 60, 99).edge(0, 0, 0), 40);
        due("down, the 40th", sues(168, 60, 99).edge(0, 0, 0), 40);
        due("down, the 41st", sues(167, 60, 99).edge(0, 0, 0), NOT);
        says("WEIGHTS within 1 .. 99");
        // 999 * 98 / 148 = 661.5, 99 / 149: 663.8, 100 / 150: 666
        due("98 to 99", sues(662, 98, 50).edge(0, 0, 1), 1);
        due("98 to 99", sues(663, 98, 50).edge(0, 0, 1), 1);
        due("98 to 100", sues(664, 98, 50).edge(0, 0, 1), NOT);
        due("99 to 100", sues(664, 99, 50).edge(0, 0, 1), NOT);
        // 999 * 2 / 52 = 38.4, 1 / 51: 19.6
        due("2 to 1", sues(38, 2, 50).edge(0, 0, 0), 1);
        due("2 to 1", sues(20, 2, 50).edge(0, 0, 0), 1);
        due("2 to 0", sues(19, 2, 50).edge(0, 0, 0), NOT);
        due("1 to 0", sues(19, 1, 50).edge(0, 0, 0), NOT);
        says("the BEST PLAN has another WAY at the first CHOICE");
        // 999 * 1 / 3 = 333 is as good as 333.
        due("as good is not enough: one more", sues(333, 1, 3).edge(0, 1, 0), 2);
        due("as good: the first way", sues(333, 2, 3).edge(0, 1, 1), 1);
        due("as good: stays", sues(333, 1, 2).edge(0, 1, 1), NOT);
        due("as good: one down", sues(333, 1, 2).edge(0, 1, 0), 1);
        says("EDGE of a WEIGHT (up 1, down 0): the move. BAD, BIG; NOT. at: 100 times the THING, 10 times the row, and the WAY.");
        SueOrSettle x = with(3, 2, 2, 3);
        x.hang(3, 0);
        tell(x, "?(0:1,0:!a(0,0,!d(0,0,9)))");
        due("9 by 1 of 3 by 1 of 3 is 1; 4 of 6", x.edge(0, 322, 1), 1);
        due("row 0 is of no use", x.edge(0, 302, 1), NOT);
        due("the first of d in row 2", x.edge(0, 320, 0), NOT);
        tell(x, "?(0:1,0:!b(2,0),0:!c(2,0))");
        due("the first of b", x.edge(1, 100, 1), 1);
        due("the second of b", x.edge(1, 101, 1), NOT);
        due("the first of c", x.edge(1, 200, 1), 1);
        due("the second of c", x.edge(1, 201, 1), NOT);
        due("the last way of a", x.edge(0, 2, 1), 1);
        int[] none = {-1, 3, 4, 9, 10, 20, 102, 110, 202, 210, 303, 313, 323, 330, 390, 400, 1000, MIN, MAX};
        for (int at : none) {
            due("at " + at, x.edge(0, at, 1), BAD);
        }
        due("up -1", x.edge(0, 0, -1), BAD);
        due("up 2", x.edge(0, 0, 2), BAD);
        due("no quarrel", x.edge(2, 0, 1), BAD);
        due("it stays", x.weight(3, 2, 2, 1), 1);
        says("NOT: no CHOICE");
        tell(x, "!a(1,2,3)");
        due("no choice", x.edge(2, 0, 1), NOT);
        due("no choice", x.edgeOf(2, 1, -1, 1), NOT);
        due("no choice", x.most(2), NOT);
    }

    private static int edgeOf(String text, int node, int way, int up) {
        SueOrSettle x = new SueOrSettle();
        tell(x, text);
        return x.edgeOf(0, node, way, up);
    }

    private static void edgesOfCosts() {
        says("COSTS 0 .. 99");
        due("98 to 99: as good, the first", edgeOf("?(99:0,98:0)", 0, 1, 1), 1);
        due("98 to 99", edgeOf("?(98:0,99:0)", 0, 0, 1), NOT);
        due("97 to 99", edgeOf("?(97:0,98:0)", 0, 0, 1), 2);
        due("99 up", edgeOf("?(99:0,99:0)", 0, 0, 1), NOT);
        due("98 up", edgeOf("?(98:0,98:0)", 0, 0, 1), 1);
        due("1 to 0: as good", edgeOf("?(0:0,1:0)", 0, 1, 0), NOT);
        due("2 to 0", edgeOf("?(1:0,2:0)", 0, 1, 0), 2);
        due("1 to 0: as good, the first", edgeOf("?(1:0,0:0)", 0, 0, 0), 1);
        due("0 down", edgeOf("?(0:0,0:0)", 0, 1, 0), NOT);
        due("1 down", edgeOf("?(1:0,1:0)", 0, 1, 0), 1);
        says("ENDS -999 .. 999");
        due("998 to 999: as good", edgeOf("?(0:999,0:998)", 2, -1, 1), NOT);
        due("997 to 999", edgeOf("?(0:998,0:997)", 2, -1, 1), 2);
        due("998 to 999: as good, the first", edgeOf("?(0:998,0:999)", 1, -1, 1), 1);
        due("999 up", edgeOf("?(0:999,1:999)", 2, -1, 1), NOT);
        due("-998 to -999: as good", edgeOf("?(0:-998,0:-999)", 1, -1, 0), NOT);
        due("-997 to -999", edgeOf("?(0:-997,0:-998)", 1, -1, 0), 2);
        due("-998 to -999: as good, the first", edgeOf("?(0:-999,0:-998)", 2, -1, 0), 1);
        due("-999 down", edgeOf("?(0:-999,0:-999)", 1, -1, 0), NOT);
        due("-998 down", edgeOf("?(0:-998,0:-998)", 1, -1, 0), 1);
        says("40 moves at most are tried");
        due("an end, 40", edgeOf("?(0:0,0:40)", 1, -1, 1), 40);
        due("an end, 41", edgeOf("?(0:0,0:41)", 1, -1, 1), NOT);
        due("an end down, 40", edgeOf("?(0:39,0:0)", 1, -1, 0), 40);
        due("an end down, 41", edgeOf("?(0:40,0:0)", 1, -1, 0), NOT);
        due("a cost, 40", edgeOf("?(0:39,0:0)", 0, 0, 1), 40);
        due("a cost, 41", edgeOf("?(0:40,0:0)", 0, 0, 1), NOT);
        due("a cost down, 40", edgeOf("?(0:0,50:11)", 0, 1, 0), 40);
        due("a cost down, 41", edgeOf("?(0:0,50:10)", 0, 1, 0), NOT);
        says("EDGE of a COST (way 0 ..), an END (-1). BAD, BIG; NOT.");
        String four = "?(0:1,0:2,0:3,0:4)";
        due("the last way", edgeOf(four, 0, 3, 1), 1);
        due("the last end", edgeOf(four, 4, -1, 0), 1);
        due("way 4", edgeOf(four, 0, 4, 1), BAD);
        due("way -2", edgeOf(four, 1, -2, 1), BAD);
        due("a choice's end", edgeOf(four, 0, -1, 1), BAD);
        due("an end's cost", edgeOf(four, 1, 0, 1), BAD);
        due("node 5", edgeOf(four, 5, -1, 1), BAD);
        due("node -1", edgeOf(four, -1, -1, 1), BAD);
        due("up 2", edgeOf(four, 0, 0, 2), BAD);
        due("up -1", edgeOf(four, 0, 0, -1), BAD);
        says("MOST: of all ENDS the one of the least EDGE (either way, of like ones the least NODE).");
        SueOrSettle x = new SueOrSettle();
        tell(x, "?(0:0,0:40)");
        tell(x, "?(0:0,0:41)");
        tell(x, "?(0:5,0:9,0:8)");
        tell(x, "?(0:3,0:?(0:1,0:5))");
        tell(x, "?(0:6)");
        due("40 up or down: the least node", x.most(0), 1);
        due("41", x.most(1), NOT);
        due("9 by 1 down, as 8 by 2 up", x.most(2), 2);
        due("3 up by 2, 5 down by 2", x.most(3), 1);
        due("one way", x.most(4), NOT);
        due("no quarrel", x.most(5), BAD);
        due("no quarrel", x.most(-1), BAD);
    }

    private static void edgesThatGetBig() {
        says("one that would be BIG ends it: NOT");
        SueOrSettle x = justWithin();
        // Of d in row 1: 6, 1, 1. Way 1 pays 1 of 99 / 250 by the second way of d: more than 0 always.
        tell(x, "?(0:!a(0,!d(8,0,0),0),0:!a(0,1,0))");
        due("8 by 6 of 8 is more than 1", x.edgeOf(0, 0, 0, 1), 2);
        due("told", tell(x, "?(0:!a(0,!d(0,12,0),0),0:!a(0,2,0))"), 1);
        // 12 by 1 of 8 is less than 2; by 2 of 9 it would be more, but that is BIG; by 3 of 10 it would be more, too.
        due("9 is BIG", x.edge(1, 311, 1), NOT);
        x.weight(3, 1, 0, 8);
        due("10 in row 1 is not", x.bottom(), 1000000000000L);
        // 12 by 1 of 10; by 2 of 11: BIG.
        due("11 is BIG", x.edge(1, 311, 1), NOT);
        x.weight(3, 1, 0, 3);
        // 12 by 1 of 5: 2.4 of 12 is more than 2; with the first way at 4: 12 by 1 of 6: BIG.
        due("5 in row 1 is not", x.bottom(), 1000000000000L);
        due("6 is BIG", x.edge(1, 310, 1), NOT);
        due("as it was", x.bottom(), 1000000000000L);
        // With the first way at 2: 12 by 1 of 4 stays more; at 1: BIG, or 4 by 1.
        due("4, then 3, which is BIG", x.edge(1, 310, 0), NOT);
        x.weight(3, 1, 0, 8);
        // 12 by 1 of 10 is 1.2. Third way up: 11 is BIG. Ends and costs do not make it BIG.
        due("2 down to 1", x.edgeOf(1, 10, -1, 0), 1);
        due("it stays", x.weight(3, 1, 0, 8), 8);
        x.weight(3, 1, 0, 9);
        due("BIG itself", x.edge(1, 311, 1), BIG);
        due("BIG itself", x.edgeOf(1, 10, -1, 0), BIG);
        due("BIG itself", x.most(1), BIG);
        due("BAD is named first", x.edge(1, 340, 1), BAD);
    }

    private static void doubts() {
        says("WEIGHTS of its first WAY may be any of a .. b (told, 1 .. 99)");
        SueOrSettle x = sues(333, 1, 2);
        due("1 .. 1", x.doubt(0, 0, 101, 0), 1);
        due("1 .. 99", x.doubt(0, 0, 199, 0), 1);
        due("99 .. 99", x.doubt(0, 0, 9999, 0), 0);
        due("98 .. 99", x.doubt(0, 0, 9899, 1), 2);
        int[] none = {0, 1, 99, 100, 200, 201, 9998, 9900, 10000, 10001, 10099, 10100, -1, -100, -101, MIN, MAX};
        for (int ab : none) {
            due("ab " + ab, x.doubt(0, 0, ab, 0), BAD);
            due("ab " + ab, x.doubt(0, 0, ab, 1), BAD);
            due("ab " + ab, x.worst(0, 0, ab, 0), NONE);
        }
        due("what 2", x.doubt(0, 0, 101, 2), BAD);
        due("what -1", x.doubt(0, 0, 101, -1), BAD);
        due("thing 1", x.doubt(0, 1, 101, 0), BAD);
        due("thing -1", x.doubt(0, -1, 101, 0), BAD);
        due("quarrel 1", x.doubt(1, 0, 101, 0), BAD);
        says("HOLD: for how many of these the told PLAN is as good as the BEST one");
        x.plan(0, 0, 0);
        due("as good with 1", x.doubt(0, 0, 102, 0), 1);
        x.plan(0, 0, 1);
        due("as good with 1, better with 2", x.doubt(0, 0, 102, 0), 2);
        says("STEADY: the PLAN (all CHOICES) that is the BEST one for the most of these (of like ones that of the least weight)");
        due("the first way with 1, the second with 2", x.doubt(0, 0, 102, 1), 1);
        due("that of 1", x.plan(0, 0, -1), 0);
        due("that of 2 and 3", x.doubt(0, 0, 103, 1), 2);
        due("that of 2 and 3", x.plan(0, 0, -1), 1);
        due("that of 1", x.doubt(0, 0, 101, 1), 1);
        due("that of 1", x.plan(0, 0, -1), 0);
        due("that of 2 .. 99", x.doubt(0, 0, 199, 1), 98);
        due("that of 2 and 3 alone", x.doubt(0, 0, 203, 1), 2);
        due("all of them", x.doubt(0, 0, 299, 1), 98);
        due("the weight stays", x.weight(0, 0, 0, 1), 1);
        steadyOfAHundredNodes();
        says("WORST of a PLAN: the least WORTH (COIN) over these");
        x.plan(0, 0, 1);
        fraction("1 of 3", x.worst(0, 0, 199, 0), x.worst(0, 0, 199, 1), 333, 1);
        fraction("99 of 101", x.worst(0, 0, 9999, 0), x.worst(0, 0, 9999, 1), 999 * 99, 101);
        x.change(0, 3, -1, -999);
        fraction("-999 by 99 of 101", x.worst(0, 0, 199, 0), x.worst(0, 0, 199, 1), -999 * 99, 101);
        due("what 2", x.worst(0, 0, 199, 2), NONE);
        due("what -1", x.worst(0, 0, 199, -1), NONE);
        x = with(2);
        tell(x, "!a(1,100)");
        fraction("99 and 100 of 100", x.worst(0, 0, 199, 0), x.worst(0, 0, 199, 1), 199, 100);
        fraction("50 and 100 of 51", x.worst(0, 0, 150, 0), x.worst(0, 0, 150, 1), 50, 17);
        says("BAD (also it HANGS), BIG.");
        x = justWithin();
        tell(x, "?(0:!a(1,5,1),0:1)");
        due("99 is within", x.doubt(0, 0, 199, 0), 99);
        due("it hangs", x.doubt(0, 1, 101, 0), BAD);
        due("it hangs", x.worst(0, 1, 101, 0), NONE);
        x.weight(0, 0, 2, 53);
        due("99 is BIG", x.doubt(0, 0, 199, 0), BIG);
        due("99 is BIG", x.doubt(0, 0, 9999, 1), BIG);
        due("99 is BIG", x.worst(0, 0, 199, 0), NONE);
        due("BAD is named first", x.doubt(0, 0, 100, 0), BAD);
        due("it hangs: BAD is named first", x.doubt(0, 1, 199, 0), BAD);
        x.weight(0, 0, 0, 98);
        due("98 is within", x.bottom(), 1000000000000L);
        due("99 is BIG", x.doubt(0, 0, 9899, 0), BIG);
        due("98 is within", x.doubt(0, 0, 198, 0), 98);
    }

    /** All choices of a plan count and are told, those of the last nodes too. */
    private static void steadyOfAHundredNodes() {
        SueOrSettle x = with(2);
        x.weight(0, 0, 1, 3);
        due("told", tell(x, "A=?(0:2,0:1,0:3,0:4);B=?(0:A,0:A,0:A,0:A);C=?(0:B,0:!a(9,0),0:5,0:"
                + "?(0:".repeat(6) + "?(0:1,0:2)" + ")".repeat(6) + ");?(0:B,0:B,0:B,0:C)"), 0);
        due("99 nodes", x.node(0, 0, 2), 99);
        // 9 by 3 of 6 is less than 5, 9 by 4 of 7 is more.
        due("2, 3: the third way in C; 4, 5: the second", x.doubt(0, 0, 205, 1), 2);
        due("of like ones that of the least weight", x.plan(0, 64, -1), 2);
        due("the last choice", x.plan(0, 96, -1), 1);
        due("a choice of A", x.plan(0, 2, -1), 3);
        due("the first", x.plan(0, 0, -1), 3);
        due("4, 5, 6", x.doubt(0, 0, 306, 1), 3);
        due("the second way in C", x.plan(0, 64, -1), 1);
        due("the last choice", x.plan(0, 96, -1), 1);
        x.change(0, 97, -1, 2);
        due("4, 5, 6", x.doubt(0, 0, 306, 1), 3);
        due("the last choice", x.plan(0, 96, -1), 0);
        for (int shift = 0; shift < 3; shift++) {
            steadyAtEachNode(shift);
        }
    }

    /** Every third node is a choice whose second way is best; they lie further back by a shift. */
    private static void steadyAtEachNode(int shift) {
        SueOrSettle x = with(2);
        tell(x, "A=?(0:1,0:2);B=?(0:A,0:A,0:A,0:A);C=?(0:B,0:B,0:B);?(0:" + "?(0:".repeat(shift) + "0" + ")".repeat(shift)
                + ",0:C,0:C,0:B)");
        due("nodes", x.node(0, 0, 2), 95 + shift);
        due("steady", x.doubt(0, 0, 199, 1), 99);
        due("the first", x.plan(0, 0, -1), 1);
        for (int node = 1; node < 95 + shift; node++) {
            if (x.node(0, node, 0) == 1) {
                boolean second = x.node(0, node, 1) == 2;
                due("node " + node, x.plan(0, node, -1), second ? 1 : 0);
            }
        }
    }

    // ---------------------------------------------------------------- 5 two sides

    private static void tables() {
        says("a table of 1 .. 4 rows and 1 .. 4 columns");
        SueOrSettle x = new SueOrSettle();
        for (int rows = -1; rows <= 6; rows++) {
            for (int columns = -1; columns <= 6; columns++) {
                boolean is = rows >= 1 && rows <= 4 && columns >= 1 && columns <= 4;
                due(rows + " by " + columns, x.table(rows, columns), is ? rows * columns : BAD);
            }
        }
        due("the last one stays", x.sure(-1), 16);
        says("in each cell what the one and the other gets (-99 .. 99; 0 at first)");
        x.table(3, 2);
        for (int row = 0; row <= 4; row++) {
            for (int column = 0; column <= 9; column++) {
                boolean is = row < 3 && column < 2;
                due("cell " + row + ", " + column, x.cell(10 * row + column, 0, 0), is ? 0 : VOID);
                due("cell " + row + ", " + column, x.cell(10 * row + column, 1, 0), is ? 0 : VOID);
            }
        }
        due("cell -1", x.cell(-1, 0, 0), VOID);
        due("cell -10", x.cell(-10, 0, 0), VOID);
        due("99", x.cell(21, 1, 99), 0);
        due("-99", x.cell(21, 1, -99), 99);
        due("100", x.cell(21, 1, 100), VOID);
        due("-100", x.cell(21, 1, -100), VOID);
        due("side -1", x.cell(21, -1, 0), VOID);
        due("side 2", x.cell(21, 2, 0), VOID);
        due("was", x.cell(21, 1, 5), -99);
        due("the one's is 0", x.cell(21, 0, 0), 0);
        says("The table becomes one of rows and columns, all 0");
        x.table(3, 2);
        due("all 0", x.cell(21, 1, 5), 0);
        x.table(4, 4);
        due("all 0", x.cell(21, 1, 5), 0);
        x.table(5, 4);
        due("refused: it stays", x.cell(21, 1, 0), 5);
        x = new SueOrSettle();
        due("without a table", x.cell(0, 0, 0), VOID);
        due("without a table", x.sure(-1), BAD);
        due("without a table", x.sure(0), BAD);
        due("without a table", x.struck(0), BAD);
        due("without a table", x.struck(1), BAD);
        due("without a table", x.lots(0), STATE);
        due("without a table: VOID is named first", x.lots(2), VOID);
    }

    private static SueOrSettle table(int rows, int columns, int... gets) {
        SueOrSettle x = new SueOrSettle();
        x.table(rows, columns);
        for (int i = 0; i < gets.length; i++) {
            x.cell(10 * (i / 2 / columns) + i / 2 % columns, i % 2, gets[i]);
        }
        return x;
    }

    private static SueOrSettle duel(int a, int b, int c, int d) {
        return table(2, 2, a, -a, b, -b, c, -c, d, -d);
    }

    private static void games() {
        says("SURE PAIRS (row, column) from which neither alone is better off elsewhere: how many, the i-th");
        SueOrSettle x = table(1, 1, -99, -99);
        due("one cell", x.sure(-1), 1);
        due("the first", x.sure(0), 0);
        due("behind it", x.sure(1), BAD);
        due("i -2", x.sure(-2), BAD);
        x = new SueOrSettle();
        x.table(4, 4);
        due("16", x.sure(-1), 16);
        for (int i = 0; i < 16; i++) {
            due("pair " + i, x.sure(i), 10 * (i / 4) + i % 4);
        }
        due("the 17th", x.sure(16), BAD);
        x = table(2, 2, 1, 0, 0, 0, 1, 0, 0, 0);
        due("as well off elsewhere is not better off", x.sure(-1), 4);
        x = table(2, 2, 1, 0, 0, 0, 2, 0, 0, 0);
        due("the one is better off at 1, 0", x.sure(-1), 3);
        due("the first", x.sure(0), 1);
        x = table(2, 2, 0, 0, 0, 1, 0, 0, 0, 0);
        due("the other is better off at 0, 1", x.sure(-1), 3);
        due("the first", x.sure(0), 1);
        due("none", duel(1, 0, 0, 1).sure(-1), 0);
        due("none", duel(1, 0, 0, 1).sure(0), BAD);

        says("LOTS of a table of 2 by 2 in which the one gets what the other loses (else STATE)");
        x = duel(99, -99, -99, 98);
        fraction("(99 * 98 - 99 * 99) / 395", x.lots(0), x.lots(1), -99, 395);
        x = duel(99, -99, -99, 99);
        fraction("even", x.lots(0), x.lots(1), 0, 1);
        x = duel(-99, -99, -99, -99);
        fraction("all alike", x.lots(0), x.lots(1), -99, 1);
        x = duel(1, 2, 2, 3);
        fraction("as sure as may be", x.lots(0), x.lots(1), 2, 1);
        x = duel(2, 2, 2, 3);
        fraction("as good", x.lots(0), x.lots(1), 2, 1);
        x = duel(2, 1, 0, 1);
        fraction("as good in a column", x.lots(0), x.lots(1), 1, 1);
        x = duel(2, 1, 0, 2);
        fraction("(4 - 0) / 3", x.lots(0), x.lots(1), 4, 3);
        for (int cell = 0; cell < 4; cell++) {
            x = duel(1, 2, 3, 4);
            x.cell(10 * (cell / 2) + cell % 2, 1, -cell);
            due("cell " + cell + " is not so", x.lots(0), STATE);
        }
        for (int size = 1; size <= 16; size++) {
            int rows = (size + 3) / 4;
            int columns = (size + 3) % 4 + 1;
            x.table(rows, columns);
            due(rows + " by " + columns, x.lots(0), rows == 2 && columns == 2 ? 0 : STATE);
        }
        due("what 2", x.lots(2), VOID);
        due("what -1", x.lots(-1), VOID);

        says("STRUCK: rows struck, that another row is better than in each column, columns likewise, again and again");
        x = new SueOrSettle();
        x.table(4, 3);
        due("none", x.struck(0), 15);
        due("none", x.struck(1), 7);
        due("what 2", x.struck(2), BAD);
        due("what -1", x.struck(-1), BAD);
        due("one cell", table(1, 1, 1, 1).struck(0), 1);
        x = table(2, 2, 1, 0, 1, 0, 0, 0, 0, 0);
        due("row 1", x.struck(0), 1);
        due("columns are alike", x.struck(1), 3);
        x = table(2, 2, 1, 0, 0, 0, 0, 0, 0, 0);
        due("not better in each column", x.struck(0), 3);
        struckToOneCell();
    }

    /** Row 0 falls, then column 0, which it alone spoke for, then row 1, which column 0 alone spoke for, and so on. */
    private static void struckToOneCell() {
        SueOrSettle x = new SueOrSettle();
        x.table(4, 4);
        for (int row = 0; row < 4; row++) {
            for (int column = 0; column < 4; column++) {
                x.cell(10 * row + column, 0, row <= column + 1 ? row : 0);
                x.cell(10 * row + column, 1, column <= row ? column + 1 : 0);
            }
        }
        due("the last row", x.struck(0), 8);
        due("the last column", x.struck(1), 8);
        x.cell(0, 0, 1);
        due("as good in column 0: none falls", x.struck(0), 15);
        due("as good in column 0: none falls", x.struck(1), 15);
        x.cell(0, 0, 0);
        x.cell(32, 1, 4);
        due("as good in row 3: column 2 stays", x.struck(0), 8);
        due("as good in row 3: column 2 stays", x.struck(1), 12);
        // The same from the last row and column down.
        for (int row = 0; row < 4; row++) {
            for (int column = 0; column < 4; column++) {
                x.cell(10 * (3 - row) + 3 - column, 0, row <= column + 1 ? row : 0);
                x.cell(10 * (3 - row) + 3 - column, 1, column <= row ? column + 1 : 0);
            }
        }
        due("the first row", x.struck(0), 1);
        due("the first column", x.struck(1), 1);
    }

    private static void offers() {
        says("1 .. 3 SORTS, each with weight 1 .. 9 and what it would win in court 0 .. 99, its COST of court 0 .. 99");
        SueOrSettle x = new SueOrSettle();
        int[][] bad = {{0, 0, 0}, {10, 0, 0}, {1, -1, 0}, {1, 100, 0}, {1, 0, -1}, {1, 0, 100}};
        for (int[] each : bad) {
            due("sort " + each[0] + " " + each[1] + " " + each[2], x.sort(each[0], each[1], each[2]), BAD);
        }
        due("the least", x.sort(1, 0, 0), 1);
        due("the greatest", x.sort(9, 99, 99), 2);
        due("the third", x.sort(5, 50, 5), 3);
        due("the fourth", x.sort(5, 50, 5), FULL);
        for (int[] each : bad) {
            due("BAD is named first", x.sort(each[0], each[1], each[2]), BAD);
        }
        says("OFFERS told (1 .. 4 sums, 0 .. 99)");
        due("-1", x.offer(-1), BAD);
        due("100", x.offer(100), BAD);
        due("0", x.offer(0), 1);
        due("99", x.offer(99), 2);
        due("told", x.offer(0), BAD);
        due("told", x.offer(99), BAD);
        due("the third", x.offer(50), 3);
        due("the fourth", x.offer(49), 4);
        due("the fifth", x.offer(51), FULL);
        due("BAD is named first: told", x.offer(49), BAD);
        due("BAD is named first", x.offer(100), BAD);
        says("SORTS and OFFERS are none: how many SORTS there were.");
        due("three", x.clear(), 3);
        due("none", x.clear(), 0);
        due("none", x.holds(0, 0), STATE);
        due("told anew", x.offer(49), 1);
        due("told anew", x.sort(1, 49, 0), 1);
        says("PROFILES that HOLD with d (0 .. 99). BAD; STATE: no SORT, OFFER; NOT (1, 2).");
        due("d -1", x.holds(-1, 0), BAD);
        due("d 0", x.holds(0, 2), 1);
        due("d 99", x.holds(99, 2), 1);
        due("d 100", x.holds(100, 0), BAD);
        due("what -1", x.holds(0, -1), BAD);
        due("what 3", x.holds(0, 3), BAD);

        says("taken just if the sum is no more than the mean (by weights) of what those would win, and d");
        x = new SueOrSettle();
        x.sort(1, 10, 99);
        x.sort(2, 11, 99);
        x.offer(12);
        // The mean is 32 / 3.
        due("12 is more than 32 / 3 and 1", x.holds(1, 2), 0);
        due("12 is no more than 32 / 3 and 2", x.holds(2, 2), 1);
        x.clear();
        x.sort(9, 10, 99);
        x.sort(9, 12, 99);
        x.offer(12);
        due("12 is no more than 11 and 1", x.holds(1, 2), 1);
        due("12 is more than 11", x.holds(0, 2), 0);
        says("OFFERS that nobody makes: taken just if the sum is no more than the least win and d");
        x.offer(10);
        // All ask for 12, which 11 and 1 allow: with d 1 10 is taken as well, being no more than 10 and 1.
        due("10 and 12", x.holds(1, 2), 3);
        x.clear();
        x.sort(1, 10, 0);
        x.sort(1, 50, 0);
        x.offer(40);
        x.offer(15);
        // Both ask for 40: the mean is 30. 15, which nobody asks for, would be taken with d 5, not with d 4.
        due("d 4: 40, 40 holds, none is taken", x.holds(4, 2), 0);
        due("d 4: by 15 none gets more", x.holds(4, 1), 0);
        due("d 5: the weak one would ask for 15", x.holds(5, 1) == 0 ? 0 : 1, 1);
        says("the first (by what SORTS make as digits base 4, SORT 0 the highest, then the bits)");
        x.clear();
        x.sort(1, 30, 1);
        x.offer(90);
        x.offer(31);
        x.offer(32);
        x.offer(30);
        // 30 alone is taken with d 0: all ask for it, the offer 3.
        due("one sort", x.holds(0, 1), 3);
        x.sort(9, 30, 99);
        due("two sorts", x.holds(0, 1), 15);
        x.sort(2, 30, 1);
        due("three sorts", x.holds(0, 1), 63);
        due("it is taken", x.holds(0, 2), 8);
        due("one holds", x.holds(0, 0), 1);
        // With d 1 31 is taken, too: all ask for that.
        due("31", x.holds(1, 1), 21);
        due("31 and 30", x.holds(1, 2), 10);
        says("each SORT gets at most as much by another OFFER");
        x.clear();
        x.sort(1, 20, 5);
        x.offer(30);
        x.offer(15);
        // Court brings 15 by 30, which is not taken with d 9; 15 brings as much.
        due("as much: both hold", x.holds(9, 0), 2);
        due("the first", x.holds(9, 1), 0);
        due("d 10: 30 is taken", x.holds(10, 0), 1);
        due("d 10", x.holds(10, 1), 0);
        due("d 10: both are taken", x.holds(10, 2), 3);
    }

    private static void efforts() {
        says("2 to 4 EFFORTS told (a cost to it 0 .. 99, hundredths of winning 0 .. 100)");
        SueOrSettle x = new SueOrSettle();
        int[][] bad = {{-1, 0}, {100, 0}, {0, -1}, {0, 101}};
        for (int[] each : bad) {
            due("effort " + each[0] + " " + each[1], x.effort(each[0], each[1]), BAD);
        }
        due("none", x.hired(5, 0), STATE);
        due("the least", x.effort(0, 0), 1);
        due("one", x.hired(5, 0), STATE);
        due("BAD is named first", x.hired(1000, 0), BAD);
        due("the greatest", x.effort(99, 100), 2);
        due("two", x.hired(5, 0), 0);
        due("the third", x.effort(1, 0), 3);
        due("the fourth", x.effort(1, 0), 4);
        due("the fifth", x.effort(0, 0), FULL);
        for (int[] each : bad) {
            due("BAD is named first", x.effort(each[0], each[1]), BAD);
        }
        says("one who is paid s of 100 of what is won (0 .. 999)");
        due("-1", x.hired(-1, 0), BAD);
        due("1000", x.hired(1000, 0), BAD);
        due("0", x.hired(0, 0), 0);
        // 99 is 10 of 999 and no more than 9.9: with 10 of 100 99.9 is more than 99.
        due("999", x.hired(999, 0), 10);
        fraction("90 of 999", x.hired(999, 2), x.hired(999, 3), 8991, 10);
        says("BEST s (0 .. 100; of like ones the least)");
        fraction("99 of 101 is 99.99", x.hired(101, 2), x.hired(101, 3), 101, 100);
        due("99", x.hired(101, 0), 99);
        due("its effort", x.hired(101, 1), 1);
        due("100 alone would do: 0 is as good", x.hired(100, 0), 0);
        due("its effort", x.hired(100, 1), 0);
        fraction("nothing is left", x.hired(100, 2), x.hired(100, 3), 0, 1);
        says("the EFFORT that is best for it (of like ones the first)");
        due("what -1: there were", x.hired(0, -1), 4);
        x.effort(5, 50);
        x.effort(0, 40);
        // 50 won: with s of 100 the first brings s / 4 - 5, the second s / 5: alike at 100. 500: alike at 10.
        due("alike at 10: the first", x.hired(500, 0), 10);
        due("alike at 10: the first", x.hired(500, 1), 0);
        fraction("90 of 250", x.hired(500, 2), x.hired(500, 3), 225, 1);
        x.hired(0, -1);
        x.effort(0, 40);
        x.effort(5, 50);
        due("alike at 10: 11 for the second", x.hired(500, 0), 11);
        due("what 4", x.hired(500, 4), BAD);
        due("what -2", x.hired(500, -2), BAD);
        says("what -1: EFFORTS are none: how many there were. BAD; STATE: fewer than 2.");
        due("1000: BAD is named first", x.hired(1000, -1), BAD);
        due("-1: BAD is named first", x.hired(-1, -1), BAD);
        due("they stay", x.hired(500, 0), 11);
        due("999", x.hired(999, -1), 2);
        due("none", x.hired(999, -1), 0);
        due("none", x.hired(999, 0), STATE);
    }

    private static void days() {
        says("DAYS 0 .. 19: each with an offer (0 .. 999) that comes with hundredths (0 .. 100); a day waited costs (0 .. 99)");
        SueOrSettle x = new SueOrSettle();
        int[][] bad = {{-1, 0, 0, 0}, {20, 0, 0, 0}, {0, -1, 0, 0}, {0, 1000, 0, 0}, {0, 0, -1, 0}, {0, 0, 101, 0}, {0, 0, 0, -1},
            {0, 0, 0, 100}};
        for (int[] each : bad) {
            due("day " + each[0] + " " + each[1] + " " + each[2] + " " + each[3],
                    x.day(each[0], each[1], each[2], each[3]), BAD);
        }
        due("all 0 at first", x.waits(20, 9, 1), 9000000);
        due("the first, the greatest", x.day(0, 999, 100, 99), 1);
        due("999 comes", x.waits(1, -999, 1), 999000000);
        due("the first, the least", x.day(0, 0, 0, 0), 1);
        due("none comes", x.waits(1, -999, 1), -999000000);
        due("the last", x.day(19, 999, 50, 99), 1);
        due("999 or -1098", x.waits(1920, -999, 1), -49500000);
        due("from the first on", x.waits(20, -999, 1), -49500000);
        says("Of a DAY with so many DAYS in all (1 .. 20) and court worth so much (-999 .. 999)");
        int[] none = {0, 100, 21, 101, 1919, 2020, 2021, -1, -99, -100, 99, 199, MIN, MAX};
        for (int dayOf : none) {
            due("dayOf " + dayOf, x.waits(dayOf, 0, 0), NONE);
            due("dayOf " + dayOf, x.waits(dayOf, 0, 1), NONE);
        }
        due("the last of 19", x.waits(1819, 5, 1), 5000000);
        due("court 999", x.waits(1, 999, 1), 999000000);
        due("court 1000", x.waits(1, 1000, 1), NONE);
        due("court -1000", x.waits(1, -1000, 1), NONE);
        due("what 2", x.waits(1, 0, 2), NONE);
        due("what -1", x.waits(1, 0, -1), NONE);

        says("BAR of a DAY: the least offer to be taken then: that which is no less than what waiting is worth (up, 0 .. 1000)");
        due("999", x.waits(1, 999, 0), 999);
        due("0", x.waits(1, 0, 0), 0);
        due("below 0", x.waits(1, -1, 0), 0);
        due("far below 0", x.waits(1, -999, 0), 0);
        due("1", x.waits(1, 1, 0), 1);
        // Day 1 is worth 1 with 1 of 100: 0.01; with a cost of 0 day 0 waits for that.
        x.day(1, 1, 1, 0);
        due("0.01 is up to 1", x.waits(2, 0, 0), 1);
        x.day(0, 0, 0, 1);
        due("0.01 less 1", x.waits(2, 0, 0), 0);
        due("0.01 less 1", x.waits(2, 0, 1), -990000);
        x.day(1, 0, 0, 0);
        due("1 less 1", x.waits(2, 1, 0), 0);
        due("2 less 1", x.waits(2, 2, 0), 1);
        says("V(k) = (h max(offer, W) + (100 - h) W) / 100 (toward below)");
        // Three days of 1 with 1 of 100 behind court 0: 10000, 19900, 29701; a fourth: 39403.99.
        for (int day = 0; day < 4; day++) {
            x.day(day, 1, 1, 0);
        }
        due("29701", x.waits(104, 0, 1), 29701);
        due("39403.99", x.waits(4, 0, 1), 39403);
        due("-2 and so on: -1970299, then -1940596.01", x.waits(3, -1, 1), belowOf(3));
        due("toward below, below 0", x.waits(4, -1, 1), belowOf(4));
        x.day(0, 5, 100, 0);
        due("an offer as good as waiting", x.waits(1, 5, 1), 5000000);
        due("a worse one is not taken", x.waits(1, 6, 1), 6000000);
    }

    /** Days of 1 with 1 of 100, court -1: by whole numbers toward below. */
    private static long belowOf(int days) {
        long v = -1000000;
        for (int i = 0; i < days; i++) {
            long hundred = 1000000 + 99 * v;
            v = (hundred - ((hundred % 100 + 100) % 100)) / 100;
        }
        return v;
    }

    private static SueOrSettle rowOf(int... elements) {
        SueOrSettle x = new SueOrSettle();
        x.row(0, 1, elements.length);
        for (int i = 0; i < elements.length; i++) {
            x.put(0, i, elements[i]);
        }
        return x;
    }

    private static void daysFromRows() {
        says("DAYS FROM A ROW on a SHELF, from place i on, n (1 .. 20): how many came. BAD, -12");
        SueOrSettle x = new SueOrSettle();
        x.row(5, 1, 60);
        for (int i = 0; i < 60; i++) {
            x.put(5, i, i % 3 == 0 ? i : i % 3 == 1 ? 100 : 0);
        }
        due("n 0", x.days(5, 0, 0), BAD);
        due("n 21", x.days(5, 0, 21), BAD);
        due("shelf 6", x.days(6, 0, 1), BAD);
        due("shelf -1", x.days(-1, 0, 1), BAD);
        due("none came", x.waits(1, 0, 1), 0);
        due("n 1", x.days(5, 3, 1), 1);
        due("the first", x.waits(1, 0, 1), 3000000);
        due("no second", x.waits(102, 0, 1), 0);
        due("n 20", x.days(5, 0, 20), 20);
        due("the last", x.waits(1920, 0, 1), 57000000);
        due("the first waits for it", x.waits(20, 0, 1), 57000000);
        due("the last three", x.days(5, 57, 20), 1);
        due("came to the first", x.waits(1, 0, 1), 57000000);
        due("the second stays", x.waits(102, 0, 1), 3000000);
        says("it ends where the row is missing, ends (within a three, too), or one is not so");
        due("within a three", x.days(5, 58, 20), 0);
        due("within a three", x.days(5, 59, 20), 0);
        due("at its end", x.days(5, 60, 20), 0);
        due("behind its end", x.days(5, 61, 20), 0);
        due("ahead of it", x.days(5, -1, 20), 0);
        due("ahead of it", x.days(5, -3, 20), 0);
        due("far", x.days(5, MAX, 20), 0);
        due("far", x.days(5, MIN, 20), 0);
        due("missing", x.days(4, 0, 20), 0);
        for (int size = 0; size <= 7; size++) {
            due(size + " elements", rowOf(new int[size]).days(0, 0, 20), size / 3);
        }
        int[][] notSo = {{-1, 0, 0}, {1000, 0, 0}, {0, -1, 0}, {0, 101, 0}, {0, 0, -1}, {0, 0, 100}, {32767, 0, 0}, {-32768, 0, 0}};
        for (int[] each : notSo) {
            String what = each[0] + " " + each[1] + " " + each[2];
            due(what, rowOf(each[0], each[1], each[2]).days(0, 0, 20), 0);
            x = rowOf(7, 100, 0, each[0], each[1], each[2], 8, 100, 0);
            due("behind one: " + what, x.days(0, 0, 20), 1);
            due("the one", x.waits(1, 0, 1), 7000000);
            due("no second", x.waits(102, 0, 1), 0);
        }
        due("the greatest", rowOf(999, 100, 99).days(0, 0, 20), 1);
        due("the least", rowOf(0, 0, 0).days(0, 0, 20), 1);
        says("-12 (no ROW of shorts; a SHELF that holds nothing is missing)");
        x.feeling(0, 0);
        x.keep(1, 0);
        due("a feeling", x.days(1, 0, 1), -12);
        for (int sort = 0; sort < 5; sort++) {
            x.row(2, sort, 6);
            due("sort " + sort, x.days(2, 0, 20), sort == 1 ? 2 : -12);
            x.row(2, sort, 0);
            due("empty, sort " + sort, x.days(2, 0, 20), sort == 1 ? 0 : -12);
        }
        due("BAD is named first", x.days(1, 0, 21), BAD);
        x.keep(1, -1);
        due("nothing", x.days(1, 0, 20), 0);
        due("nothing: BAD is named first", x.days(1, 0, 0), BAD);
    }

    // ---------------------------------------------------------------- 6 runs

    private static void runs() {
        says("SUM of n RUNS (1 .. 200) by a SEED. VOID: BAD.");
        SueOrSettle x = with(2);
        tell(x, "?(9:!a(500,-999))");
        tell(x, "7");
        due("n 0", x.run(0, 1, 0), VOID);
        due("n 201", x.run(0, 1, 201), VOID);
        due("n -1", x.run(0, 1, -1), VOID);
        due("quarrel 2", x.run(2, 1, 1), VOID);
        due("quarrel -1", x.run(-1, 1, 1), VOID);
        due("n 1", x.run(1, 1, 1), 7);
        due("n 200", x.run(1, 1, 200), 1400);
        says("z becomes z * 1103515245 + 12345 (an int), (z >>> 8) % T of its row is below the first WAYS' WEIGHTS in order");
        for (int seed : new int[] {0, 1, -1, MIN, MAX, 77777777}) {
            int z = seed;
            long sum = 0;
            for (int i = 0; i < 200; i++) {
                long wide = (long) z * 1103515245L + 12345L;
                z = (int) (wide & 0xffffffffL);
                long drawn = (wide & 0xffffffffL) / 256;
                sum += drawn % 2 < 1 ? 491 : -1008;
            }
            due("seed " + seed, x.run(0, seed, 200), sum);
        }
        x = with(3);
        x.weight(0, 0, 0, 2);
        x.weight(0, 0, 1, 3);
        x.weight(0, 0, 2, 4);
        tell(x, "!a(100,10,1)");
        boolean[] seen = new boolean[9];
        for (int seed = 0; seed < 200; seed++) {
            int drawn = (int) (((seed * 1103515245L + 12345L & 0xffffffffL) >> 8) % 9);
            seen[drawn] = true;
            due("drawn " + drawn, x.run(0, seed, 1), drawn < 2 ? 100 : drawn < 5 ? 10 : 1);
        }
        for (int drawn = 0; drawn < 9; drawn++) {
            due("drawn " + drawn + " came", seen[drawn] ? 1 : 0, 1);
        }
    }

    // ---------------------------------------------------------------- 7 acts and shelves

    private static void acts() {
        says("ACTS of FEELINGS with x (an int that wraps)");
        SueOrSettle x = new SueOrSettle();
        for (int kind = 0; kind < 6; kind++) {
            x.feeling(kind, 100);
        }
        due("pays", x.act(1, 0, MAX), MIN);
        due("feels", x.act(0, 1, 1 << 30), MIN);
        due("feels", x.act(0, 1, MIN), 0);
        due("felt feels", x.act(1, 1, MAX), -1);
        due("fears", x.act(2, 2, MAX), (MAX - 2) * 3);
        due("regret tells", x.act(3, 3, MAX), 2 * (MIN + 3) - 1 + (2 ^ 3) - (1 ^ 3));
        due("part pays", x.act(4, 0, MAX - 103), MIN);
        due("shy pays", x.act(5, 0, MIN - 105), MIN);
        due("shy pays", x.act(5, 0, MAX - 105), -MAX);
        due("tells", x.act(0, 3, MIN), -1);
        says("An ACT (0 .. 3) of a FEELING with x. 0, and no TRACE then: no such FEELING, ACT.");
        int[][] none = {{0, -1}, {0, 4}, {6, 0}, {-1, 0}, {6, 4}, {MIN, 0}, {MAX, 0}, {0, MIN}, {0, MAX}, {19, 0}};
        for (int[] each : none) {
            x.act(3, 3, 1);
            due("eight ran", x.count(5), 8);
            due("act " + each[0] + ", " + each[1], x.act(each[0], each[1], 7), 0);
            due("none ran", x.count(5), 0);
            due("no trace", x.trace(0), BAD);
        }
        says("THE TRACE's i-th body. BAD.");
        due("none at first", new SueOrSettle().trace(0), BAD);
        x.act(5, 3, 1);
        int[] bodies = {2, 10, 60, 50, 1, 61, 11, 60, 50, 1};
        for (int i = 0; i < 10; i++) {
            due("body " + i, x.trace(i), bodies[i]);
        }
        due("behind the last", x.trace(10), BAD);
        due("ahead of the first", x.trace(-1), BAD);
        due("far", x.trace(MAX), BAD);
        due("far", x.trace(MIN), BAD);
        x.act(0, 2, 1);
        due("of the latest act alone", x.count(5), 1);
        due("of the latest act alone", x.trace(0), 11);
        due("of the latest act alone", x.trace(1), BAD);
        says("How many: 0 THINGS .. 5 bodies that ran in the latest act(). BAD.");
        due("-1", x.count(-1), BAD);
        due("6", x.count(6), BAD);
        due("5", x.count(5), 1);
        due("0", x.count(0), 0);
    }

    private static void shelves() {
        says("SHELVES 0 .. 5 each hold nothing (at first), a FEELING, or a ROW");
        SueOrSettle x = new SueOrSettle();
        x.feeling(5, 0);
        for (int shelf = 0; shelf < 6; shelf++) {
            due("nothing at first", x.taken(shelf, 0), -11);
            due("nothing at first", x.put(shelf, 0, 1), -11);
            due("a feeling", x.keep(shelf, 0), 1);
            due("a feeling", x.taken(shelf, 0), 5);
            due("a feeling", x.put(shelf, 0, 1), -12);
            due("a feeling", x.element(shelf, 0), NONE);
            due("a row", x.row(shelf, 0, 1), 1);
            due("a row", x.taken(shelf, 0), -12);
            due("a row", x.put(shelf, 0, 1), 1);
            due("nothing", x.keep(shelf, -1), 1);
            due("nothing", x.taken(shelf, 0), -11);
        }
        for (int shelf : new int[] {-1, 6}) {
            due("keep", x.keep(shelf, 0), BAD);
            due("row", x.row(shelf, 0, 1), BAD);
            due("put", x.put(shelf, 0, 1), BAD);
            due("element", x.element(shelf, 0), NONE);
            due("taken", x.taken(shelf, 0), BAD);
            due("shift", x.shift(shelf, 0, 0, 0, 0), BAD);
            due("shift", x.shift(0, 0, shelf, 0, 0), BAD);
        }
        says("A SHELF holds nothing (feeling -1), or a FEELING: 1. BAD.");
        due("-1", x.keep(0, -1), 1);
        due("-2", x.keep(0, -2), BAD);
        due("0", x.keep(0, 0), 1);
        due("1", x.keep(0, 1), BAD);
        due("it stays", x.taken(0, 5), 5);
        says("What a SHELF holds, taken for a FEELING of KIND k (0 .. 5), or under it: its KIND. BAD, -11, -12.");
        due("k -1", x.taken(0, -1), BAD);
        due("k 6", x.taken(0, 6), BAD);
        due("BAD is named first", x.taken(1, 6), BAD);
        due("-11", x.taken(1, 5), -11);
        due("k 4", x.taken(0, 4), 5);
        due("k 3", x.taken(0, 3), -12);

        says("of 0 .. 60 elements, 0 at first (false)");
        for (int sort = 0; sort < 5; sort++) {
            due("0 elements", x.row(2, sort, 0), 1);
            due("no place 0", x.put(2, 0, 1), -13);
            due("no place 0", x.element(2, 0), NONE);
            due("60 elements", x.row(2, sort, 60), 1);
            due("0 at first", x.element(2, 0), 0);
            due("0 at first", x.element(2, 59), 0);
            due("the last", x.put(2, 59, 1), 1);
            due("the last", x.element(2, 59), 1);
            due("behind it", x.put(2, 60, 1), -13);
            due("behind it", x.element(2, 60), NONE);
            due("ahead", x.put(2, -1, 1), -13);
            due("ahead", x.element(2, -1), NONE);
            due("61 elements", x.row(2, sort, 61), BAD);
            due("-1 elements", x.row(2, sort, -1), -14);
            due("it stays", x.element(2, 59), 1);
        }
        due("sort -1", x.row(2, -1, 1), BAD);
        due("sort 5", x.row(2, 5, 1), BAD);
        due("sort 5: BAD is named first", x.row(2, 5, -1), BAD);
        due("shelf 6: BAD is named first", x.row(6, 0, -1), BAD);
        x.row(3, 3, 60);
        due("the shelf beside it", x.put(3, 0, 8), 1);
        due("is another one", x.element(2, 59), 1);
        x.row(2, 4, 60);
        due("0 anew", x.element(2, 59), 0);
        due("is another one", x.element(3, 0), 8);
        says("what is put in keeps its lowest bits (a boolean: whether it is not 0; 1 or 0)");
        long[][] puts = {{127, 127}, {128, -128}, {255, -1}, {256, 0}, {-128, -128}, {-129, 127}};
        rowKeeps(0, puts);
        rowKeeps(1, new long[][] {{32767, 32767}, {32768, -32768}, {65535, -1}, {65536, 0}, {-32768, -32768}, {-32769, 32767}});
        rowKeeps(2, new long[][] {{MAX, MAX}, {1L << 31, MIN}, {(1L << 32) - 1, -1}, {1L << 32, 0}, {MIN, MIN}, {MIN - 1L, MAX}});
        rowKeeps(3, new long[][] {{Long.MAX_VALUE, Long.MAX_VALUE}, {NONE, NONE}, {1L << 32, 1L << 32}, {-1, -1}});
        rowKeeps(4, new long[][] {{0, 0}, {1, 1}, {2, 1}, {-1, 1}, {256, 1}, {1L << 32, 1}, {NONE, 1}});
    }

    private static void rowKeeps(int sort, long[][] puts) {
        SueOrSettle x = new SueOrSettle();
        x.row(0, sort, 1);
        for (long[] each : puts) {
            due("put", x.put(0, 0, each[0]), 1);
            due("sort " + sort + " of " + each[0], x.element(0, 0), each[1]);
        }
    }

    private static void shifts() {
        says("n elements of a ROW from i on come to another one (or the same) from j on, as they all were before: n.");
        SueOrSettle x = new SueOrSettle();
        x.row(0, 0, 60);
        x.row(1, 0, 5);
        for (int i = 0; i < 60; i++) {
            x.put(0, i, i);
        }
        due("all, to the same", x.shift(0, 0, 0, 0, 60), 60);
        due("stays", x.element(0, 59), 59);
        due("one up", x.shift(0, 0, 0, 1, 59), 59);
        due("the first stays", x.element(0, 0), 0);
        due("the second", x.element(0, 1), 0);
        due("the last", x.element(0, 59), 58);
        due("one down", x.shift(0, 1, 0, 0, 59), 59);
        due("the first", x.element(0, 0), 0);
        due("the last but one", x.element(0, 58), 58);
        due("the last stays", x.element(0, 59), 58);
        due("the last five", x.shift(0, 55, 1, 0, 5), 5);
        due("came", x.element(1, 0), 55);
        due("came", x.element(1, 4), 58);
        due("six of five", x.shift(1, 0, 0, 0, 6), -13);
        due("from the second on", x.shift(1, 1, 0, 0, 5), -13);
        due("six to five", x.shift(0, 0, 1, 0, 6), -13);
        due("to the second on", x.shift(0, 0, 1, 1, 5), -13);
        due("none", x.shift(0, 0, 1, 0, 0), 0);
        due("none, from the end", x.shift(0, 60, 1, 5, 0), 0);
        due("none, from behind the end", x.shift(0, 61, 1, 5, 0), -13);
        due("none, to behind the end", x.shift(0, 60, 1, 6, 0), -13);
        due("from -1", x.shift(0, -1, 1, 0, 1), -13);
        due("to -1", x.shift(0, 0, 1, -1, 1), -13);
        due("-1 elements", x.shift(0, 0, 1, 0, -1), -13);
        due("nothing came", x.element(1, 0), 55);
        says("BAD, -11 (either), -12 (no ROWS, or of unlike sorts), -13.");
        x.feeling(0, 0);
        x.keep(2, 0);
        for (int sort = 1; sort < 5; sort++) {
            x.row(3, sort, 60);
            due("unlike sorts", x.shift(0, 0, 3, 0, 1), -12);
            due("unlike sorts", x.shift(3, 0, 0, 0, 1), -12);
            due("like sorts", x.shift(3, 0, 3, 59, 1), 1);
            due("-12 is named first", x.shift(0, 0, 3, 60, 1), -12);
        }
        due("no row", x.shift(0, 0, 2, 0, 0), -12);
        due("no row", x.shift(2, 0, 0, 0, 0), -12);
        due("no rows", x.shift(2, 0, 2, 0, 0), -12);
        due("nothing", x.shift(4, 0, 0, 0, 0), -11);
        due("nothing", x.shift(0, 0, 4, 0, 0), -11);
        due("-11 is named first", x.shift(2, 0, 4, 0, 0), -11);
        due("-11 is named first", x.shift(4, 0, 2, 0, 0), -11);
        due("BAD is named first", x.shift(4, 0, 6, 0, 0), BAD);
        due("BAD is named first", x.shift(-1, 0, 2, 0, 0), BAD);
    }
}
