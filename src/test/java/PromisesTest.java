/** For each promise of the document: ordinary inputs, the edges it names, and wrong inputs, by answers found by hand. */
public final class PromisesTest {
    private static final int BAD = -1, NOT = -2, FULL = -3, BIG = -4, STATE = -5, VOID = -2000000000;
    private static final long NONE = Long.MIN_VALUE;
    private static final int MIN = Integer.MIN_VALUE, MAX = Integer.MAX_VALUE;
    private static int wrong = 0;
    private static int asked = 0;
    private static int promise = 0;

    private static void due(String what, long got, long want) {
        asked++;
        if (got != want) {
            wrong++;
            System.out.println("promise " + promise + ": " + what + " answered " + got + ", due is " + want);
        }
    }

    private static void each(String what, long[] got, long... want) {
        for (int i = 0; i < want.length; i++) {
            due(what + " #" + i, got[i], want[i]);
        }
    }

    private static int feed(SueOrSettle x, String text) {
        int size = x.count(2);
        for (int i = 0; i < text.length(); i++) {
            size = x.feed(1, text.charAt(i));
        }
        return size;
    }

    private static int tell(SueOrSettle x, String text) {
        feed(x, text);
        return x.quarrel();
    }

    /** One thing of weights 3 and 1, and one quarrel: to settle for 30, or to sue for 5. */
    private static SueOrSettle suit() {
        SueOrSettle x = new SueOrSettle();
        x.thing(2);
        x.weight(0, 0, 0, 3);
        tell(x, "?(0:30,5:!a(80,-20))");
        for (int kind = 0; kind < 6; kind++) {
            x.feeling(kind, kind == 4 ? 40 : 30);
        }
        return x;
    }

    /** Four things that hang on one another, with weights whose sums have no common factors. */
    private static SueOrSettle bigThings() {
        SueOrSettle x = new SueOrSettle();
        for (int thing = 0; thing < 4; thing++) {
            x.thing(3);
            if (thing > 0) {
                x.hang(thing, thing - 1);
            }
            for (int row = 0; row < (thing > 0 ? 3 : 1); row++) {
                x.weight(thing, row, 0, 97);
                x.weight(thing, row, 1, 95 + row);
                x.weight(thing, row, 2, 99);
            }
        }
        return x;
    }

    public static void main(String[] args) {
        things();
        tapes();
        faults();
        nodes();
        changes();
        feelings();
        plans();
        forks();
        asking();
        edges();
        doubts();
        bigness();
        tables();
        offers();
        hired();
        daysToSettle();
        runs();
        acts();
        shelves();
        counts();
        System.out.println(asked + " answers asked, " + wrong + " wrong");
        if (wrong != 0) {
            System.exit(1);
        }
    }

    private static void things() {
        promise = 1;
        SueOrSettle x = new SueOrSettle();
        for (int what = 0; what <= 5; what++) {
            due("count " + what, x.count(what), 0);
        }
        due("no quarrel", x.node(0, 0, 2), VOID);
        due("no feeling", x.counts(0, 1), VOID);
        due("no table", x.sure(-1), BAD);
        due("empty shelf", x.taken(0, 0), -11);
        promise = 2;
        due("1 way", x.thing(1), BAD);
        due("4 ways", x.thing(4), BAD);
        due("least", x.thing(MIN), BAD);
        due("first", x.thing(2), 0);
        due("second", x.thing(3), 1);
        due("third", x.thing(3), 2);
        due("fourth", x.thing(2), 3);
        due("fifth", x.thing(2), FULL);
        due("bad ahead of full", x.thing(0), BAD);
        due("told", tell(x, "1"), 0);
        due("state ahead of full", x.thing(2), STATE);
        due("bad ahead of state", x.thing(5), BAD);
        due("count", x.count(0), 4);
        promise = 3;
        due("behind a quarrel", x.hang(1, 0), STATE);
        due("bad ahead of state", x.hang(1, 1), BAD);
        x = new SueOrSettle();
        x.thing(3);
        x.thing(2);
        due("on itself", x.hang(0, 0), BAD);
        due("on a later one", x.hang(0, 1), BAD);
        due("on none", x.hang(1, -1), BAD);
        due("none on it", x.hang(2, 0), BAD);
        due("none on it", x.hang(-1, 0), BAD);
        x.weight(1, 0, 1, 7);
        x.weight(0, 0, 1, 5);
        x.undo();
        due("hangs", x.hang(1, 0), 1);
        due("none to undo", x.undo(), STATE);
        due("none to do again", x.redo(), STATE);
        due("weight is 1", x.weight(1, 0, 1, 1), 1);
        due("twice", x.hang(1, 0), STATE);
        due("others stay", x.weight(0, 0, 2, 4), 1);
        promise = 4;
        x = new SueOrSettle();
        x.thing(3);
        x.thing(2);
        due("at first", x.weight(0, 0, 2, 99), 1);
        due("was", x.weight(0, 0, 2, 1), 99);
        due("row of none", x.weight(1, 1, 0, 1), BAD);
        x.hang(1, 0);
        due("row of a way", x.weight(1, 2, 1, 8), 1);
        due("row beyond", x.weight(1, 3, 1, 8), BAD);
        due("row below", x.weight(1, -1, 1, 8), BAD);
        due("way beyond", x.weight(1, 0, 2, 8), BAD);
        due("way below", x.weight(0, 0, -1, 8), BAD);
        due("thing", x.weight(2, 0, 0, 8), BAD);
        due("thing", x.weight(-1, 0, 0, 8), BAD);
        due("0", x.weight(0, 0, 0, 0), BAD);
        due("100", x.weight(0, 0, 0, 100), BAD);
        due("kept", x.weight(1, 2, 1, 9), 8);
        odds();
    }

    /** A thing of 1 : 2 : 3, on which one hangs with rows 1 : 1, 1 : 3 and 2 : 4. */
    private static void odds() {
        SueOrSettle x = new SueOrSettle();
        promise = 5;
        due("without things", x.bottom(), 1);
        x.thing(3);
        due("three ways", x.bottom(), 3);
        x.thing(2);
        x.hang(1, 0);
        x.weight(0, 0, 1, 2);
        x.weight(0, 0, 2, 3);
        x.weight(1, 1, 1, 3);
        x.weight(1, 2, 0, 2);
        x.weight(1, 2, 1, 4);
        due("6 by the common multiple of 2, 4, 6", x.bottom(), 72);
        promise = 6;
        due("0, 0", x.number(0), 6);
        due("1, 1", x.number(5), 2 * 9);
        due("2, 0", x.number(2), 3 * 4);
        due("2, 1", x.number(6), 3 * 8);
        due("no way 3", x.number(3), BAD);
        due("no way 2", x.number(8), BAD);
        due("no thing", x.number(16), BAD);
        due("below", x.number(-1), BAD);
        promise = 7;
        due("all", x.chance(0, 0, 0), 1);
        due("all", x.chance(0, 0, 1), 1);
        due("way 1 of b", x.chance(8, 0, 0), 2);
        due("way 1 of b", x.chance(8, 0, 1), 3);
        due("way 2 of a, b is 1", x.chance(3, 8, 0), 1);
        due("way 2 of a, b is 1", x.chance(3, 8, 1), 2);
        due("both of given", x.chance(3 + 8, 3, 0), 2);
        due("both of given", x.chance(3 + 8, 3, 1), 3);
        due("against", x.chance(1, 2, 0), 0);
        due("against", x.chance(1, 2, 1), 1);
        due("no way", x.chance(12, 0, 0), BAD);
        due("no way given", x.chance(0, 12, 0), BAD);
        due("no thing", x.chance(16, 0, 0), BAD);
        due("below", x.chance(-1, 0, 0), BAD);
        due("below", x.chance(0, MIN, 0), BAD);
        due("what", x.chance(0, 0, 2), BAD);
        due("what", x.chance(0, 0, -1), BAD);
    }

    private static void tapes() {
        promise = 8;
        SueOrSettle x = new SueOrSettle();
        due("none", x.feed(0, '1'), BAD);
        due("five", x.feed(5, '1'), BAD);
        due("below", x.feed(-1, '1'), BAD);
        due("lowest first", x.feed(2, '1' | '2' << 8 | '9' << 16), 2);
        x.quarrel();
        due("12", x.node(0, 0, 1), 12);
        for (int i = 0; i < 49; i++) {
            x.feed(4, 0x20202020);
        }
        due("to 199", x.feed(3, 0), 199);
        due("two above", x.feed(2, 0), FULL);
        due("changed nothing", x.count(2), 199);
        due("to 200", x.feed(1, 0), 200);
        due("one above", x.feed(1, 0), FULL);
        due("bad ahead of full", x.feed(9, 0), BAD);
        promise = 9;
        due("blank", x.quarrel(), -100);
        due("tape is empty", x.count(2), 0);
        due("minus", tell(x, "-007"), 1);
        due("minus", x.node(1, 0, 1), -7);
        for (int q = 2; q < 6; q++) {
            due("quarrel", tell(x, "5"), q);
        }
        feed(x, "?");
        due("full", x.quarrel(), FULL);
        due("tape stays", x.count(2), 1);
        due("six", x.count(1), 6);
        due("no seventh", x.node(6, 0, 2), VOID);
        due("no seventh", x.tell(6, -1), BAD);
        x = new SueOrSettle();
        String five = "A=?(0:1,0:2,0:3,0:4);";
        String more = "B=?(0:A,0:A,0:A,0:A);C=?(0:A,0:A,0:?(0:1,0:1));D=?(0:B,0:C);";
        due("100 nodes", tell(x, five + more + "?(0:B,0:B,0:B,0:D)"), 0);
        due("100 nodes", x.node(0, 0, 2), 100);
        due("101 nodes", tell(x, "A=?(0:1,0:2,0:3,0:4);" + more.replace("0:1))", "0:?(0:1)))") + "?(0:B,0:B,0:B,0:D)"), FULL);
        due("tape is empty", x.count(2), 0);
        String four = "?(0:%,0:%,0:%,0:%)";
        due("far too many", tell(x, five + "B=" + four.replace('%', 'A') + ";C=" + four.replace('%', 'B') + ";D="
                + four.replace('%', 'C') + ";E=" + four.replace('%', 'D') + ";F=" + four.replace('%', 'E') + ";"
                + four.replace('%', 'F')), FULL);
        due("fault ahead of nodes", tell(x, five + more + "?(0:B,0:B,0:D,0:Dx)"), -100 - 98);
        due("one told", x.count(1), 1);
    }

    private static void faults() {
        promise = 9;
        SueOrSettle x = new SueOrSettle();
        x.thing(2);
        x.thing(3);
        String[] texts = {"", "-", "--1", "1234", "-1234", "1 ", "(", "?", "?1", "?(", "?()", "?(1", "?(123:1)", "?(1:)",
            "?(1:2", "?(1:2,", "?(1:2,)", "?(1:2;", "?(1:1,2:2,3:3,4:4,5:5)", "?(-1:2)", "!", "!c", "!c(1,2)", "!a", "!a1",
            "!a(1)", "!a(1,2,3)", "!b(1,2)", "!a(1,!a(1,2))", "!a(1,!b(1,2,!a", "A", "B", "G", "a", "A=", "A=1", "A=1;",
            "A=1;A", "A=1;A;", "A=1;B", "A=1;B=A;B", "A=A;A", "A=1;C", "A=1;A=2;A", "A=!a(1,2);!a(1,A)",
            "A=!a(1,2);!b(1,A,2)", "A=?(1:!a(1,2));!a(1,A)", "A=!a(1,2);B=!a(A,1);1", "A=!a(1,2);B=!b(1,2,A);!a(B,1)",
            "A=1;B=2;C=3;D=4;E=5;F=6;G", "A=1;B=2;C=3;D=4;E=5;F=6;F", "A=1;B=2;C=3;D=4;E=5;F=6;A=1;"};
        int[] places = {0, 1, 1, 3, 4, 1, 0, 1, 1, 2, 2, 3, 4, 4, 5, 6, 6, 5, 17, 2, 1, 1, 1, 2, 2, 4, 6, 6, 6, 13, 1, 0,
            0, 0, 2, 3, 4, -1, 5, 5, -1, 2, 4, 5, 15, -1, 20, 15, 25, 24, -1, 25};
        int told = 0;
        for (int i = 0; i < texts.length; i++) {
            if (told == 6) {
                told = 0;
                x = new SueOrSettle();
                x.thing(2);
                x.thing(3);
            }
            due("quarrel of " + texts[i], tell(x, texts[i]), places[i] < 0 ? told : -100 - places[i]);
            told += places[i] < 0 ? 1 : 0;
        }
        String deep = "?(1:".repeat(12) + "7" + ")".repeat(12);
        x = new SueOrSettle();
        x.thing(2);
        due("12 are open", tell(x, deep), 0);
        due("12 are open", x.node(0, 0, 2), 13);
        due("the 13th", tell(x, "?(1:".repeat(13) + "7" + ")".repeat(13)), -149);
        due("the 13th of a thing", tell(x, "?(1:".repeat(12) + "!a(1,2)" + ")".repeat(12)), -150);
        due("12 told", tell(x, "A=" + deep + ";A"), 1);
        due("13 by a capital", tell(x, "A=" + deep + ";?(1:A)"), -100 - 2 - 61 - 5);
        due("6 and 6", tell(x, "A=" + "?(1:".repeat(6) + "7" + ")".repeat(6) + ";" + "?(1:".repeat(6) + "A" + ")".repeat(6)), 2);
        due("6 and 7", tell(x, "A=" + "?(1:".repeat(6) + "7" + ")".repeat(6) + ";" + "?(1:".repeat(7) + "A" + ")".repeat(7)),
                -100 - 34 - 28);
    }

    private static void nodes() {
        promise = 10;
        SueOrSettle x = new SueOrSettle();
        x.thing(2);
        x.thing(3);
        due("told", tell(x, "A=?(3:!b(1,-2,3),41:4);?(5:A,6:!a(A,7))"), 0);
        long[] kinds = new long[16];
        long[] whats = new long[16];
        for (int node = 0; node < 16; node++) {
            kinds[node] = x.node(0, node, 0);
            whats[node] = x.node(0, node, 1);
        }
        each("kinds", kinds, 1, 1, 2, 0, 0, 0, 0, 2, 1, 2, 0, 0, 0, 0, 0, VOID);
        each("whats", whats, 2, 2, 1, 1, -2, 3, 4, 0, 2, 1, 1, -2, 3, 4, 7, VOID);
        due("how many", x.node(0, 0, 2), 15);
        due("node any", x.node(0, MAX, 2), 15);
        due("node any", x.node(0, -1, 2), 15);
        due("way 0", x.node(0, 0, 10), 1);
        due("way 1", x.node(0, 0, 11), 7);
        due("way 2", x.node(0, 0, 12), VOID);
        due("of a thing", x.node(0, 2, 12), 5);
        due("of a thing", x.node(0, 2, 13), VOID);
        due("of an end", x.node(0, 3, 10), VOID);
        due("cost 0", x.node(0, 1, 20), 3);
        due("cost 1", x.node(0, 8, 21), 41);
        due("cost 2", x.node(0, 8, 22), VOID);
        due("cost of a thing", x.node(0, 2, 20), VOID);
        due("quarrel", x.node(1, 0, 2), VOID);
        due("quarrel", x.node(-1, 0, 0), VOID);
        due("node", x.node(0, -1, 0), VOID);
        for (int what : new int[] {3, 9, 14, 19, 24, 30, -1, MIN, MAX}) {
            due("what " + what, x.node(0, 0, what), VOID);
        }
    }

    private static void changes() {
        promise = 11;
        SueOrSettle x = suit();
        due("cost", x.change(0, 0, 1, 99), 5);
        due("cost", x.change(0, 0, 1, 0), 99);
        due("end", x.change(0, 1, -1, -999), 30);
        due("end", x.change(0, 1, -1, 999), -999);
        due("became", x.node(0, 1, 1), 999);
        due("became", x.node(0, 0, 21), 0);
        due("cost 100", x.change(0, 0, 0, 100), VOID);
        due("cost below 0", x.change(0, 0, 0, -1), VOID);
        due("end 1000", x.change(0, 1, -1, 1000), VOID);
        due("end -1000", x.change(0, 1, -1, -1000), VOID);
        due("way", x.change(0, 0, 2, 1), VOID);
        due("way", x.change(0, 0, -2, 1), VOID);
        due("end of a choice", x.change(0, 0, -1, 1), VOID);
        due("cost of a thing", x.change(0, 2, 0, 1), VOID);
        due("end of a thing", x.change(0, 2, -1, 1), VOID);
        due("cost of an end", x.change(0, 1, 0, 1), VOID);
        due("node", x.change(0, 5, -1, 1), VOID);
        due("node", x.change(0, -1, -1, 1), VOID);
        due("quarrel", x.change(1, 0, 0, 1), VOID);
        promise = 12;
        due("may be undone", x.count(4), 5);
        due("end", x.undo(), 4);
        due("end", x.node(0, 1, 1), -999);
        due("end", x.undo(), 3);
        due("end", x.node(0, 1, 1), 30);
        due("cost", x.undo(), 2);
        due("cost", x.node(0, 0, 21), 99);
        due("cost", x.undo(), 1);
        due("weight", x.undo(), 0);
        due("weight", x.chance(1, 0, 1), 2);
        due("none", x.undo(), STATE);
        promise = 13;
        due("weight", x.redo(), 4);
        due("weight", x.chance(1, 0, 1), 4);
        due("cost", x.redo(), 3);
        due("cost", x.node(0, 0, 21), 99);
        due("may be undone", x.count(4), 2);
        due("another one", x.change(0, 0, 0, 7), 0);
        due("none again", x.redo(), STATE);
        due("back", x.undo(), 2);
        due("0 again", x.node(0, 0, 20), 0);
        due("refused one", x.weight(0, 0, 0, 100), BAD);
        due("still", x.redo(), 0);
        due("none", x.redo(), STATE);
        for (int i = 1; i <= 45; i++) {
            x.weight(0, 0, 0, i);
        }
        due("40 are kept", x.count(4), 40);
        for (int i = 39; i >= 0; i--) {
            due("undone", x.undo(), i);
        }
        due("41st", x.undo(), STATE);
        due("the sixth of them", x.weight(0, 0, 0, 5), 5);
        due("like is a change too", x.undo(), 0);
        due("and again", x.redo(), 0);
        tell(x, "?(1:2,3:?(4:5,6:7))");
        promise = 12;
        due("of another quarrel", x.change(1, 2, 1, 66), 6);
        due("of another quarrel", x.change(1, 4, -1, 77), 7);
        due("of the first one", x.change(0, 3, -1, 8), 80);
        x.undo();
        due("80 again", x.node(0, 3, 1), 80);
        x.undo();
        due("7 again", x.node(1, 4, 1), 7);
        x.undo();
        due("6 again", x.node(1, 2, 21), 6);
        promise = 13;
        x.redo();
        due("66 again", x.node(1, 2, 21), 66);
        x.redo();
        due("77 again", x.node(1, 4, 1), 77);
        due("others stay", x.node(1, 2, 20) + x.node(1, 0, 21) + x.node(0, 0, 21), 4 + 3 + 99);
    }

    private static void feelings() {
        promise = 14;
        SueOrSettle x = new SueOrSettle();
        due("kind 6", x.feeling(6, 0), BAD);
        due("kind -1", x.feeling(-1, 0), BAD);
        due("part 101", x.feeling(4, 101), BAD);
        due("part -1", x.feeling(5, -1), BAD);
        due("part does not matter", x.feeling(0, 101), 0);
        due("felt", x.feeling(1, -1), 1);
        due("least", x.feeling(2, MIN), 2);
        due("regret", x.feeling(3, MAX), 3);
        due("part", x.feeling(4, 0), 4);
        due("shy", x.feeling(5, 100), 5);
        for (int i = 6; i < 20; i++) {
            due("shy", x.feeling(5, 25), i);
        }
        due("21st", x.feeling(0, 0), FULL);
        due("bad ahead of full", x.feeling(9, 0), BAD);
        promise = 16;
        due("felt without steps", x.counts(1, -12), -1200);
        promise = 15;
        due("from 10000", x.step(10000, 1), BAD);
        due("from -10000", x.step(-10000, 1), BAD);
        due("10", x.step(1, 10), BAD);
        due("-1", x.step(1, -1), BAD);
        due("first", x.step(10, 5), 1);
        due("ahead", x.step(-4, 2), 2);
        due("ends", x.step(9999, 9), 3);
        promise = 16;
        due("9 coins of 20", x.counts(1, 9), 180);
        due("the tenth of 50", x.counts(1, 10), 230);
        due("9999", x.counts(1, 9999), 180 + 9989 * 50 + 90);
        due("coins 0 to -4", x.counts(1, -5), -100);
        due("coin -5", x.counts(1, -6), -200);
        due("nothing", x.counts(1, 0), 0);
        due("regret as felt", x.counts(3, 10), 230);
        promise = 15;
        due("like one", x.step(10, 7), 4);
        due("ends", x.step(-9999, 0), 5);
        promise = 16;
        due("told last", x.counts(1, 10), 250);
        due("below all", x.counts(1, -9999), -5 * 20);
        due("coin", x.counts(0, 9999), 999900);
        due("least", x.counts(2, -9999), -999900);
        due("part 0", x.counts(4, 55), 0);
        due("shy 100", x.counts(5, 55), 5500);
        due("shy 25", x.counts(6, 55), 1375);
        due("shy below 0", x.counts(6, -55), -5500);
        due("value", x.counts(0, 10000), VOID);
        due("value", x.counts(0, -10000), VOID);
        due("feeling", x.counts(20, 0), VOID);
        due("feeling", x.counts(-1, 0), VOID);
        promise = 15;
        due("sixth", x.step(0, 0), 6);
        due("seventh", x.step(0, 1), FULL);
        due("bad ahead of full", x.step(0, 11), BAD);
    }

    private static void plans() {
        promise = 17;
        SueOrSettle x = suit();
        long[] tops = new long[6];
        long[] bottoms = new long[6];
        for (int f = 0; f < 6; f++) {
            tops[f] = x.best(0, f, 0);
            bottoms[f] = x.best(0, f, 1);
        }
        each("tops", tops, 50, 50, 30, -55, 20, 85);
        each("bottoms", bottoms, 1, 1, 1, 4, 1, 8);
        due("judged is the first", x.plan(0, 0, -1), 0);
        due("becomes", x.best(0, 0, 2), 1);
        due("became", x.plan(0, 0, -1), 1);
        due("least becomes", x.best(0, 2, 2), 1);
        due("least became", x.plan(0, 0, -1), 0);
        due("what 3", x.best(0, 0, 3), NONE);
        due("what -1", x.best(0, 0, -1), NONE);
        due("quarrel", x.best(1, 0, 0), NONE);
        due("feeling", x.best(0, 6, 0), NONE);
        due("feeling", x.best(0, -1, 0), NONE);
        tell(x, "?(0:1,0:!a(?(3:5,1:3,2:4),?(0:0,9:9,0:1)),0:2)");
        x.best(1, 0, 2);
        due("like ones: the first", x.plan(1, 0, -1), 2);
        due("not come to: best too", x.plan(1, 7, -1), 2);
        due("not come to: the first", x.plan(1, 3, -1), 0);
        promise = 18;
        due("was", x.plan(1, 7, 0), 2);
        due("stays", x.plan(1, 7, -1), 0);
        due("stays", x.plan(1, 7, -1), 0);
        due("way beyond", x.plan(1, 7, 3), BAD);
        due("way -2", x.plan(1, 7, -2), BAD);
        due("an end", x.plan(1, 1, -1), BAD);
        due("a thing", x.plan(1, 2, 0), BAD);
        due("node", x.plan(1, 99, 0), BAD);
        due("node", x.plan(1, -1, -1), BAD);
        due("quarrel", x.plan(2, 0, 0), BAD);
        promise = 19;
        x.plan(0, 0, 0);
        due("settle", x.judge(0, 0, 0), 30);
        due("settle with regret", x.judge(0, 3, 0), -135);
        due("settle with regret", x.judge(0, 3, 1), 4);
        x.plan(0, 0, 1);
        due("sue", x.judge(0, 0, 0), 50);
        due("sue for the least", x.judge(0, 2, 0), -25);
        due("sue for a part", x.judge(0, 4, 0), 20);
        due("sue shy", x.judge(0, 5, 1), 8);
        x.step(0, 5);
        x.step(50, 1);
        // 49 coins of 50 and 26 of 10, with 3 of 4; coin 0 of 50 and 24 below it of 100: 5680 / 400.
        due("felt", x.judge(0, 1, 0), 71);
        due("felt", x.judge(0, 1, 1), 5);
        due("what", x.judge(0, 0, 2), NONE);
        due("quarrel", x.judge(-1, 0, 0), NONE);
        due("feeling", x.judge(0, 6, 0), NONE);
        promise = 20;
        due("sue is best", x.shortOf(0, 0), NOT);
        due("sue is worse for the least", x.shortOf(0, 2), 0);
        x.plan(0, 0, 0);
        due("settle is worse", x.shortOf(0, 0), 0);
        due("settle is best for the least", x.shortOf(0, 2), NOT);
        x.plan(1, 0, 1);
        x.plan(1, 3, 0);
        x.plan(1, 7, 1);
        due("another first way", x.shortOf(1, 0), 0);
        x.plan(1, 7, 2);
        due("2 and 1: the mean is 7 / 4", x.shortOf(1, 0), 0);
        x.change(1, 1, -1, -9);
        x.change(1, 11, -1, -9);
        x.plan(1, 7, 0);
        due("the second choice", x.shortOf(1, 0), 7);
        due("feeling", x.shortOf(0, 6), BAD);
        due("quarrel", x.shortOf(2, 0), BAD);
    }

    private static void forks() {
        promise = 21;
        SueOrSettle x = suit();
        x.thing(2);
        due("settle", x.fork(0, 0, 0, 0), 30);
        due("sue", x.fork(0, 0, 1, 0), 50);
        due("sue", x.fork(0, 0, 1, 1), 1);
        tell(x, "?(10:!a(?(1:7,2:?(3:9,2:9)),4),0:6)");
        due("behind a is 0", x.fork(1, 2, 0, 0), 6);
        due("behind a is 0", x.fork(1, 2, 1, 0), 9 - 2 - 2);
        due("22 / 4 less 10", x.fork(1, 0, 0, 0), -9);
        due("22 / 4 less 10", x.fork(1, 0, 0, 1), 2);
        due("what", x.fork(1, 0, 0, 2), NONE);
        due("way", x.fork(1, 0, 2, 0), NONE);
        due("way", x.fork(1, 0, -1, 0), NONE);
        due("a thing", x.fork(1, 1, 0, 0), NONE);
        due("an end", x.fork(1, 3, 0, 0), NONE);
        due("quarrel", x.fork(2, 0, 0, 0), NONE);
        promise = 22;
        due("how many", x.tell(1, -1), 2);
        due("first", x.tell(1, 0), 0);
        due("second", x.tell(1, 1), 20);
        due("third", x.tell(1, 2), BAD);
        x.plan(1, 2, 1);
        due("how many", x.tell(1, -1), 3);
        due("second", x.tell(1, 1), 21);
        due("third", x.tell(1, 2), 40);
        x.plan(1, 0, 1);
        due("one alone", x.tell(1, -1), 1);
        due("its way", x.tell(1, 0), 1);
        due("i", x.tell(1, -2), BAD);
        due("quarrel", x.tell(2, -1), BAD);
    }

    private static void asking() {
        promise = 23;
        SueOrSettle x = suit();
        due("75 and 30", x.ask(0, 0, 0), 55);
        due("75 and 30", x.ask(0, 0, 1), 4);
        due("knowing all", x.ask(0, -1, 0), 55);
        due("thing", x.ask(0, 1, 0), NONE);
        due("thing", x.ask(0, -2, 0), NONE);
        due("what", x.ask(0, 0, 2), NONE);
        due("quarrel", x.ask(1, 0, 0), NONE);
        SueOrSettle none = new SueOrSettle();
        tell(none, "?(1:5,2:7)");
        due("nothing to know", none.ask(0, -1, 0), 0);
        due("nothing to know", none.ask(0, -1, 1), 1);
        due("no thing", none.ask(0, 0, 0), NONE);
        x = new SueOrSettle();
        x.thing(2);
        x.thing(2);
        x.thing(2);
        tell(x, "?(0:!a(10,0),0:!b(10,0))");
        due("of c nothing", x.ask(0, 2, 0), 0);
        due("of c nothing", x.ask(0, 2, 1), 1);
        due("of b", x.ask(0, 1, 0), 5);
        due("of b", x.ask(0, 1, 1), 2);
        promise = 24;
        due("a and b", x.together(0, 0, 1, 0), -5);
        due("a and b", x.together(0, 0, 1, 1), 2);
        due("b and a", x.together(0, 1, 0, 0), -5);
        due("a and c", x.together(0, 0, 2, 0), 0);
        due("the same", x.together(0, 1, 1, 0), NONE);
        due("no thing", x.together(0, 1, 3, 0), NONE);
        due("no thing", x.together(0, -1, 1, 0), NONE);
        due("what", x.together(0, 0, 1, 2), NONE);
        due("quarrel", x.together(1, 0, 1, 0), NONE);
        promise = 25;
        due("like ones", x.first(0), 0);
        tell(x, "?(0:!c(!b(0,2),!b(2,0)),0:1,0:!a(!c(2,1),!c(1,0)))");
        due("none helps alone: a and c do", x.first(1), 0);
        tell(x, "?(0:5,0:!a(5,6),0:!b(0,20))");
        due("b", x.first(2), 1);
        due("quarrel", x.first(3), BAD);
        due("without things", none.first(0), BAD);
    }

    private static void edges() {
        SueOrSettle x = suit();
        promise = 26;
        due("3 to 1", x.edge(0, 0, 0), 2);
        due("up never", x.edge(0, 0, 1), NOT);
        due("1 to 3", x.edge(0, 1, 1), 2);
        due("at its bound", x.edge(0, 1, 0), NOT);
        x.change(0, 1, -1, 50);
        due("like at first: one down", x.edge(0, 0, 0), NOT);
        due("like at first: one up", x.edge(0, 0, 1), 1);
        x.undo();
        due("weights stay", x.chance(1, 0, 1), 4);
        due("nothing to undo", x.count(4), 1);
        due("up 2", x.edge(0, 0, 2), BAD);
        due("up -1", x.edge(0, 0, -1), BAD);
        due("row", x.edge(0, 10, 0), BAD);
        due("way", x.edge(0, 2, 0), BAD);
        due("thing", x.edge(0, 100, 0), BAD);
        due("below", x.edge(0, -1, 0), BAD);
        due("quarrel", x.edge(1, 0, 0), BAD);
        x.weight(0, 0, 1, 20);
        x.change(0, 0, 1, 0);
        due("settled, 3 of 23; 20 to 60 of 60 and 20", x.edge(0, 0, 1), 18);
        x.weight(0, 0, 1, 99);
        due("more than 40 moves", x.edge(0, 0, 1), NOT);
        promise = 27;
        x = suit();
        due("cost of suing up", x.edgeOf(0, 0, 1, 1), 20);
        due("cost of suing down", x.edgeOf(0, 0, 1, 0), NOT);
        due("cost of settling down", x.edgeOf(0, 0, 0, 0), NOT);
        due("settling up", x.edgeOf(0, 1, -1, 1), 20);
        due("80 down", x.edgeOf(0, 3, -1, 0), 27);
        due("80 up", x.edgeOf(0, 3, -1, 1), NOT);
        due("-20 down: 80 moves", x.edgeOf(0, 4, -1, 0), NOT);
        due("end of a choice", x.edgeOf(0, 0, -1, 1), BAD);
        due("cost of an end", x.edgeOf(0, 1, 0, 1), BAD);
        due("a thing", x.edgeOf(0, 2, 0, 1), BAD);
        due("way", x.edgeOf(0, 0, 2, 1), BAD);
        due("up", x.edgeOf(0, 0, 1, 2), BAD);
        due("node", x.edgeOf(0, 5, -1, 1), BAD);
        due("quarrel", x.edgeOf(-1, 0, 0, 1), BAD);
        x = suit();
        tell(x, "!a(?(0:5,0:7),?(0:1,0:50))");
        due("the second choice is not the first", x.edgeOf(1, 4, 1, 1), NOT);
        due("the first one", x.edgeOf(1, 1, 1, 1), 2);
        due("end of the second", x.edgeOf(1, 5, -1, 1), NOT);
        promise = 28;
        due("of the first choice", x.most(1), 2);
        bounds();
        x = suit();
        due("settling", x.most(0), 1);
        due("quarrel", x.most(1), BAD);
        tell(x, "!a(1,2)");
        due("no choice", x.most(1), NOT);
        due("no choice", x.edge(1, 0, 1), NOT);
        due("no choice", x.edgeOf(1, 1, -1, 1), NOT);
        tell(x, "?(0:1,0:99)");
        due("too far", x.most(2), NOT);
        tell(x, "?(0:?(0:10,0:?(0:3,9:20)),0:14)");
        due("20 up by 3, 14 down by 3: the least node", x.most(3), 5);
        tell(x, "?(0:5,0:5,0:5)");
        due("one down", x.most(4), 1);
    }

    /** Moves end at the bounds of costs, ends and weights, and by the 40th. */
    private static void bounds() {
        promise = 27;
        SueOrSettle x = new SueOrSettle();
        x.thing(2);
        x.thing(2);
        x.hang(1, 0);
        String[] texts = {"?(0:999,0:998)", "?(0:999,0:!a(999,998))", "?(0:-998,0:-999)", "?(99:0,0:0)", "?(98:0,98:0)"};
        for (String text : texts) {
            tell(x, text);
        }
        due("998 up: like the first alone", x.edgeOf(0, 2, -1, 1), NOT);
        due("999 down", x.edgeOf(0, 1, -1, 0), 2);
        due("a half up: like the first alone", x.edgeOf(1, 4, -1, 1), NOT);
        due("-998 down to -999: like", x.edgeOf(2, 1, -1, 0), NOT);
        due("-999 up", x.edgeOf(2, 2, -1, 1), 2);
        due("cost 99 up", x.edgeOf(3, 0, 0, 1), NOT);
        due("cost 0 up to 99: more than 40", x.edgeOf(3, 0, 1, 1), NOT);
        due("cost 98 up", x.edgeOf(4, 0, 0, 1), 1);
        due("cost 98 down", x.edgeOf(4, 0, 1, 0), 1);
        x.change(4, 0, 0, 99);
        due("cost 98 up to 99: like, so the first", x.edgeOf(4, 0, 1, 1), 1);
        x.change(4, 2, -1, 1);
        due("cost 98 up to 99: not enough", x.edgeOf(4, 0, 1, 1), NOT);
        x.change(4, 2, -1, 0);
        x.change(4, 0, 0, 0);
        x.change(4, 0, 1, 1);
        due("cost 1 down to 0: like", x.edgeOf(4, 0, 1, 0), NOT);
        x.change(4, 2, -1, 1);
        x.change(4, 0, 0, 60);
        x.change(4, 0, 1, 20);
        due("20 to 61: 41 moves", x.edgeOf(4, 0, 1, 1), NOT);
        x.change(4, 0, 1, 21);
        due("21 to 61: 40 moves", x.edgeOf(4, 0, 1, 1), 40);
        promise = 28;
        due("40 moves", x.most(4), 1);
        x.change(4, 0, 1, 20);
        due("41 moves", x.most(4), NOT);
        promise = 26;
        x = new SueOrSettle();
        x.thing(2);
        x.thing(3);
        x.hang(1, 0);
        x.weight(1, 1, 2, 94);
        x.weight(1, 1, 0, 99);
        // Of row 1: 99, 1 and w; of row 0: 1, 1 and 1. Way 1 pays 100 where b is its third way and a its second one.
        tell(x, "?(0:24,0:!a(0,!b(0,0,100)))");
        due("w 94, 93: more than 24 of 50; 92: less", x.edge(0, 112, 0), 2);
        due("stays", x.weight(1, 1, 2, 94), 94);
        x.change(0, 1, -1, 25);
        due("beyond 99", x.edge(0, 112, 1), NOT);
        x.weight(1, 1, 0, 98);
        due("w to 100 is beyond", x.edge(0, 112, 1), NOT);
        x.weight(1, 1, 0, 97);
        due("w to 99", x.edge(0, 112, 1), 5);
        due("row 0 does not matter", x.edge(0, 102, 1), NOT);
        due("of a", x.edge(0, 1, 1), 1);
        due("no row 2", x.edge(0, 120, 1), BAD);
    }

    private static void doubts() {
        promise = 29;
        SueOrSettle x = suit();
        due("settle holds for 1", x.doubt(0, 0, 105, 0), 1);
        due("stays first", x.plan(0, 0, -1), 0);
        due("weight stays", x.chance(1, 0, 0), 3);
        due("sue for 2 .. 5", x.doubt(0, 0, 105, 1), 4);
        due("told", x.plan(0, 0, -1), 1);
        due("sue holds for 4", x.doubt(0, 0, 105, 0), 4);
        due("like ones: the least weight", x.doubt(0, 0, 102, 1), 1);
        due("told", x.plan(0, 0, -1), 0);
        due("nothing to undo", x.count(4), 1);
        due("99", x.doubt(0, 0, 9999, 1), 1);
        due("all", x.doubt(0, 0, 199, 0), 98);
        due("b below a", x.doubt(0, 0, 201, 0), BAD);
        due("a 0", x.doubt(0, 0, 5, 0), BAD);
        due("b 0", x.doubt(0, 0, 100, 0), BAD);
        due("a 100", x.doubt(0, 0, 10099, 0), BAD);
        due("below", x.doubt(0, 0, -101, 0), BAD);
        due("what", x.doubt(0, 0, 105, 2), BAD);
        due("thing", x.doubt(0, 1, 105, 0), BAD);
        due("quarrel", x.doubt(1, 0, 105, 0), BAD);
        promise = 30;
        due("sue with 1 of 2", x.worst(0, 0, 105, 0), 25);
        due("sue with 2 of 3", x.worst(0, 0, 205, 0), 125);
        due("sue with 2 of 3", x.worst(0, 0, 205, 1), 3);
        x.plan(0, 0, 0);
        due("settle", x.worst(0, 0, 199, 0), 30);
        due("settle", x.worst(0, 0, 199, 1), 1);
        due("b below a", x.worst(0, 0, 201, 0), NONE);
        due("thing", x.worst(0, 1, 105, 0), NONE);
        due("what", x.worst(0, 0, 105, 2), NONE);
        due("quarrel", x.worst(1, 0, 105, 0), NONE);
        x = new SueOrSettle();
        x.thing(2);
        x.thing(2);
        x.hang(1, 0);
        tell(x, "!b(1,2)");
        due("hangs", x.worst(0, 1, 105, 0), NONE);
        promise = 29;
        due("hangs", x.doubt(0, 1, 105, 0), BAD);
        due("no choice", x.doubt(0, 0, 105, 1), 5);
        // A plan of more nodes than a long holds.
        tell(x, "A=?(0:1,0:2);B=?(0:A,0:A,0:A,0:A);C=?(0:B,0:B,0:B);?(0:C,0:!a(9,?(0:0,0:1)))");
        due("steady", x.doubt(1, 0, 105, 1), 5);
        int last = x.node(1, 0, 2) - 1;
        due("the last choice", x.plan(1, last - 2, -1), 1);
        due("the last of A", x.plan(1, 38, -1), 1);
        due("the first", x.plan(1, 0, -1), 1);
    }

    private static void bigness() {
        SueOrSettle x = bigThings();
        tell(x, "?(0:1,0:!a(2,3,4))");
        for (int kind = 0; kind < 6; kind++) {
            x.feeling(kind, 1);
        }
        promise = 5;
        due("big", x.bottom(), BIG);
        promise = 6;
        due("big", x.number(0), BIG);
        due("bad ahead of big", x.number(3), BAD);
        promise = 7;
        due("big", x.chance(0, 0, 0), BIG);
        due("bad ahead of big", x.chance(-1, 0, 0), BAD);
        promise = 17;
        due("big", x.best(0, 0, 0), NONE);
        due("least too", x.best(0, 2, 2), NONE);
        promise = 19;
        due("big", x.judge(0, 0, 0), NONE);
        promise = 20;
        due("big", x.shortOf(0, 0), BIG);
        due("bad ahead of big", x.shortOf(0, 9), BAD);
        promise = 21;
        due("big", x.fork(0, 0, 0, 0), NONE);
        promise = 23;
        due("big", x.ask(0, 0, 0), NONE);
        promise = 24;
        due("big", x.together(0, 0, 1, 0), NONE);
        promise = 25;
        due("big", x.first(0), BIG);
        promise = 26;
        due("big", x.edge(0, 0, 1), BIG);
        due("bad ahead of big", x.edge(0, 3, 1), BAD);
        promise = 27;
        due("big", x.edgeOf(0, 0, 0, 1), BIG);
        promise = 28;
        due("big", x.most(0), BIG);
        promise = 29;
        due("big", x.doubt(0, 0, 105, 0), BIG);
        due("bad ahead of big", x.doubt(0, 1, 105, 0), BAD);
        promise = 30;
        due("big", x.worst(0, 0, 105, 0), NONE);
        promise = 45;
        due("runs are not big", x.run(0, 5, 3), 3);
        promise = 22;
        due("plans are not big", x.tell(0, -1), 1);
        edgeOfBigness();
    }

    /** Sums 2 * 3 * 5 ..: the bottom is just within the bound, or just beyond it. */
    private static void edgeOfBigness() {
        SueOrSettle x = new SueOrSettle();
        for (int thing = 0; thing < 4; thing++) {
            x.thing(3);
            if (thing > 0) {
                x.hang(thing, 0);
            }
        }
        int[][] sums = {{100, 100, 100}, {8, 125, 8}, {16, 125, 10}, {250, 200, 100}};
        x.weight(0, 0, 0, 98);
        for (int thing = 1; thing < 4; thing++) {
            for (int row = 0; row < 3; row++) {
                int sum = sums[thing][row];
                int first = Math.min(99, sum - 2);
                int second = Math.min(99, sum - first - 1);
                x.weight(thing, row, 0, first);
                x.weight(thing, row, 1, second);
                x.weight(thing, row, 2, sum - first - second);
            }
        }
        promise = 5;
        due("100 by 1000 by 2000 by 1000", x.bottom(), 200000000000L);
        x.weight(2, 2, 0, 78);
        due("100 by 1000 by 2000 (80) by 1000", x.bottom(), 200000000000L);
        x.weight(2, 2, 0, 77);
        due("79 by that is beyond", x.bottom(), BIG);
        x.weight(2, 2, 0, 3);
        due("5 is in 2000", x.bottom(), 200000000000L);
        x.weight(0, 0, 0, 99);
        due("101", x.bottom(), 202000000000L);
        x.weight(0, 0, 1, 99);
        x.weight(0, 0, 2, 52);
        due("250", x.bottom(), 500000000000L);
        x.weight(3, 2, 0, 14);
        due("16 does not add to 1000", x.bottom(), 2L * 500000000000L);
        x.weight(0, 0, 2, 53);
        due("251", x.bottom(), BIG);
        promise = 26;
        x.weight(0, 0, 2, 52);
        tell(x, "?(0:!a(1,5,1),0:1)");
        due("the next is beyond", x.edge(0, 2, 1), NOT);
        due("down goes on", x.edge(0, 2, 0), NOT);
        promise = 29;
        due("big within", x.doubt(0, 0, 9899, 0), 2);
        due("weight of b", x.weight(0, 0, 2, 53), 52);
        due("big at 99 alone", x.doubt(0, 0, 9899, 0), BIG);
        due("98 is not", x.doubt(0, 0, 9898, 0), 1);
        promise = 30;
        // (98 + 5 * 99 + 53) / 250
        due("98 is not", x.worst(0, 0, 9898, 0), 323);
        due("98 is not", x.worst(0, 0, 9898, 1), 125);
    }

    private static void tables() {
        SueOrSettle x = new SueOrSettle();
        promise = 31;
        due("0 rows", x.table(0, 1), BAD);
        due("5 rows", x.table(5, 1), BAD);
        due("0 columns", x.table(1, 0), BAD);
        due("5 columns", x.table(1, 5), BAD);
        due("none yet", x.sure(-1), BAD);
        due("1 by 1", x.table(1, 1), 1);
        due("sure", x.sure(-1), 1);
        due("3 by 4", x.table(3, 4), 12);
        promise = 32;
        due("at first", x.cell(23, 1, -99), 0);
        due("was", x.cell(23, 1, 99), -99);
        due("the other side", x.cell(23, 0, 5), 0);
        due("row", x.cell(30, 0, 5), VOID);
        due("column", x.cell(4, 0, 5), VOID);
        due("below", x.cell(-1, 0, 5), VOID);
        due("side", x.cell(0, 2, 5), VOID);
        due("side", x.cell(0, -1, 5), VOID);
        due("v", x.cell(0, 0, 100), VOID);
        due("v", x.cell(0, 0, -100), VOID);
        promise = 31;
        due("again", x.table(4, 4), 16);
        due("all 0", x.cell(23, 1, 0), 0);
        due("refused", x.table(9, 9), BAD);
        due("stays", x.cell(33, 1, 0), 0);
        promise = 33;
        due("all pairs", x.sure(-1), 16);
        due("the sixth", x.sure(5), 11);
        due("none", x.sure(16), BAD);
        due("i", x.sure(-2), BAD);
        x.table(2, 2);
        int[] quarrel = {3, 3, 0, 5, 5, 0, 1, 1};
        for (int i = 0; i < 8; i++) {
            x.cell(10 * (i / 4) + i / 2 % 2, i % 2, quarrel[i]);
        }
        due("one", x.sure(-1), 1);
        due("both tell", x.sure(0), 11);
        promise = 35;
        due("rows", x.struck(0), 2);
        due("columns", x.struck(1), 2);
        due("what", x.struck(2), BAD);
        due("what", x.struck(-1), BAD);
        promise = 34;
        due("not what the other loses", x.lots(0), STATE);
        due("what ahead of state", x.lots(2), VOID);
        due("what", x.lots(-1), VOID);
        duel(x, 2, -1, -3, 4);
        due("5 / 10", x.lots(0), 1);
        due("5 / 10", x.lots(1), 2);
        duel(x, -1, 2, 4, -3);
        due("(3 - 8) / -10", x.lots(0), 1);
        due("(3 - 8) / -10", x.lots(1), 2);
        duel(x, -3, 1, 2, -5);
        due("(15 - 2) / -11", x.lots(0), -13);
        due("(15 - 2) / -11", x.lots(1), 11);
        duel(x, 4, 7, 1, 9);
        due("4 is sure", x.lots(0), 4);
        due("4 is sure", x.lots(1), 1);
        duel(x, 1, 9, 4, 7);
        due("4 below", x.lots(0), 4);
        duel(x, 7, 4, 9, 1);
        due("4 beside", x.lots(0), 4);
        duel(x, 9, 1, 7, 4);
        due("4 across", x.lots(0), 4);
        duel(x, 6, 6, 6, 6);
        due("all alike", x.lots(0), 6);
        x.table(2, 3);
        due("2 by 3", x.lots(0), STATE);
        promise = 35;
        x.table(3, 3);
        int[] ones = {5, 1, 9, 4, 0, 8, 1, 7, 0};
        int[] others = {3, 2, 1, 9, 8, 0, 1, 2, 0};
        for (int i = 0; i < 9; i++) {
            x.cell(10 * (i / 3) + i % 3, 0, ones[i]);
            x.cell(10 * (i / 3) + i % 3, 1, others[i]);
        }
        due("row 1 by row 0, column 2 by the first", x.struck(0), 5);
        due("columns", x.struck(1), 3);
        x.cell(0, 0, 4);
        due("like ones are not struck", x.struck(0), 7);
    }

    private static void duel(SueOrSettle x, int a, int b, int c, int d) {
        x.table(2, 2);
        int[] all = {a, b, c, d};
        for (int i = 0; i < 4; i++) {
            x.cell(10 * (i / 2) + i % 2, 0, all[i]);
            x.cell(10 * (i / 2) + i % 2, 1, -all[i]);
        }
    }

    private static void offers() {
        SueOrSettle x = new SueOrSettle();
        promise = 38;
        due("no sort", x.holds(0, 0), STATE);
        due("bad ahead of state", x.holds(100, 0), BAD);
        promise = 36;
        due("weight 0", x.sort(0, 1, 1), BAD);
        due("weight 10", x.sort(10, 1, 1), BAD);
        due("win", x.sort(1, 100, 1), BAD);
        due("win", x.sort(1, -1, 1), BAD);
        due("cost", x.sort(1, 1, 100), BAD);
        due("cost", x.sort(1, 1, -1), BAD);
        due("strong", x.sort(1, 80, 20), 1);
        promise = 38;
        due("no offer", x.holds(0, 1), STATE);
        promise = 37;
        due("sum", x.offer(100), BAD);
        due("sum", x.offer(-1), BAD);
        due("90", x.offer(90), 1);
        due("told", x.offer(90), BAD);
        promise = 38;
        due("90 is refused", x.holds(9, 0), 1);
        due("90 is refused", x.holds(9, 1), 0);
        due("90 is refused", x.holds(9, 2), 0);
        due("90 is taken", x.holds(10, 2), 1);
        promise = 37;
        due("70", x.offer(70), 2);
        promise = 38;
        // d 9: 90 is not taken and brings 60, 70 is taken: 70 is asked for.
        due("one", x.holds(9, 0), 1);
        due("asks for 70", x.holds(9, 1), 1);
        due("takes 70", x.holds(9, 2), 2);
        promise = 36;
        due("weak", x.sort(3, 20, 10), 2);
        promise = 38;
        // Means are 35, 80, 20. No offer is taken, but of the strong one at 70: the weak one would ask for it then.
        due("d 9", x.holds(9, 0), 3);
        due("first", x.holds(9, 1), 0);
        due("bits", x.holds(9, 2), 0);
        // Both at 90, none taken; or both at 70, that is taken.
        due("d 35", x.holds(35, 0), 2);
        due("d 35", x.holds(35, 1), 0);
        due("d 35", x.holds(35, 2), 0);
        due("d 55: 90 of both is taken, 70 too", x.holds(55, 1), 0);
        due("d 55", x.holds(55, 2), 3);
        due("d 99", x.holds(99, 2), 3);
        due("d", x.holds(-1, 0), BAD);
        due("what", x.holds(0, 3), BAD);
        due("what", x.holds(0, -1), BAD);
        promise = 36;
        due("third", x.sort(9, 99, 99), 3);
        due("fourth", x.sort(9, 0, 99), FULL);
        due("bad ahead of full", x.sort(0, 0, 0), BAD);
        promise = 37;
        due("third", x.offer(0), 3);
        due("fourth", x.offer(99), 4);
        due("fifth", x.offer(1), FULL);
        due("told ahead of full", x.offer(0), BAD);
        promise = 39;
        due("sorts", x.clear(), 3);
        due("none", x.clear(), 0);
        due("again", x.offer(90), 1);
        due("no sort", x.holds(1, 0), STATE);
        promise = 38;
        x.clear();
        // Strong and weak at 50 and 50: 20 would be taken of the weak one. At 50 and 20: 50 of it, too. With the strong
        // one at 20 it would go to court.
        x.sort(1, 50, 0);
        x.sort(1, 20, 5);
        x.offer(50);
        x.offer(20);
        due("none", x.holds(0, 0), 0);
        due("none", x.holds(0, 1), NOT);
        due("none", x.holds(0, 2), NOT);
    }

    private static void hired() {
        SueOrSettle x = new SueOrSettle();
        promise = 41;
        due("none", x.hired(1, 0), STATE);
        due("none there were", x.hired(1, -1), 0);
        due("bad ahead of state", x.hired(1000, 0), BAD);
        promise = 40;
        due("cost", x.effort(100, 1), BAD);
        due("cost", x.effort(-1, 1), BAD);
        due("hundredths", x.effort(1, 101), BAD);
        due("hundredths", x.effort(1, -1), BAD);
        due("first", x.effort(0, 20), 1);
        promise = 41;
        due("one alone", x.hired(100, 0), STATE);
        promise = 40;
        due("second", x.effort(10, 70), 2);
        promise = 41;
        // 100 won: s 20 brings 20 of the first and 20 * 70 - 10 = 4 of the second: as good, the first; s 21 the second.
        due("just more than 20", x.hired(100, 0), 21);
        due("the second", x.hired(100, 1), 1);
        due("79 * 70 / 100", x.hired(100, 2), 553);
        due("79 * 70 / 100", x.hired(100, 3), 10);
        due("nothing won", x.hired(0, 0), 0);
        due("nothing won", x.hired(0, 2), 0);
        due("nothing won", x.hired(0, 3), 1);
        due("won", x.hired(-1, 0), BAD);
        due("what", x.hired(1, 4), BAD);
        due("what", x.hired(1, -2), BAD);
        due("all won", x.hired(999, 0), 3);
        x.hired(0, -1);
        x.effort(0, 10);
        x.effort(1, 60);
        due("1 of 100 will do", x.hired(999, 0), 1);
        x.hired(0, -1);
        x.effort(0, 20);
        x.effort(10, 70);
        promise = 40;
        due("third", x.effort(99, 100), 3);
        due("fourth", x.effort(0, 0), 4);
        due("fifth", x.effort(0, 0), FULL);
        due("bad ahead of full", x.effort(0, 101), BAD);
        promise = 41;
        due("bad clears none", x.hired(1000, -1), BAD);
        due("there were", x.hired(1, -1), 4);
        due("none now", x.hired(1, 1), STATE);
        promise = 40;
        due("again", x.effort(10, 70), 1);
        due("again", x.effort(0, 20), 2);
        promise = 41;
        due("of like ones the first", x.hired(100, 0), 20);
        due("of like ones the first", x.hired(100, 1), 0);
        due("80 * 70 / 100", x.hired(100, 2), 56);
    }

    private static void daysToSettle() {
        SueOrSettle x = new SueOrSettle();
        promise = 42;
        due("day", x.day(20, 1, 1, 1), BAD);
        due("day", x.day(-1, 1, 1, 1), BAD);
        due("offer", x.day(0, 1000, 1, 1), BAD);
        due("offer", x.day(0, -1, 1, 1), BAD);
        due("hundredths", x.day(0, 1, 101, 1), BAD);
        due("hundredths", x.day(0, 1, -1, 1), BAD);
        due("cost", x.day(0, 1, 1, 100), BAD);
        due("cost", x.day(0, 1, 1, -1), BAD);
        promise = 44;
        due("all 0 at first", x.waits(20, 7, 1), 7000000);
        due("bar", x.waits(20, 7, 0), 7);
        promise = 42;
        due("day", x.day(0, 100, 50, 10), 1);
        due("day", x.day(1, 999, 33, 1), 1);
        promise = 44;
        due("one day: 100 or 50 - 10", x.waits(1, 50, 1), 70000000);
        due("40 at least", x.waits(1, 50, 0), 40);
        due("two days: waiting from 49", x.waits(102, 50, 1), (33L * 999 + 67 * 49) * 10000);
        due("362.5 and 1 less", x.waits(2, 50, 0), 353);
        due("both days", x.waits(2, 50, 1), 352500000);
        due("court below 0", x.waits(1, -999, 0), 0);
        due("court below 0", x.waits(1, -999, 1), 5000000L * 10 - 1009L * 500000);
        x.day(2, 0, 0, 0);
        due("999", x.waits(203, 999, 0), 999);
        x.day(0, 0, 1, 0);
        due("toward below", x.waits(1, -999, 1), -989010000);
        for (int day = 0; day < 20; day++) {
            x.day(day, 1, 33, 0);
        }
        long v = -1000000;
        for (int day = 0; day < 20; day++) {
            v = Math.floorDiv(33 * 1000000 + 67 * v, 100L);
        }
        due("twenty days", x.waits(20, -1, 1), v);
        due("the last one", x.waits(1920, -1, 1), -340000);
        due("beyond", x.waits(2020, 1, 0), NONE);
        due("beyond", x.waits(101, 1, 0), NONE);
        due("21 days", x.waits(21, 1, 0), NONE);
        due("no days", x.waits(0, 1, 0), NONE);
        due("no days", x.waits(100, 1, 0), NONE);
        due("below", x.waits(-1, 1, 0), NONE);
        due("court", x.waits(1, 1000, 0), NONE);
        due("court", x.waits(1, -1000, 0), NONE);
        due("what", x.waits(1, 1, 2), NONE);
        due("what", x.waits(1, 1, -1), NONE);
        daysFromRows();
    }

    private static void daysFromRows() {
        SueOrSettle x = new SueOrSettle();
        promise = 43;
        x.row(2, 1, 8);
        int[] row = {7, 100, 20, 5, 999, 100, 99, 3};
        for (int i = 0; i < 8; i++) {
            x.put(2, i, row[i]);
        }
        due("99 hundredths, a cost of 3 are no three", x.days(2, 0, 3), 1);
        due("7 of 100", x.waits(1, 0, 1), 7000000);
        due("the second stays", x.waits(102, 0, 1), 0);
        due("from place 1", x.days(2, 1, 20), 2);
        due("100 of 20 of 5", x.waits(1, 0, 1), 20 * 1000000 - 80 * 50000L);
        due("from place 4", x.days(2, 4, 20), 1);
        due("a day of 999", x.waits(1, 0, 1), 999000000);
        due("within a three", x.days(2, 6, 1), 0);
        due("at its end", x.days(2, 8, 1), 0);
        due("beyond", x.days(2, MAX, 20), 0);
        due("ahead", x.days(2, -1, 1), 0);
        due("ahead", x.days(2, MIN, 1), 0);
        due("nothing there", x.days(3, 0, 1), 0);
        due("n", x.days(2, 0, 0), BAD);
        due("n", x.days(2, 0, 21), BAD);
        due("shelf", x.days(6, 0, 1), BAD);
        due("shelf", x.days(-1, 0, 1), BAD);
        x.feeling(0, 0);
        x.keep(4, 0);
        due("a feeling", x.days(4, 0, 1), -12);
        for (int sort = 0; sort < 5; sort++) {
            x.row(5, sort, 60);
            due("sort " + sort, x.days(5, 0, 20), sort == 1 ? 20 : -12);
        }
        due("all 0", x.waits(20, 9, 1), 9000000);
        x.row(5, 1, 60);
        due("n of them", x.days(5, 0, 7), 7);
        due("to the end of the row", x.days(5, 30, 20), 10);
    }

    private static void runs() {
        promise = 45;
        SueOrSettle x = new SueOrSettle();
        x.thing(3);
        x.thing(2);
        x.hang(1, 0);
        int[][] weights = {{2, 3, 4}, {1, 9}, {5, 5}, {8, 1}};
        for (int i = 0; i < 4; i++) {
            for (int way = 0; way < weights[i].length; way++) {
                x.weight(i == 0 ? 0 : 1, i == 0 ? 0 : i - 1, way, weights[i][way]);
            }
        }
        tell(x, "?(3:!a(1,!b(20,300),7),1:!b(5,!a(1,2,3)))");
        for (int plan = 0; plan < 2; plan++) {
            x.plan(0, 0, plan);
            for (int seed : new int[] {0, 1, -7, MIN, MAX, 123456789}) {
                for (int n : new int[] {1, 2, 77, 200}) {
                    due("seed " + seed + " n " + n, x.run(0, seed, n), ran(weights, plan, seed, n));
                }
            }
        }
        due("n 0", x.run(0, 1, 0), VOID);
        due("n 201", x.run(0, 1, 201), VOID);
        due("quarrel", x.run(1, 1, 1), VOID);
        due("quarrel", x.run(-1, 1, 1), VOID);
        due("changes nothing", x.run(0, 5, 9), x.run(0, 5, 9));
    }

    private static int ran(int[][] weights, int plan, int seed, int n) {
        int z = seed;
        int sum = 0;
        for (int i = 0; i < n; i++) {
            z = z * 1103515245 + 12345;
            int drawn = (z >>> 8) % 9;
            int a = drawn < 2 ? 0 : drawn < 5 ? 1 : 2;
            z = z * 1103515245 + 12345;
            int[] row = weights[a + 1];
            int b = (z >>> 8) % (row[0] + row[1]) < row[0] ? 0 : 1;
            int first = a == 0 ? 1 : a == 2 ? 7 : b == 0 ? 20 : 300;
            int second = b == 0 ? 5 : a + 1;
            sum += plan == 0 ? first - 3 : second - 1;
        }
        return sum;
    }

    private static void acts() {
        SueOrSettle x = new SueOrSettle();
        for (int kind = 0; kind < 6; kind++) {
            x.feeling(kind, 10 * kind);
        }
        // Of each kind (its number is the kind, its part 40 or 50): pays, feels, fears, tells of 9, and the bodies.
        int[][] answers = {{9, 18, 9, 17}, {10, 19, 8, 19}, {11, 22, 33, 13}, {12, 24, 10, 24}, {53, 106, 13, 101},
            {-64, -128, 12 - 56, -128 - (4 - 56)}};
        int[][][] bodies = {
            {{1}, {10, 1}, {11}, {2, 10, 1, 11}},
            {{1}, {20, 10, 1}, {11}, {2, 20, 10, 1, 11}},
            {{1}, {10, 1}, {30, 11}, {2, 10, 1, 30, 11}},
            {{1}, {40, 20, 10, 1, 11}, {11}, {41, 2, 40, 20, 10, 1, 11, 11}},
            {{50, 1}, {10, 50, 1}, {11}, {2, 10, 50, 1, 11}},
            {{60, 50, 1}, {10, 60, 50, 1}, {61, 11, 60, 50, 1}, {2, 10, 60, 50, 1, 61, 11, 60, 50, 1}}};
        for (int kind = 0; kind < 6; kind++) {
            for (int act = 0; act < 4; act++) {
                promise = 46;
                due("act " + act + " of kind " + kind, x.act(kind, act, 9), answers[kind][act]);
                promise = 47;
                for (int i = 0; i < bodies[kind][act].length; i++) {
                    due("trace " + i + " of act " + act + " of kind " + kind, x.trace(i), bodies[kind][act][i]);
                }
                due("no more", x.trace(bodies[kind][act].length), BAD);
                due("count", x.count(5), bodies[kind][act].length);
            }
        }
        due("below", x.trace(-1), BAD);
        due("beyond", x.trace(24), BAD);
        due("beyond", x.trace(MAX), BAD);
        promise = 46;
        due("wraps", x.act(2, 1, MAX), (MAX + 2) * 2);
        due("no act", x.act(0, 4, 1), 0);
        due("no trace", x.count(5), 0);
        due("no trace", x.trace(0), BAD);
        x.act(0, 0, 1);
        due("no act", x.act(0, -1, 1), 0);
        due("no trace", x.count(5), 0);
        x.act(0, 0, 1);
        due("no feeling", x.act(6, 0, 1), 0);
        due("no trace", x.count(5), 0);
        due("no feeling", x.act(-1, 0, 1), 0);
    }

    private static void shelves() {
        SueOrSettle x = new SueOrSettle();
        for (int kind = 0; kind < 6; kind++) {
            x.feeling(kind, 10);
        }
        promise = 48;
        due("shelf", x.keep(6, 0), BAD);
        due("shelf", x.keep(-1, 0), BAD);
        due("feeling", x.keep(0, 6), BAD);
        due("feeling", x.keep(0, -2), BAD);
        due("feeling", x.keep(0, 3), 1);
        due("there", x.taken(0, 1), 3);
        due("nothing", x.keep(0, -1), 1);
        due("nothing", x.taken(0, 1), -11);
        promise = 53;
        int[] above = {-1, 0, 0, 1, 0, 4};
        for (int kind = 0; kind < 6; kind++) {
            x.keep(1, kind);
            for (int k = 0; k < 6; k++) {
                boolean under = kind == k || above[kind] == k || k == 0;
                due("kind " + kind + " for " + k, x.taken(1, k), under ? kind : -12);
            }
        }
        due("kind", x.taken(1, 6), BAD);
        due("kind", x.taken(1, -1), BAD);
        due("shelf", x.taken(6, 0), BAD);
        due("bad ahead of nothing", x.taken(2, 6), BAD);
        promise = 49;
        due("sort", x.row(2, 5, 1), BAD);
        due("sort", x.row(2, -1, 1), BAD);
        due("61", x.row(2, 0, 61), BAD);
        due("shelf", x.row(6, 0, 1), BAD);
        due("-1", x.row(2, 0, -1), -14);
        due("bad ahead of size", x.row(2, 5, -1), BAD);
        due("still nothing", x.put(2, 0, 1), -11);
        due("60", x.row(2, 3, 60), 1);
        due("0", x.row(3, 3, 0), 1);
        promise = 53;
        due("a row", x.taken(2, 0), -12);
        promise = 50;
        due("a feeling", x.put(1, 0, 1), -12);
        due("nothing", x.put(4, 0, 1), -11);
        due("shelf", x.put(6, 0, 1), BAD);
        due("shelf", x.put(-1, 0, 1), BAD);
        due("place", x.put(2, 60, 1), -13);
        due("place", x.put(2, -1, 1), -13);
        due("place", x.put(3, 0, 1), -13);
        promise = 51;
        due("a feeling", x.element(1, 0), NONE);
        due("nothing", x.element(4, 0), NONE);
        due("shelf", x.element(6, 0), NONE);
        due("place", x.element(2, 60), NONE);
        due("place", x.element(2, -1), NONE);
        due("place", x.element(3, 0), NONE);
        due("0 at first", x.element(2, 59), 0);
        long[] put = {0x1234567890abcdefL, -1, 1L << 33, 384, 65536 + 32768};
        long[][] kept = {{(byte) 0xef, -1, 0, -128, 0}, {(short) 0xcdef, -1, 0, 384, -32768},
            {0x90abcdef, -1, 0, 384, 98304}, put, {1, 1, 1, 1, 1}};
        for (int sort = 0; sort < 5; sort++) {
            x.row(5, sort, 5);
            for (int i = 0; i < 5; i++) {
                promise = 50;
                due("put", x.put(5, i, put[i]), 1);
                promise = 51;
                due("sort " + sort + " element " + i, x.element(5, i), kept[sort][i]);
            }
        }
        x.put(5, 3, 0);
        due("false", x.element(5, 3), 0);
        x.row(5, 4, 4);
        due("0 again", x.element(5, 0), 0);
        due("0 again", x.element(5, 2), 0);
        x.put(2, 1, NONE);
        due("the least long", x.element(2, 1), NONE);
        shifts();
    }

    private static void shifts() {
        SueOrSettle x = new SueOrSettle();
        promise = 52;
        x.feeling(0, 0);
        x.row(0, 2, 6);
        x.row(1, 2, 4);
        x.row(2, 3, 4);
        x.keep(3, 0);
        for (int i = 0; i < 6; i++) {
            x.put(0, i, 10 + i);
        }
        due("to another", x.shift(0, 3, 1, 1, 3), 3);
        each("came", new long[] {x.element(1, 0), x.element(1, 1), x.element(1, 2), x.element(1, 3)}, 0, 13, 14, 15);
        due("up", x.shift(0, 0, 0, 2, 4), 4);
        long[] all = new long[6];
        for (int i = 0; i < 6; i++) {
            all[i] = x.element(0, i);
        }
        each("as they were", all, 10, 11, 10, 11, 12, 13);
        due("down", x.shift(0, 2, 0, 1, 4), 4);
        for (int i = 0; i < 6; i++) {
            all[i] = x.element(0, i);
        }
        each("as they were", all, 10, 10, 11, 12, 13, 13);
        due("none at the end", x.shift(0, 6, 1, 4, 0), 0);
        due("beyond its end", x.shift(0, 7, 1, 0, 0), -13);
        due("beyond its end", x.shift(0, 0, 1, 5, 0), -13);
        due("from beyond", x.shift(0, 4, 1, 0, 3), -13);
        due("to beyond", x.shift(0, 0, 1, 2, 3), -13);
        due("from below", x.shift(0, -1, 1, 0, 1), -13);
        due("to below", x.shift(0, 0, 1, -1, 1), -13);
        due("fewer than none", x.shift(0, 0, 1, 0, -1), -13);
        due("far", x.shift(0, MAX, 1, MAX, MAX), -13);
        due("far", x.shift(0, 1, 1, 1, MAX), -13);
        due("far", x.shift(0, MIN, 1, MIN, MIN), -13);
        due("unlike sorts", x.shift(0, 0, 2, 0, 1), -12);
        due("unlike ahead of place", x.shift(0, -1, 2, 0, 1), -12);
        due("a feeling", x.shift(0, 0, 3, 0, 1), -12);
        due("feelings", x.shift(3, 0, 3, 0, 0), -12);
        due("nothing", x.shift(0, 0, 4, 0, 1), -11);
        due("nothing", x.shift(4, 0, 0, 0, 1), -11);
        due("nothing ahead of kind", x.shift(3, 0, 4, 0, 1), -11);
        due("shelf", x.shift(6, 0, 0, 0, 1), BAD);
        due("shelf", x.shift(0, 0, 6, 0, 1), BAD);
        due("bad ahead of nothing", x.shift(4, 0, -1, 0, 1), BAD);
    }

    private static void counts() {
        promise = 54;
        SueOrSettle x = suit();
        feed(x, "12");
        x.act(3, 3, 1);
        each("counts", new long[] {x.count(0), x.count(1), x.count(2), x.count(3), x.count(4), x.count(5)}, 1, 1, 2, 6, 1, 8);
        x.undo();
        due("undone", x.count(4), 0);
        due("6", x.count(6), BAD);
        due("-1", x.count(-1), BAD);
        due("least", x.count(MIN), BAD);
    }
}
