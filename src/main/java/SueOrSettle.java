import java.util.Arrays;

/**
 * To sue or to settle: quarrels as trees, their plans, what answers are worth, and two sides at a table.
 * Every refusal is a number; no call throws.
 */
public final class SueOrSettle {
    public static final int BAD = -1, NOT = -2, FULL = -3, BIG = -4, STATE = -5, VOID = -2000000000;

    private static final long NONE = -9223372036854775808L;
    private static final int NOTHING_THERE = -11, OTHER_KIND = -12, NO_PLACE = -13, SIZE_BELOW = -14;
    private static final int MOST_THINGS = 4, MOST_WEIGHTS = 36, MOST_WEIGHT = 99;
    private static final int MOST_QUARRELS = 6, MOST_NODES = 100, MOST_WAYS = 4, MOST_OPEN = 12;
    private static final int END = 0, CHOICE = 1, TURNS = 2;
    private static final int MOST_COST = 99, MOST_END = 999, MOST_VALUE = 9999;
    private static final int MOST_FEELINGS = 20, MOST_CHANGES = 40, MOST_MOVES = 40;
    private static final int MOST_SHELVES = 6, MOST_ELEMENTS = 60;
    private static final int SHORTS = 1, SORTS_OF_ROWS = 5, EMPTY = -1, FIRST_FEELING = 10;
    private static final int LONGS_OF_PLAN = 4;

    private final Things things = new Things();
    private final Reader reader = new Reader();
    private final Quarrel[] quarrels = new Quarrel[MOST_QUARRELS];
    private int quarrelCount = 0;

    private final Sense sense = new Sense();
    private final End coin = new End(sense, 0, 0);
    private final End[] feelings = new End[MOST_FEELINGS];
    private int feelingCount = 0;

    /** Threes: where, what it was, what it became. */
    private final int[] changes = new int[3 * MOST_CHANGES];
    private int changesDone = 0;
    private int changesUndone = 0;

    private final Sides sides = new Sides();

    /** Of each shelf: EMPTY, the sort of its row, or FIRST_FEELING and the feeling's number. */
    private final int[] shelfHolds = new int[MOST_SHELVES];
    private final int[] shelfSize = new int[MOST_SHELVES];
    private final long[] shelfRows = new long[MOST_SHELVES * MOST_ELEMENTS];

    /** Plans that were best for the weights tried by doubt, two bits a node, and how often each was. */
    private final long[] seenPlans = new long[LONGS_OF_PLAN * MOST_WEIGHT];
    private final int[] seenTimes = new int[MOST_WEIGHT];

    public SueOrSettle() {
        Arrays.fill(shelfHolds, EMPTY);
    }

    // ---- things

    public int thing(int ways) {
        if (ways < 2 || ways > 3) {
            return BAD;
        }
        if (quarrelCount > 0) {
            return STATE;
        }
        return things.size >= MOST_THINGS ? FULL : things.addThing(ways);
    }

    public int hang(int thing, int on) {
        if (!things.isThing(thing) || on < 0 || on >= thing) {
            return BAD;
        }
        if (things.hangs(thing) || quarrelCount > 0) {
            return STATE;
        }
        things.hangOn(thing, on);
        changesDone = 0;
        changesUndone = 0;
        return 1;
    }

    public int weight(int thing, int row, int way, int v) {
        if (!things.hasWeight(thing, row, way) || v < 1 || v > MOST_WEIGHT) {
            return BAD;
        }
        int place = Things.placeOf(thing, row, way);
        int was = things.weightAt(place);
        things.setWeight(place, v);
        remember(place, was, v);
        return was;
    }

    public long bottom() {
        return things.ready() ? things.whole : BIG;
    }

    public long number(int state) {
        if (!things.isState(state)) {
            return BAD;
        }
        return things.ready() ? things.massOf(things.codeOf(state)) : BIG;
    }

    public long chance(int of, int given, int what) {
        if (!things.isTold(of) || !things.isTold(given) || !isPart(what)) {
            return BAD;
        }
        if (!things.ready()) {
            return BIG;
        }
        return fraction(things.massWith(of, given), things.massOf(given), what);
    }

    // ---- quarrels

    public int feed(int n, int v) {
        if (n < 1 || n > 4) {
            return BAD;
        }
        return reader.hasRoom(n) ? reader.take(n, v) : FULL;
    }

    public int quarrel() {
        if (quarrelCount >= MOST_QUARRELS) {
            return FULL;
        }
        int last = reader.readText(things);
        int answer;
        if (last < 0) {
            answer = -100 - reader.fault;
        } else if (reader.sizeOf(last) > MOST_NODES) {
            answer = FULL;
        } else {
            answer = quarrelCount;
            quarrels[quarrelCount] = reader.writeText(last);
            quarrelCount++;
        }
        reader.forget();
        return answer;
    }

    public int node(int quarrel, int node, int what) {
        Quarrel told = quarrelAt(quarrel);
        if (told == null) {
            return VOID;
        }
        if (what == 2) {
            return told.size;
        }
        if (!told.isNode(node)) {
            return VOID;
        }
        if (what == 0) {
            return told.kindOf(node);
        }
        if (what == 1) {
            return told.kindOf(node) == CHOICE ? told.waysOf(node) : told.whatOf(node);
        }
        if (what >= 20 && told.isWay(node, what - 20)) {
            return told.costOf(node, what - 20);
        }
        return what >= 10 && told.isBranch(node, what - 10) ? told.nodeBehind(node, what - 10) : VOID;
    }

    public int change(int quarrel, int node, int way, int v) {
        Quarrel told = quarrelAt(quarrel);
        if (told == null || !told.isMovable(node, way) || !told.isWithin(way, v)) {
            return VOID;
        }
        int was = told.movable(node, way);
        told.setMovable(node, way, v);
        remember(placeOfChange(quarrel, node, way), was, v);
        return was;
    }

    public int undo() {
        if (changesDone == 0) {
            return STATE;
        }
        changesDone--;
        changesUndone++;
        restore(changes[3 * changesDone], changes[3 * changesDone + 1]);
        return changesDone;
    }

    public int redo() {
        if (changesUndone == 0 || changesDone >= MOST_CHANGES) {
            return STATE;
        }
        restore(changes[3 * changesDone], changes[3 * changesDone + 2]);
        changesDone++;
        changesUndone--;
        return changesUndone;
    }

    // ---- feelings, plans

    public int feeling(int kind, int s) {
        boolean hasPart = kind == 4 || kind == 5;
        if (kind < 0 || kind > 5 || hasPart && (s < 0 || s > 100)) {
            return BAD;
        }
        if (feelingCount >= MOST_FEELINGS) {
            return FULL;
        }
        feelings[feelingCount] = newFeeling(kind, feelingCount, hasPart ? s : 0);
        feelingCount++;
        return feelingCount - 1;
    }

    public int step(int from, int each) {
        if (from < -MOST_VALUE || from > MOST_VALUE || each < 0 || each > 9) {
            return BAD;
        }
        return sense.hasRoom() ? sense.addStep(from, 10 * each) : FULL;
    }

    public int counts(int feeling, int value) {
        End body = feelingAt(feeling);
        if (body == null || value < -MOST_VALUE || value > MOST_VALUE) {
            return VOID;
        }
        return body.measure(value);
    }

    public long best(int quarrel, int feeling, int what) {
        Quarrel told = quarrelAt(quarrel);
        End body = feelingAt(feeling);
        if (told == null || body == null || what < 0 || what > 2 || !things.ready()) {
            return NONE;
        }
        long top = told.bestWorth(things, body, 0);
        if (what == 2) {
            told.judgePicks();
            return 1;
        }
        return worthOf(told, body, top, what);
    }

    public int plan(int quarrel, int node, int v) {
        Quarrel told = quarrelAt(quarrel);
        if (told == null || v < -1 || !told.isWay(node, v < 0 ? 0 : v)) {
            return BAD;
        }
        int was = told.judgedAt(node);
        if (v >= 0) {
            told.setJudged(node, v);
        }
        return was;
    }

    public long judge(int quarrel, int feeling, int what) {
        Quarrel told = quarrelAt(quarrel);
        End body = feelingAt(feeling);
        if (told == null || body == null || !isPart(what) || !things.ready()) {
            return NONE;
        }
        return worthOf(told, body, told.judgedWorth(things, body), what);
    }

    public int shortOf(int quarrel, int feeling) {
        Quarrel told = quarrelAt(quarrel);
        End body = feelingAt(feeling);
        if (told == null || body == null) {
            return BAD;
        }
        return things.ready() ? told.shortChoice(things, body) : BIG;
    }

    public long fork(int quarrel, int node, int way, int what) {
        Quarrel told = quarrelAt(quarrel);
        if (told == null || !told.isWay(node, way) || !isPart(what) || !things.ready()) {
            return NONE;
        }
        told.bestWorth(things, coin, 0);
        return fraction(told.forkTop(things, node, way), 100 * told.massAt(things, node), what);
    }

    public int tell(int quarrel, int i) {
        Quarrel told = quarrelAt(quarrel);
        return told == null || i < -1 ? BAD : told.toldOfPlan(i);
    }

    // ---- asking, edges, doubt

    public long ask(int quarrel, int thing, int what) {
        Quarrel told = quarrelAt(quarrel);
        if (told == null || thing != -1 && !things.isThing(thing) || !isPart(what) || !things.ready()) {
            return NONE;
        }
        long unasked = told.bestWorth(things, coin, 0);
        long asked = thing < 0 ? told.couldHave(things, coin) : told.askedWorth(things, coin, thing, -1);
        return fraction(asked - unasked, 100 * things.whole, what);
    }

    public long together(int quarrel, int thing, int other, int what) {
        Quarrel told = quarrelAt(quarrel);
        if (told == null || !things.isThing(thing) || !things.isThing(other) || thing == other
                || !isPart(what) || !things.ready()) {
            return NONE;
        }
        long both = told.askedWorth(things, coin, thing, other);
        long one = told.askedWorth(things, coin, thing, -1);
        long two = told.askedWorth(things, coin, other, -1);
        long none = told.bestWorth(things, coin, 0);
        return fraction(both - one - two + none, 100 * things.whole, what);
    }

    public int first(int quarrel) {
        Quarrel told = quarrelAt(quarrel);
        if (told == null || things.size == 0) {
            return BAD;
        }
        if (!things.ready()) {
            return BIG;
        }
        int found = 0;
        long greatest = told.askedWorth(things, coin, 0, -1);
        for (int thing = 1; thing < things.size; thing++) {
            long asked = told.askedWorth(things, coin, thing, -1);
            if (asked > greatest) {
                greatest = asked;
                found = thing;
            }
        }
        return found;
    }

    public int edge(int quarrel, int at, int up) {
        Quarrel told = quarrelAt(quarrel);
        if (told == null || at < 0 || !things.hasWeight(at / 100, at / 10 % 10, at % 10) || up < 0 || up > 1) {
            return BAD;
        }
        if (!things.ready()) {
            return BIG;
        }
        return told.firstChoice < 0 ? NOT : edgeOfWeight(told, Things.placeOf(at / 100, at / 10 % 10, at % 10), up);
    }

    public int edgeOf(int quarrel, int node, int way, int up) {
        Quarrel told = quarrelAt(quarrel);
        if (told == null || !told.isMovable(node, way) || up < 0 || up > 1) {
            return BAD;
        }
        if (!things.ready()) {
            return BIG;
        }
        told.bestWorth(things, coin, 0);
        int moves = told.movesToTurn(things, node, way, up, MOST_MOVES);
        return moves == 0 ? NOT : moves;
    }

    public int most(int quarrel) {
        Quarrel told = quarrelAt(quarrel);
        if (told == null) {
            return BAD;
        }
        if (!things.ready()) {
            return BIG;
        }
        told.bestWorth(things, coin, 0);
        int found = NOT;
        int least = MOST_MOVES + 1;
        for (int node = 0; node < told.size; node++) {
            for (int up = 0; up <= 1 && told.kindOf(node) == END; up++) {
                int moves = told.movesToTurn(things, node, -1, up, least - 1);
                if (moves > 0) {
                    least = moves;
                    found = node;
                }
            }
        }
        return found;
    }

    public int doubt(int quarrel, int thing, int ab, int what) {
        Quarrel told = quarrelAt(quarrel);
        if (told == null || !isDoubt(thing, ab) || !isPart(what)) {
            return BAD;
        }
        if (isBigWithin(thing, ab)) {
            return BIG;
        }
        int place = Things.placeOf(thing, 0, 0);
        int was = things.weightAt(place);
        int answer = what == 0 ? timesHeld(told, place, ab) : timesSteady(told, place, ab);
        things.setWeight(place, was);
        return answer;
    }

    public long worst(int quarrel, int thing, int ab, int what) {
        Quarrel told = quarrelAt(quarrel);
        if (told == null || !isDoubt(thing, ab) || !isPart(what) || isBigWithin(thing, ab)) {
            return NONE;
        }
        int place = Things.placeOf(thing, 0, 0);
        int was = things.weightAt(place);
        long answer = leastWorth(told, thing, ab, what);
        things.setWeight(place, was);
        return answer;
    }

    // ---- two sides, offers, hired, days

    public int table(int rows, int columns) {
        if (rows < 1 || rows > 4 || columns < 1 || columns > 4) {
            return BAD;
        }
        sides.layTable(rows, columns);
        return rows * columns;
    }

    public int cell(int cell, int side, int v) {
        if (cell < 0 || !sides.isCell(cell / 10, cell % 10) || side < 0 || side > 1 || v < -99 || v > 99) {
            return VOID;
        }
        return sides.setCell(cell / 10, cell % 10, side, v);
    }

    public int sure(int i) {
        return i < -1 || !sides.hasTable() ? BAD : sides.surePair(i);
    }

    public int lots(int what) {
        if (!isPart(what)) {
            return VOID;
        }
        if (!sides.isDuel()) {
            return STATE;
        }
        long top = sides.duelTop();
        long bottom = sides.duelBottom();
        return (int) (bottom < 0 ? fraction(-top, -bottom, what) : fraction(top, bottom, what));
    }

    public int struck(int what) {
        return !isPart(what) || !sides.hasTable() ? BAD : sides.leftUnstruck(what);
    }

    public int sort(int weight, int win, int cost) {
        if (weight < 1 || weight > 9 || win < 0 || win > 99 || cost < 0 || cost > 99) {
            return BAD;
        }
        return sides.addSort(weight, win, cost);
    }

    public int offer(int sum) {
        return sum < 0 || sum > 99 ? BAD : sides.addOffer(sum);
    }

    public int holds(int d, int what) {
        return d < 0 || d > 99 || what < 0 || what > 2 ? BAD : sides.profiles(d, what);
    }

    public int clear() {
        return sides.forgetSorts();
    }

    public int effort(int cost, int hundredths) {
        return cost < 0 || cost > 99 || hundredths < 0 || hundredths > 100 ? BAD : sides.addEffort(cost, hundredths);
    }

    public int hired(int won, int what) {
        if (won < 0 || won > 999 || what < -1 || what > 3) {
            return BAD;
        }
        if (what == -1) {
            return sides.forgetEfforts();
        }
        if (sides.effortCount < 2) {
            return STATE;
        }
        int s = sides.bestShare(won);
        if (what == 0) {
            return s;
        }
        return what == 1 ? sides.effortFor(won, s) : (int) fraction(sides.leftOver(won, s), 10000, what - 2);
    }

    public int day(int day, int offer, int hundredths, int cost) {
        if (day < 0 || day >= Sides.MOST_DAYS || !Sides.isDay(offer, hundredths, cost)) {
            return BAD;
        }
        sides.setDay(day, offer, hundredths, cost);
        return 1;
    }

    public int days(int shelf, int i, int n) {
        if (!isShelf(shelf) || n < 1 || n > Sides.MOST_DAYS) {
            return BAD;
        }
        if (shelfHolds[shelf] == EMPTY) {
            return 0;
        }
        return shelfHolds[shelf] == SHORTS ? daysFrom(shelf, i, n) : OTHER_KIND;
    }

    public long waits(int dayOf, int court, int what) {
        int many = dayOf % 100;
        if (dayOf < 0 || many < 1 || many > Sides.MOST_DAYS || dayOf / 100 >= many
                || court < -MOST_END || court > MOST_END || !isPart(what)) {
            return NONE;
        }
        return what == 0 ? sides.bar(dayOf / 100, many, court) : sides.worthFrom(dayOf / 100, many, court);
    }

    // ---- runs

    public int run(int quarrel, int seed, int n) {
        Quarrel told = quarrelAt(quarrel);
        if (told == null || n < 1 || n > 200) {
            return VOID;
        }
        told.price();
        int z = seed;
        int sum = 0;
        for (int i = 0; i < n; i++) {
            int state = 0;
            for (int thing = 0; thing < things.size; thing++) {
                z = z * 1103515245 + 12345;
                state |= things.drawn(thing, state, z >>> 8) << 2 * thing;
            }
            sum += told.valueOfPlan(state);
        }
        return sum;
    }

    // ---- acts, shelves

    public int act(int feeling, int act, int x) {
        End body = feelingAt(feeling);
        sense.forgetTrace();
        if (body == null || act < 0 || act > 3) {
            return 0;
        }
        switch (act) {
            case 0:
                return body.pays(x);
            case 1:
                return body.feels(x);
            case 2:
                return body.fears(x);
            default:
                return body.tells(x);
        }
    }

    public int trace(int i) {
        return sense.hasTraced(i) ? sense.traced(i) : BAD;
    }

    public int keep(int shelf, int feeling) {
        if (!isShelf(shelf) || feeling != -1 && feelingAt(feeling) == null) {
            return BAD;
        }
        shelfHolds[shelf] = feeling == -1 ? EMPTY : FIRST_FEELING + feeling;
        shelfSize[shelf] = 0;
        return 1;
    }

    public int row(int shelf, int sort, int n) {
        if (!isShelf(shelf) || sort < 0 || sort >= SORTS_OF_ROWS || n > MOST_ELEMENTS) {
            return BAD;
        }
        if (n < 0) {
            return SIZE_BELOW;
        }
        shelfHolds[shelf] = sort;
        shelfSize[shelf] = n;
        for (int i = 0; i < n; i++) {
            shelfRows[MOST_ELEMENTS * shelf + i] = 0;
        }
        return 1;
    }

    public int put(int shelf, int i, long v) {
        int refusal = refusalOfElement(shelf, i);
        if (refusal != 0) {
            return refusal;
        }
        shelfRows[MOST_ELEMENTS * shelf + i] = lowestBits(shelfHolds[shelf], v);
        return 1;
    }

    public long element(int shelf, int i) {
        return refusalOfElement(shelf, i) != 0 ? NONE : shelfRows[MOST_ELEMENTS * shelf + i];
    }

    public int shift(int shelf, int i, int other, int j, int n) {
        if (!isShelf(shelf) || !isShelf(other)) {
            return BAD;
        }
        if (shelfHolds[shelf] == EMPTY || shelfHolds[other] == EMPTY) {
            return NOTHING_THERE;
        }
        if (shelfHolds[shelf] >= FIRST_FEELING || shelfHolds[shelf] != shelfHolds[other]) {
            return OTHER_KIND;
        }
        if (n < 0 || i < 0 || j < 0 || i > shelfSize[shelf] - n || j > shelfSize[other] - n) {
            return NO_PLACE;
        }
        System.arraycopy(shelfRows, MOST_ELEMENTS * shelf + i, shelfRows, MOST_ELEMENTS * other + j, n);
        return n;
    }

    public int taken(int shelf, int k) {
        if (!isShelf(shelf) || k < 0 || k > 5) {
            return BAD;
        }
        if (shelfHolds[shelf] == EMPTY) {
            return NOTHING_THERE;
        }
        End body = feelingAt(shelfHolds[shelf] - FIRST_FEELING);
        return body == null || !isUnder(body, k) ? OTHER_KIND : body.kind();
    }

    public int count(int what) {
        switch (what) {
            case 0:
                return things.size;
            case 1:
                return quarrelCount;
            case 2:
                return reader.size;
            case 3:
                return feelingCount;
            case 4:
                return changesDone;
            case 5:
                return sense.ran;
            default:
                return BAD;
        }
    }

    // ---- what the calls share

    private Quarrel quarrelAt(int quarrel) {
        return quarrel < 0 || quarrel >= quarrelCount ? null : quarrels[quarrel];
    }

    private End feelingAt(int feeling) {
        return feeling < 0 || feeling >= feelingCount ? null : feelings[feeling];
    }

    private static boolean isPart(int what) {
        return what == 0 || what == 1;
    }

    private static boolean isShelf(int shelf) {
        return shelf >= 0 && shelf < MOST_SHELVES;
    }

    /** The top (what 0) or bottom of a fraction without common factors; the bottom given is above 0. */
    private static long fraction(long top, long bottom, int what) {
        long divisor = commonDivisor(top < 0 ? -top : top, bottom);
        long part = what == 0 ? top : bottom;
        return divisor <= 1 ? part : part / divisor;
    }

    private static long commonDivisor(long one, long other) {
        long a = one;
        long b = other;
        // Euclid's steps on longs are fewer than 100.
        for (int i = 0; i < 200 && b != 0; i++) {
            long left = a % b;
            a = b;
            b = left;
        }
        return a;
    }

    private End newFeeling(int kind, int number, int part) {
        switch (kind) {
            case 1:
                return new Felt(sense, number, part);
            case 2:
                return new Least(sense, number, part);
            case 3:
                return new Regret(sense, number, part);
            case 4:
                return new Part(sense, number, part);
            case 5:
                return new Shy(sense, number, part);
            default:
                return new End(sense, number, part);
        }
    }

    private static boolean isUnder(End body, int kind) {
        switch (kind) {
            case 0:
                return true;
            case 1:
                return body instanceof Felt;
            case 2:
                return body instanceof Least;
            case 3:
                return body instanceof Regret;
            case 4:
                return body instanceof Part;
            default:
                return body instanceof Shy;
        }
    }

    private long worthOf(Quarrel told, End body, long top, int what) {
        if (body.fearsWorst()) {
            return fraction(top, 100, what);
        }
        long missed = body.regrets() ? told.couldHave(things, body) : 0;
        return fraction(top - missed, 100 * things.whole, what);
    }

    /** Places of changes: weights lie below MOST_WEIGHTS, costs and ends of quarrels above. */
    private static int placeOfChange(int quarrel, int node, int way) {
        return MOST_WEIGHTS + (quarrel * MOST_NODES + node) * (MOST_WAYS + 1) + way + 1;
    }

    private void remember(int place, int was, int becomes) {
        if (changesDone >= MOST_CHANGES) {
            System.arraycopy(changes, 3, changes, 0, 3 * MOST_CHANGES - 3);
            changesDone = MOST_CHANGES - 1;
        }
        changes[3 * changesDone] = place;
        changes[3 * changesDone + 1] = was;
        changes[3 * changesDone + 2] = becomes;
        changesDone++;
        changesUndone = 0;
    }

    private void restore(int place, int v) {
        if (place < MOST_WEIGHTS) {
            things.setWeight(place, v);
            return;
        }
        int node = (place - MOST_WEIGHTS) / (MOST_WAYS + 1);
        int way = (place - MOST_WEIGHTS) % (MOST_WAYS + 1) - 1;
        Quarrel told = quarrelAt(node / MOST_NODES);
        if (told != null && told.isMovable(node % MOST_NODES, way)) {
            told.setMovable(node % MOST_NODES, way, v);
        }
    }

    private int edgeOfWeight(Quarrel told, int place, int up) {
        int was = things.weightAt(place);
        told.bestWorth(things, coin, 0);
        int way = told.pickedAt(told.firstChoice);
        int answer = NOT;
        int bound = Math.min(MOST_MOVES, up == 1 ? MOST_WEIGHT - was : was - 1);
        for (int moves = 1; moves <= bound && answer == NOT; moves++) {
            things.setWeight(place, up == 1 ? was + moves : was - moves);
            if (!things.ready()) {
                break;
            }
            told.bestWorth(things, coin, 0);
            if (told.pickedAt(told.firstChoice) != way) {
                answer = moves;
            }
        }
        things.setWeight(place, was);
        return answer;
    }

    private boolean isDoubt(int thing, int ab) {
        return things.isThing(thing) && !things.hangs(thing) && ab > 0
                && ab / 100 >= 1 && ab / 100 <= MOST_WEIGHT && ab / 100 <= ab % 100;
    }

    /** Of a thing that hangs on none the greatest weight has the greatest bottom. */
    private boolean isBigWithin(int thing, int ab) {
        int place = Things.placeOf(thing, 0, 0);
        int was = things.weightAt(place);
        things.setWeight(place, ab % 100);
        boolean big = things.bottomOf() == 0;
        things.setWeight(place, was);
        return big;
    }

    private int timesHeld(Quarrel told, int place, int ab) {
        int times = 0;
        for (int v = ab / 100; v <= ab % 100; v++) {
            things.setWeight(place, v);
            if (things.ready() && told.bestWorth(things, coin, 0) == told.judgedRise(coin)) {
                times++;
            }
        }
        return times;
    }

    private int timesSteady(Quarrel told, int place, int ab) {
        int plans = 0;
        for (int v = ab / 100; v <= ab % 100 && plans < MOST_WEIGHT; v++) {
            things.setWeight(place, v);
            if (things.ready()) {
                told.bestWorth(things, coin, 0);
                told.packPicks(seenPlans, LONGS_OF_PLAN * plans);
                plans += countPlan(plans);
            }
        }
        int found = 0;
        for (int i = 1; i < plans; i++) {
            if (seenTimes[i] > seenTimes[found]) {
                found = i;
            }
        }
        told.judgePacked(seenPlans, LONGS_OF_PLAN * found);
        return seenTimes[found];
    }

    /** Counts the plan that lies behind those seen: 1 if it is a new one, 0 if it was seen. */
    private int countPlan(int plans) {
        for (int i = 0; i < plans; i++) {
            boolean same = true;
            for (int k = 0; k < LONGS_OF_PLAN; k++) {
                same &= seenPlans[LONGS_OF_PLAN * i + k] == seenPlans[LONGS_OF_PLAN * plans + k];
            }
            if (same) {
                seenTimes[i]++;
                return 0;
            }
        }
        seenTimes[plans] = 1;
        return 1;
    }

    private long leastWorth(Quarrel told, int thing, int ab, int what) {
        long top = 0;
        long bottom = 1;
        long sum = 0;
        for (int v = ab / 100; v <= ab % 100; v++) {
            things.setWeight(Things.placeOf(thing, 0, 0), v);
            if (things.ready()) {
                long now = told.judgedWorth(things, coin) / 100;
                long row = things.rowSum(thing, 0);
                // Bottoms differ by this row's sum alone, and whole bottoms would not go into a long.
                if (sum == 0 || now * sum < top * row) {
                    top = now;
                    bottom = things.whole;
                    sum = row;
                }
            }
        }
        return fraction(top, bottom, what);
    }

    private int daysFrom(int shelf, int i, int n) {
        int came = 0;
        int at = i;
        while (came < n && at >= 0 && at <= shelfSize[shelf] - 3) {
            int place = MOST_ELEMENTS * shelf + at;
            int offer = (int) shelfRows[place];
            int hundredths = (int) shelfRows[place + 1];
            int cost = (int) shelfRows[place + 2];
            if (!Sides.isDay(offer, hundredths, cost)) {
                return came;
            }
            sides.setDay(came, offer, hundredths, cost);
            came++;
            at += 3;
        }
        return came;
    }

    private int refusalOfElement(int shelf, int i) {
        if (!isShelf(shelf)) {
            return BAD;
        }
        if (shelfHolds[shelf] == EMPTY) {
            return NOTHING_THERE;
        }
        if (shelfHolds[shelf] >= FIRST_FEELING) {
            return OTHER_KIND;
        }
        return i < 0 || i >= shelfSize[shelf] ? NO_PLACE : 0;
    }

    private static long lowestBits(int sort, long v) {
        switch (sort) {
            case 0:
                return (byte) v;
            case 1:
                return (short) v;
            case 2:
                return (int) v;
            case 3:
                return v;
            default:
                return v != 0 ? 1 : 0;
        }
    }

    /** What all feelings of one object share: the steps by which sums are felt, and the trace of the latest act. */
    private static final class Sense {
        private static final int MOST_STEPS = 6, TRACE_KEPT = 24, EACH_WITHOUT = 100;

        private final int[] starts = new int[MOST_STEPS];
        private final int[] rates = new int[MOST_STEPS];
        private final int[] bodies = new int[TRACE_KEPT];
        private int told = 0;
        private int unlike = 0;
        int ran = 0;

        boolean hasRoom() {
            return told < MOST_STEPS;
        }

        /** Starts are kept in order, each once: of like ones the rate told last stands. */
        int addStep(int start, int rate) {
            int at = 0;
            while (at < unlike && starts[at] < start) {
                at++;
            }
            if (at == unlike || starts[at] != start) {
                for (int k = unlike; k > at; k--) {
                    starts[k] = starts[k - 1];
                    rates[k] = rates[k - 1];
                }
                starts[at] = start;
                unlike++;
            }
            rates[at] = rate;
            told++;
            return told;
        }

        int felt(int v) {
            return v > 0 ? sumOver(1, v) : -sumOver(v + 1, 0);
        }

        /** The sum of what the coins from .. to count. */
        private int sumOver(int from, int to) {
            int sum = 0;
            int start = from;
            int rate = EACH_WITHOUT;
            for (int k = 0; k < unlike && starts[k] <= to; k++) {
                if (starts[k] > start) {
                    sum += (starts[k] - start) * rate;
                    start = starts[k];
                }
                rate = rates[k];
            }
            return sum + (to - start + 1) * rate;
        }

        void forgetTrace() {
            ran = 0;
        }

        void begins(int body) {
            if (ran < TRACE_KEPT) {
                bodies[ran] = body;
            }
            ran++;
        }

        boolean hasTraced(int i) {
            return i >= 0 && i < ran && i < TRACE_KEPT;
        }

        int traced(int i) {
            return bodies[i];
        }
    }

    /** KIND 0, the coin: all feelings come from it. The bodies 1 and 2 of its interfaces stand in it. */
    private static class End {
        final Sense sense;
        final int number;
        final int part;

        End(Sense sense, int number, int part) {
            this.sense = sense;
            this.number = number;
            this.part = part;
        }

        int kind() {
            return 0;
        }

        /** What counts of a value, in hundredths. */
        int measure(int v) {
            return 100 * v;
        }

        boolean fearsWorst() {
            return false;
        }

        boolean regrets() {
            return false;
        }

        int pays(int x) {
            sense.begins(1);
            return x + number;
        }

        int feels(int x) {
            sense.begins(10);
            return pays(x) * 2;
        }

        int fears(int x) {
            sense.begins(11);
            return x ^ number;
        }

        int tells(int x) {
            sense.begins(2);
            return feels(x) - fears(1);
        }
    }

    private static class Felt extends End {
        Felt(Sense sense, int number, int part) {
            super(sense, number, part);
        }

        @Override
        int kind() {
            return 1;
        }

        @Override
        int measure(int v) {
            return sense.felt(v);
        }

        @Override
        int feels(int x) {
            sense.begins(20);
            return super.feels(x) - 1;
        }
    }

    private static final class Least extends End {
        Least(Sense sense, int number, int part) {
            super(sense, number, part);
        }

        @Override
        int kind() {
            return 2;
        }

        @Override
        boolean fearsWorst() {
            return true;
        }

        @Override
        int fears(int x) {
            sense.begins(30);
            return super.fears(x) * 3;
        }
    }

    private static final class Regret extends Felt {
        Regret(Sense sense, int number, int part) {
            super(sense, number, part);
        }

        @Override
        int kind() {
            return 3;
        }

        @Override
        boolean regrets() {
            return true;
        }

        @Override
        int feels(int x) {
            sense.begins(40);
            return super.feels(x) + fears(2);
        }

        @Override
        int tells(int x) {
            sense.begins(41);
            return super.tells(x + 1);
        }
    }

    private static class Part extends End {
        Part(Sense sense, int number, int part) {
            super(sense, number, part);
        }

        @Override
        int kind() {
            return 4;
        }

        @Override
        int measure(int v) {
            return part * v;
        }

        @Override
        int pays(int x) {
            sense.begins(50);
            return super.pays(x) + part;
        }
    }

    private static final class Shy extends Part {
        Shy(Sense sense, int number, int part) {
            super(sense, number, part);
        }

        @Override
        int kind() {
            return 5;
        }

        @Override
        int measure(int v) {
            return v < 0 ? 100 * v : part * v;
        }

        @Override
        int pays(int x) {
            sense.begins(60);
            return -super.pays(x);
        }

        @Override
        int fears(int x) {
            sense.begins(61);
            return super.fears(x) + pays(1);
        }
    }

    /**
     * The things and the numbers of their states. Told ways are a code of two bits a thing: 0 any, else 1 + way;
     * masses has for each code the sum of the numbers of the states that agree with it.
     */
    private static final class Things {
        private static final long MOST_BOTTOM = 1000000000000L;

        int size = 0;
        /** The bottom; 0 where it is too big. It stands once ready() was asked. */
        long whole = 1;
        private boolean fresh = false;
        private final int[] ways = new int[MOST_THINGS];
        private final int[] on = new int[MOST_THINGS];
        private final int[] weights = new int[MOST_WEIGHTS];
        private final long[] shares = new long[3 * MOST_THINGS];
        private final long[] masses = new long[1 << 2 * MOST_THINGS];

        int addThing(int many) {
            if (size >= MOST_THINGS) {
                return FULL;
            }
            ways[size] = many;
            on[size] = -1;
            levelWeights(size);
            size++;
            fresh = false;
            return size - 1;
        }

        boolean isThing(int thing) {
            return thing >= 0 && thing < size;
        }

        int waysOf(int thing) {
            return isThing(thing) ? ways[thing] : 0;
        }

        boolean hangs(int thing) {
            return isThing(thing) && on[thing] >= 0;
        }

        void hangOn(int thing, int other) {
            if (isThing(thing) && isThing(other)) {
                on[thing] = other;
                levelWeights(thing);
                fresh = false;
            }
        }

        private void levelWeights(int thing) {
            for (int place = placeOf(thing, 0, 0); place < placeOf(thing + 1, 0, 0) && place < MOST_WEIGHTS; place++) {
                weights[place] = 1;
            }
        }

        private int rowsOf(int thing) {
            return on[thing] < 0 ? 1 : ways[on[thing]];
        }

        boolean hasWeight(int thing, int row, int way) {
            return isThing(thing) && row >= 0 && row < rowsOf(thing) && way >= 0 && way < ways[thing];
        }

        static int placeOf(int thing, int row, int way) {
            return 9 * thing + 3 * row + way;
        }

        int weightAt(int place) {
            return place < 0 || place >= MOST_WEIGHTS ? 0 : weights[place];
        }

        void setWeight(int place, int v) {
            if (place >= 0 && place < MOST_WEIGHTS && weights[place] != v) {
                weights[place] = v;
                fresh = false;
            }
        }

        int rowSum(int thing, int row) {
            int sum = 0;
            for (int way = 0; way < ways[thing]; way++) {
                sum += weights[placeOf(thing, row, way)];
            }
            return sum;
        }

        private long commonMultiple(int thing) {
            long multiple = 1;
            for (int row = 0; row < rowsOf(thing); row++) {
                long sum = rowSum(thing, row);
                long divisor = commonDivisor(multiple, sum);
                multiple = divisor < 1 ? multiple : multiple / divisor * sum;
            }
            return multiple;
        }

        /** The bottom, or 0 if it is too big. */
        long bottomOf() {
            long product = 1;
            for (int thing = 0; thing < size; thing++) {
                long multiple = commonMultiple(thing);
                if (multiple < 1 || product > MOST_BOTTOM / multiple) {
                    return 0;
                }
                product *= multiple;
            }
            return product;
        }

        /** Brings the masses up to the weights, if need be: false if the bottom is too big. */
        boolean ready() {
            if (!fresh) {
                fresh = true;
                whole = bottomOf();
                if (whole > 0) {
                    weighStates();
                }
            }
            return whole > 0;
        }

        private void weighStates() {
            for (int thing = 0; thing < size; thing++) {
                long multiple = commonMultiple(thing);
                for (int row = 0; row < rowsOf(thing); row++) {
                    int sum = rowSum(thing, row);
                    shares[3 * thing + row] = sum < 1 ? 0 : multiple / sum;
                }
            }
            masses[0] = 1;
            for (int thing = 0; thing < size; thing++) {
                spread(thing);
            }
            for (int thing = 0; thing < size; thing++) {
                addUp(thing);
            }
        }

        /** From the numbers of the states of the things ahead to those with this thing; codes that tell no state: 0. */
        private void spread(int thing) {
            for (int code = 0; code < 1 << 2 * thing; code++) {
                long ahead = masses[code];
                int row = on[thing] < 0 ? 0 : (code >> 2 * on[thing] & 3) - 1;
                for (int way = 0; way < 3; way++) {
                    boolean told = ahead > 0 && row >= 0 && way < ways[thing];
                    masses[code | (way + 1) << 2 * thing] =
                            told ? ahead * weights[placeOf(thing, row, way)] * shares[3 * thing + row] : 0;
                }
                masses[code] = 0;
            }
        }

        /** Codes that tell nothing of this thing become the sums over its ways; lower things are summed by then. */
        private void addUp(int thing) {
            int unit = 1 << 2 * thing;
            for (int from = 0; from < codes(); from += 4 * unit) {
                for (int code = from; code < from + unit; code++) {
                    long sum = 0;
                    for (int way = 1; way <= ways[thing]; way++) {
                        sum += masses[code + way * unit];
                    }
                    masses[code] = sum;
                }
            }
        }

        int codes() {
            return 1 << 2 * size;
        }

        boolean isTold(int code) {
            if (code < 0 || code >= codes()) {
                return false;
            }
            for (int thing = 0; thing < size; thing++) {
                if ((code >> 2 * thing & 3) > ways[thing]) {
                    return false;
                }
            }
            return true;
        }

        boolean isState(int state) {
            if (state < 0 || state >= codes()) {
                return false;
            }
            for (int thing = 0; thing < size; thing++) {
                if ((state >> 2 * thing & 3) >= ways[thing]) {
                    return false;
                }
            }
            return true;
        }

        /** The code that tells a whole state: each way and 1. */
        int codeOf(int state) {
            return state + (codes() - 1) / 3;
        }

        long massOf(int code) {
            return code < 0 || code >= codes() ? 0 : masses[code];
        }

        private static int toldBits(int code) {
            return ((code | code >> 1) & 85) * 3;
        }

        /** The mass of the states that agree with both codes: 0 if they are against one another. */
        long massWith(int one, int other) {
            return ((one ^ other) & toldBits(one) & toldBits(other)) != 0 ? 0 : massOf(one | other);
        }

        /** The way of a thing in a run, by the ways that came ahead of it and a number drawn. */
        int drawn(int thing, int state, int drawn) {
            int row = on[thing] < 0 ? 0 : state >> 2 * on[thing] & 3;
            int sum = rowSum(thing, row);
            int left = sum < 1 ? 0 : drawn % sum;
            for (int way = 0; way < ways[thing] - 1; way++) {
                left -= weights[placeOf(thing, row, way)];
                if (left < 0) {
                    return way;
                }
            }
            return ways[thing] - 1;
        }
    }

    /** The tape, and the reading of it: a graph of nodes as they stand in the text, a capital's node once. */
    private static final class Reader {
        private static final int MOST_BYTES = 200, MOST_CAPITALS = 6, PAST_COUNTING = 1000;

        int size = 0;
        /** The place of the first byte with which no text goes on; -1 while there is none. */
        int fault = -1;
        private int at = 0;
        private int nodes = 0;
        private int toldCount = 0;
        private final byte[] tape = new byte[MOST_BYTES];
        private final int[] told = new int[MOST_CAPITALS];
        private final int[] kinds = new int[MOST_BYTES];
        private final int[] whats = new int[MOST_BYTES];
        private final int[] branches = new int[MOST_BYTES];
        private final int[] below = new int[MOST_WAYS * MOST_BYTES];
        private final int[] costs = new int[MOST_WAYS * MOST_BYTES];
        /** Of each node, written out: the things that turn out in it (bits), how deep its ( go, how many nodes. */
        private final int[] turnedIn = new int[MOST_BYTES];
        private final int[] deep = new int[MOST_BYTES];
        private final int[] sizes = new int[MOST_BYTES];

        boolean hasRoom(int n) {
            return n <= MOST_BYTES - size;
        }

        int take(int n, int v) {
            for (int i = 0; i < n && size < MOST_BYTES; i++) {
                tape[size] = (byte) (v >> 8 * i);
                size++;
            }
            return size;
        }

        void forget() {
            size = 0;
        }

        int sizeOf(int node) {
            return node < 0 || node >= nodes ? 0 : sizes[node];
        }

        /** The last node of the text on the tape; -1 where there is a fault. */
        int readText(Things things) {
            at = 0;
            fault = -1;
            nodes = 0;
            toldCount = 0;
            while (toldCount < MOST_CAPITALS && sign() == 'A' + toldCount) {
                at++;
                pass('=');
                int node = readNode(things, 0, 0);
                pass(';');
                if (fault >= 0) {
                    return -1;
                }
                told[toldCount] = node;
                toldCount++;
            }
            int last = readNode(things, 0, 0);
            if (fault < 0 && at < size) {
                fault = at;
            }
            return fault >= 0 ? -1 : last;
        }

        /** The byte that comes next; -1 behind the last one. */
        private int sign() {
            return at < size ? tape[at] & 255 : -1;
        }

        private boolean isDigit() {
            return sign() >= '0' && sign() <= '9';
        }

        private void fail() {
            if (fault < 0) {
                fault = at;
            }
        }

        private void pass(int wanted) {
            if (fault >= 0) {
                return;
            }
            if (sign() == wanted) {
                at++;
            } else {
                fail();
            }
        }

        /** A ( that would be the 13th one open is a fault. */
        private void passOpening(int open) {
            if (open >= MOST_OPEN) {
                fail();
            }
            pass('(');
        }

        private int newNode(int kind) {
            if (nodes >= MOST_BYTES) {
                fail();
                return -1;
            }
            kinds[nodes] = kind;
            whats[nodes] = 0;
            branches[nodes] = 0;
            turnedIn[nodes] = 0;
            deep[nodes] = 0;
            sizes[nodes] = 1;
            nodes++;
            return nodes - 1;
        }

        /** Reads a node with so many ( open and such things turned out on the way: -1 if there is a fault. */
        private int readNode(Things things, int open, int turned) {
            if (fault >= 0 || open > MOST_OPEN) {
                fail();
                return -1;
            }
            int sign = sign();
            if (sign == '?') {
                return readChoice(things, open, turned);
            }
            if (sign == '!') {
                return readTurns(things, open, turned);
            }
            return sign >= 'A' && sign < 'A' + MOST_CAPITALS ? readCapital(open, turned) : readEnd();
        }

        private int readEnd() {
            boolean below0 = sign() == '-';
            if (below0) {
                at++;
            }
            int v = readNumber(3);
            int node = newNode(END);
            if (fault >= 0 || node < 0) {
                return -1;
            }
            whats[node] = below0 ? -v : v;
            return node;
        }

        private int readNumber(int digits) {
            int v = 0;
            if (!isDigit()) {
                fail();
            }
            for (int i = 0; i < digits && fault < 0 && isDigit(); i++) {
                v = 10 * v + sign() - '0';
                at++;
            }
            return v;
        }

        private int readCapital(int open, int turned) {
            int capital = sign() - 'A';
            if (capital < 0 || capital >= toldCount) {
                fail();
                return -1;
            }
            int node = told[capital];
            if ((turnedIn[node] & turned) != 0 || open + deep[node] > MOST_OPEN) {
                fail();
                return -1;
            }
            at++;
            return node;
        }

        private int readChoice(Things things, int open, int turned) {
            at++;
            passOpening(open);
            int node = newNode(CHOICE);
            for (int way = 0; way < MOST_WAYS && fault < 0; way++) {
                int cost = readNumber(2);
                pass(':');
                lead(node, way, cost, readNode(things, open + 1, turned));
                if (sign() != ',' || way == MOST_WAYS - 1) {
                    break;
                }
                pass(',');
            }
            pass(')');
            return fault >= 0 ? -1 : node;
        }

        private int readTurns(Things things, int open, int turned) {
            at++;
            int thing = sign() - 'a';
            if (!things.isThing(thing) || (turned >> thing & 1) != 0) {
                fail();
                return -1;
            }
            at++;
            passOpening(open);
            int node = newNode(TURNS);
            for (int way = 0; way < things.waysOf(thing) && fault < 0; way++) {
                if (way > 0) {
                    pass(',');
                }
                lead(node, way, 0, readNode(things, open + 1, turned | 1 << thing));
            }
            pass(')');
            if (fault >= 0 || node < 0) {
                return -1;
            }
            whats[node] = thing;
            turnedIn[node] |= 1 << thing;
            return node;
        }

        /** A way of a node leads to one below it: what is written out of the latter counts for the former. */
        private void lead(int node, int way, int cost, int to) {
            if (fault >= 0 || node < 0 || to < 0 || way >= MOST_WAYS) {
                return;
            }
            below[MOST_WAYS * node + way] = to;
            costs[MOST_WAYS * node + way] = cost;
            branches[node] = way + 1;
            turnedIn[node] |= turnedIn[to];
            deep[node] = Math.max(deep[node], 1 + deep[to]);
            // Texts can be written out to billions of nodes: all above the limit are alike.
            sizes[node] = Math.min(PAST_COUNTING, sizes[node] + sizes[to]);
        }

        Quarrel writeText(int last) {
            int many = sizeOf(last);
            Quarrel written = new Quarrel(many < 1 || many > MOST_NODES ? 1 : many);
            writeOut(written, last, -1, 0, 0);
            return written;
        }

        private int writeOut(Quarrel into, int from, int above, int known, int level) {
            int node = into.addNode(kinds[from], whats[from], above, known);
            // Reading refused what lies deeper.
            for (int way = 0; way < branches[from] && level <= MOST_OPEN; way++) {
                int then = kinds[from] == TURNS ? known | (way + 1) << 2 * whats[from] : known;
                int to = writeOut(into, below[MOST_WAYS * from + way], node, then, level + 1);
                into.addWay(node, costs[MOST_WAYS * from + way], to);
            }
            return node;
        }
    }

    /**
     * A quarrel written out. Each node stands ahead of those in it, so that one loop from the last node to the first
     * sees what lies behind a node ahead of the node. Worths are sums of numbers times hundredths that count.
     */
    private static final class Quarrel {
        int size = 0;
        /** The least numbered choice, or -1. */
        int firstChoice = -1;
        private final int[] kinds;
        private final int[] whats;
        private final int[] branches;
        private final int[] behind;
        private final int[] costs;
        private final int[] above;
        private final int[] known;
        private final int[] judged;
        private final int[] picks;
        private final int[] paid;
        private final long[] worths;
        private final boolean[] reached;

        Quarrel(int nodes) {
            int many = Math.max(1, nodes);
            kinds = new int[many];
            whats = new int[many];
            branches = new int[many];
            behind = new int[MOST_WAYS * many];
            costs = new int[MOST_WAYS * many];
            above = new int[many];
            known = new int[many];
            judged = new int[many];
            picks = new int[many];
            paid = new int[many];
            worths = new long[many];
            reached = new boolean[many];
        }

        int addNode(int kind, int what, int from, int code) {
            if (size >= kinds.length) {
                return -1;
            }
            int node = size;
            kinds[node] = kind;
            whats[node] = what;
            above[node] = from;
            known[node] = code;
            if (kind == CHOICE && firstChoice < 0) {
                firstChoice = node;
            }
            size++;
            return node;
        }

        void addWay(int node, int cost, int to) {
            if (isNode(node) && isNode(to) && branches[node] < MOST_WAYS) {
                behind[MOST_WAYS * node + branches[node]] = to;
                costs[MOST_WAYS * node + branches[node]] = cost;
                branches[node]++;
            }
        }

        boolean isNode(int node) {
            return node >= 0 && node < size;
        }

        boolean isBranch(int node, int way) {
            return isNode(node) && way >= 0 && way < branches[node];
        }

        boolean isWay(int node, int way) {
            return isBranch(node, way) && kinds[node] == CHOICE;
        }

        int kindOf(int node) {
            return kinds[node];
        }

        int whatOf(int node) {
            return whats[node];
        }

        int waysOf(int node) {
            return branches[node];
        }

        int nodeBehind(int node, int way) {
            return behind[MOST_WAYS * node + way];
        }

        int costOf(int node, int way) {
            return costs[MOST_WAYS * node + way];
        }

        /** Whether there is a cost (way 0 ..) or an end (way -1) there. */
        boolean isMovable(int node, int way) {
            return way == -1 ? isNode(node) && kinds[node] == END : isWay(node, way);
        }

        boolean isWithin(int way, int v) {
            return way == -1 ? v >= -MOST_END && v <= MOST_END : v >= 0 && v <= MOST_COST;
        }

        int movable(int node, int way) {
            return way == -1 ? whats[node] : costOf(node, way);
        }

        void setMovable(int node, int way, int v) {
            if (way == -1) {
                whats[node] = v;
            } else {
                costs[MOST_WAYS * node + way] = v;
            }
        }

        int judgedAt(int node) {
            return judged[node];
        }

        void setJudged(int node, int way) {
            judged[node] = way;
        }

        int pickedAt(int node) {
            return isNode(node) ? picks[node] : -1;
        }

        /** The best plan found last becomes the judged one. */
        void judgePicks() {
            System.arraycopy(picks, 0, judged, 0, size);
        }

        void packPicks(long[] into, int at) {
            for (int k = 0; k < LONGS_OF_PLAN; k++) {
                into[at + k] = 0;
            }
            for (int node = 0; node < size; node++) {
                into[at + node / 32] |= (long) picks[node] << 2 * (node % 32);
            }
        }

        void judgePacked(long[] from, int at) {
            for (int node = 0; node < size; node++) {
                judged[node] = (int) (from[at + node / 32] >>> 2 * (node % 32) & 3);
            }
        }

        /** Sums up what is paid on the way to each node. */
        void price() {
            paid[0] = 0;
            for (int node = 0; node < size; node++) {
                for (int way = 0; way < branches[node]; way++) {
                    paid[nodeBehind(node, way)] = paid[node] + costOf(node, way);
                }
            }
        }

        private void weighEnds(Things things, End feeling, int told) {
            price();
            boolean least = feeling.fearsWorst();
            for (int node = 0; node < size; node++) {
                if (kinds[node] == END) {
                    long mass = least ? 1 : things.massWith(known[node], told);
                    worths[node] = mass * feeling.measure(whats[node] - paid[node]);
                }
            }
        }

        /** Brings worths from the ends up to the first node, by the best plan or the judged one. */
        private long rise(boolean least, boolean best) {
            for (int node = size - 1; node >= 0; node--) {
                if (kinds[node] == CHOICE) {
                    picks[node] = best ? bestWay(node, -1, 0) : judged[node];
                    worths[node] = worths[nodeBehind(node, picks[node])];
                } else if (kinds[node] == TURNS) {
                    worths[node] = turnedWorth(node, least);
                }
            }
            return worths[0];
        }

        /** The first way of the greatest worth, if the node "other" behind it were worth so much. */
        private int bestWay(int node, int other, long worth) {
            int found = 0;
            long greatest = 0;
            for (int way = 0; way < branches[node]; way++) {
                int to = nodeBehind(node, way);
                long now = to == other ? worth : worths[to];
                if (way == 0 || now > greatest) {
                    greatest = now;
                    found = way;
                }
            }
            return found;
        }

        private long turnedWorth(int node, boolean least) {
            long sum = worths[nodeBehind(node, 0)];
            for (int way = 1; way < branches[node]; way++) {
                long now = worths[nodeBehind(node, way)];
                sum = least ? Math.min(sum, now) : sum + now;
            }
            return sum;
        }

        /** The worth of the best plan over the states that agree with what is told; picks are its ways. */
        long bestWorth(Things things, End feeling, int told) {
            weighEnds(things, feeling, told);
            return rise(feeling.fearsWorst(), true);
        }

        long judgedWorth(Things things, End feeling) {
            weighEnds(things, feeling, 0);
            return judgedRise(feeling);
        }

        /** The worth of the judged plan, where the ends have been weighed. */
        long judgedRise(End feeling) {
            return rise(feeling.fearsWorst(), false);
        }

        /** The sum of the best plans' worths for each way of a thing, or of two things (other -1: of one). */
        long askedWorth(Things things, End feeling, int thing, int other) {
            long sum = 0;
            for (int way = 1; way <= things.waysOf(thing); way++) {
                if (other < 0) {
                    sum += bestWorth(things, feeling, way << 2 * thing);
                }
                for (int second = 1; second <= things.waysOf(other); second++) {
                    sum += bestWorth(things, feeling, way << 2 * thing | second << 2 * other);
                }
            }
            return sum;
        }

        /** The sum over states of what counts of the greatest value in each; worths are used up for it. */
        long couldHave(Things things, End feeling) {
            long sum = 0;
            int whole = (things.codes() - 1) / 3;
            for (int state = 0; state < things.codes(); state++) {
                if (things.isState(state)) {
                    sum += things.massOf(state + whole) * feeling.measure(greatestValue(state));
                }
            }
            return sum;
        }

        private int greatestValue(int state) {
            for (int node = size - 1; node >= 0; node--) {
                if (kinds[node] == END) {
                    worths[node] = whats[node] - paid[node];
                } else if (kinds[node] == CHOICE) {
                    worths[node] = worths[nodeBehind(node, bestWay(node, -1, 0))];
                } else {
                    worths[node] = worths[nodeBehind(node, state >> 2 * whats[node] & 3)];
                }
            }
            return (int) worths[0];
        }

        /** The value that the judged plan comes to in a state; price() has been asked. */
        int valueOfPlan(int state) {
            int node = 0;
            for (int i = 0; i < size && kinds[node] != END; i++) {
                node = nodeBehind(node, kinds[node] == CHOICE ? judged[node] : state >> 2 * whats[node] & 3);
            }
            return whats[node] - paid[node];
        }

        private void reachByPlan() {
            reached[0] = true;
            for (int node = 0; node < size; node++) {
                for (int way = 0; way < branches[node]; way++) {
                    boolean leads = kinds[node] == TURNS || judged[node] == way;
                    reached[nodeBehind(node, way)] = reached[node] && leads;
                }
            }
        }

        /** How many choices the judged plan can come to (i -1), or 10 times the i-th one and its way. */
        int toldOfPlan(int i) {
            reachByPlan();
            int many = 0;
            for (int node = 0; node < size; node++) {
                if (reached[node] && kinds[node] == CHOICE) {
                    if (many == i) {
                        return 10 * node + judged[node];
                    }
                    many++;
                }
            }
            return i == -1 ? many : BAD;
        }

        /** The first choice at which another way alone betters the judged plan, or NOT. */
        int shortChoice(Things things, End feeling) {
            long worth = judgedWorth(things, feeling);
            reachByPlan();
            for (int node = 0; node < size; node++) {
                if (reached[node] && kinds[node] == CHOICE && isBettered(node, feeling, worth)) {
                    return node;
                }
            }
            return NOT;
        }

        private boolean isBettered(int node, End feeling, long worth) {
            int was = judged[node];
            boolean bettered = false;
            for (int way = 0; way < branches[node] && !bettered; way++) {
                judged[node] = way;
                bettered = judgedRise(feeling) > worth;
            }
            judged[node] = was;
            return bettered;
        }

        long massAt(Things things, int node) {
            return things.massOf(known[node]);
        }

        /** What a way at a choice is worth, behind the choice: what was paid ahead of it is given back. */
        long forkTop(Things things, int node, int way) {
            return worths[nodeBehind(node, way)] + 100 * paid[node] * massAt(things, node);
        }

        /**
         * The least move of a cost or an end, up to a limit, by which the best plan, found last, has another way at
         * the first choice; 0 if there is none.
         */
        int movesToTurn(Things things, int node, int way, int up, int limit) {
            int start = way == -1 ? node : nodeBehind(node, way);
            int v = movable(node, way);
            int greatest = way == -1 ? MOST_END : MOST_COST;
            int bound = Math.min(limit, up == 1 ? greatest - v : way == -1 ? v + MOST_END : v);
            // A cost is paid in all states in which it is come to, so that it moves what lies behind as an end does.
            long each = (way == -1) == (up == 1) ? 100 * massAt(things, start) : -100 * massAt(things, start);
            // A greater move never turns the first choice back.
            if (bound < 1 || !turnsFirst(start, bound * each)) {
                return 0;
            }
            for (int moves = 1; moves < bound; moves++) {
                if (turnsFirst(start, moves * each)) {
                    return moves;
                }
            }
            return bound;
        }

        /** Whether the first choice has another best way, if a node behind it is worth so much more. */
        private boolean turnsFirst(int start, long more) {
            int node = start;
            long now = worths[start] + more;
            for (int i = 0; i < size && firstChoice >= 0 && node > firstChoice; i++) {
                int from = above[node];
                if (from < 0) {
                    return false;
                }
                if (from == firstChoice) {
                    return bestWay(from, node, now) != picks[from];
                }
                if (kinds[from] == CHOICE) {
                    int to = nodeBehind(from, bestWay(from, node, now));
                    now = to == node ? now : worths[to];
                } else {
                    now += worths[from] - worths[node];
                }
                node = from;
            }
            return false;
        }
    }

    /** Two sides at a table, offers that tell, one who is hired, and days on which to settle. */
    private static final class Sides {
        static final int MOST_DAYS = 20;
        private static final int MOST_SORTS = 3, MOST_OFFERS = 4, MOST_EFFORTS = 4;
        private static final long MILLION = 1000000;

        private int rows = 0;
        private int columns = 0;
        private final int[] cells = new int[32];
        private int sortCount = 0;
        private final int[] weights = new int[MOST_SORTS];
        private final int[] wins = new int[MOST_SORTS];
        private final int[] courtCosts = new int[MOST_SORTS];
        private int offerCount = 0;
        private final int[] offers = new int[MOST_OFFERS];
        int effortCount = 0;
        private final int[] effortCosts = new int[MOST_EFFORTS];
        private final int[] effortChances = new int[MOST_EFFORTS];
        private final int[] dayOffers = new int[MOST_DAYS];
        private final int[] dayChances = new int[MOST_DAYS];
        private final int[] dayCosts = new int[MOST_DAYS];

        // -- the table

        void layTable(int many, int across) {
            rows = many;
            columns = across;
            Arrays.fill(cells, 0);
        }

        boolean hasTable() {
            return rows > 0;
        }

        boolean isCell(int row, int column) {
            return row >= 0 && row < rows && column >= 0 && column < columns;
        }

        private int gets(int row, int column, int side) {
            return cells[8 * row + 2 * column + side];
        }

        int setCell(int row, int column, int side, int v) {
            int was = gets(row, column, side);
            cells[8 * row + 2 * column + side] = v;
            return was;
        }

        private boolean isSure(int row, int column) {
            boolean sure = true;
            for (int other = 0; other < rows; other++) {
                sure &= gets(other, column, 0) <= gets(row, column, 0);
            }
            for (int other = 0; other < columns; other++) {
                sure &= gets(row, other, 1) <= gets(row, column, 1);
            }
            return sure;
        }

        int surePair(int i) {
            int many = 0;
            for (int row = 0; row < rows; row++) {
                for (int column = 0; column < columns; column++) {
                    if (isSure(row, column)) {
                        if (many == i) {
                            return 10 * row + column;
                        }
                        many++;
                    }
                }
            }
            return i == -1 ? many : BAD;
        }

        /** Whether it is a table of 2 by 2 in which the one gets what the other loses. */
        boolean isDuel() {
            boolean duel = rows == 2 && columns == 2;
            for (int cell = 0; cell < 4 && duel; cell++) {
                duel = gets(cell / 2, cell % 2, 0) == -gets(cell / 2, cell % 2, 1);
            }
            return duel;
        }

        private int sureOfOne() {
            return Math.max(Math.min(gets(0, 0, 0), gets(0, 1, 0)), Math.min(gets(1, 0, 0), gets(1, 1, 0)));
        }

        private int duelMix() {
            return gets(0, 0, 0) + gets(1, 1, 0) - gets(0, 1, 0) - gets(1, 0, 0);
        }

        /** Whether one way each is best, without lots. */
        private boolean isSettled() {
            int yielded = Math.min(Math.max(gets(0, 0, 0), gets(1, 0, 0)), Math.max(gets(0, 1, 0), gets(1, 1, 0)));
            return sureOfOne() == yielded || duelMix() == 0;
        }

        long duelTop() {
            return isSettled() ? sureOfOne() : gets(0, 0, 0) * gets(1, 1, 0) - gets(0, 1, 0) * gets(1, 0, 0);
        }

        long duelBottom() {
            return isSettled() ? 1 : duelMix();
        }

        /** The rows (what 0) or columns (1) that are left, as bits. */
        int leftUnstruck(int what) {
            int leftRows = (1 << rows) - 1;
            int leftColumns = (1 << columns) - 1;
            for (int i = 0; i < 8; i++) {
                int row = lineToStrike(leftRows, leftColumns, 0);
                if (row >= 0) {
                    leftRows &= ~(1 << row);
                } else {
                    int column = lineToStrike(leftColumns, leftRows, 1);
                    leftColumns &= column < 0 ? -1 : ~(1 << column);
                }
            }
            return what == 0 ? leftRows : leftColumns;
        }

        /** The least line (a row for side 0, a column for side 1) that another one beats; -1: none. */
        private int lineToStrike(int lines, int across, int side) {
            for (int line = 0; line < 4; line++) {
                for (int other = 0; other < 4 && (lines >> line & 1) == 1; other++) {
                    if (other != line && (lines >> other & 1) == 1 && beats(other, line, across, side)) {
                        return line;
                    }
                }
            }
            return -1;
        }

        private boolean beats(int line, int other, int across, int side) {
            for (int k = 0; k < 4; k++) {
                if ((across >> k & 1) == 1) {
                    int one = side == 0 ? gets(line, k, 0) : gets(k, line, 1);
                    int two = side == 0 ? gets(other, k, 0) : gets(k, other, 1);
                    if (one <= two) {
                        return false;
                    }
                }
            }
            return true;
        }

        // -- offers

        int addSort(int weight, int win, int cost) {
            if (sortCount >= MOST_SORTS) {
                return FULL;
            }
            weights[sortCount] = weight;
            wins[sortCount] = win;
            courtCosts[sortCount] = cost;
            sortCount++;
            return sortCount;
        }

        int addOffer(int sum) {
            for (int i = 0; i < offerCount; i++) {
                if (offers[i] == sum) {
                    return BAD;
                }
            }
            if (offerCount >= MOST_OFFERS) {
                return FULL;
            }
            offers[offerCount] = sum;
            offerCount++;
            return offerCount;
        }

        int forgetSorts() {
            int many = sortCount;
            sortCount = 0;
            offerCount = 0;
            return many;
        }

        /** Profiles that hold: how many (what 0), the first one's offers (1), its bits (2). */
        int profiles(int d, int what) {
            if (sortCount == 0 || offerCount == 0) {
                return STATE;
            }
            int many = 0;
            for (int made = 0; made < 1 << 2 * sortCount; made++) {
                if (isMade(made)) {
                    // What sorts make decides what the other one takes.
                    int taking = takenOf(made, d);
                    if (doAllKeepTo(made, taking)) {
                        if (what > 0) {
                            return what == 1 ? made : taking;
                        }
                        many++;
                    }
                }
            }
            return what == 0 ? many : NOT;
        }

        private int madeBy(int made, int sort) {
            return made >> 2 * (sortCount - 1 - sort) & 3;
        }

        private boolean isMade(int made) {
            for (int sort = 0; sort < sortCount; sort++) {
                if (madeBy(made, sort) >= offerCount) {
                    return false;
                }
            }
            return true;
        }

        private int takenOf(int made, int d) {
            int bits = 0;
            for (int offer = 0; offer < offerCount; offer++) {
                int weight = 0;
                int won = 0;
                for (int sort = 0; sort < sortCount; sort++) {
                    if (madeBy(made, sort) == offer) {
                        weight += weights[sort];
                        won += weights[sort] * wins[sort];
                    }
                }
                boolean takes = weight == 0 ? offers[offer] <= leastWin() + d : (offers[offer] - d) * weight <= won;
                bits |= takes ? 1 << offer : 0;
            }
            return bits;
        }

        private int leastWin() {
            int least = wins[0];
            for (int sort = 1; sort < sortCount; sort++) {
                least = Math.min(least, wins[sort]);
            }
            return least;
        }

        private int gained(int sort, int offer, int taking) {
            return (taking >> offer & 1) == 1 ? offers[offer] : wins[sort] - courtCosts[sort];
        }

        private boolean doAllKeepTo(int made, int taking) {
            for (int sort = 0; sort < sortCount; sort++) {
                int now = gained(sort, madeBy(made, sort), taking);
                for (int offer = 0; offer < offerCount; offer++) {
                    if (gained(sort, offer, taking) > now) {
                        return false;
                    }
                }
            }
            return true;
        }

        // -- hired

        int addEffort(int cost, int hundredths) {
            if (effortCount >= MOST_EFFORTS) {
                return FULL;
            }
            effortCosts[effortCount] = cost;
            effortChances[effortCount] = hundredths;
            effortCount++;
            return effortCount;
        }

        int forgetEfforts() {
            int many = effortCount;
            effortCount = 0;
            return many;
        }

        /** The effort that is best for one who gets s of 100 of what is won. */
        int effortFor(int won, int s) {
            int found = 0;
            int greatest = 0;
            for (int i = 0; i < effortCount; i++) {
                int gain = s * won * effortChances[i] - 10000 * effortCosts[i];
                if (i == 0 || gain > greatest) {
                    greatest = gain;
                    found = i;
                }
            }
            return found;
        }

        /** What is left for the client, in parts of 10000. */
        int leftOver(int won, int s) {
            return (100 - s) * won * effortChances[effortFor(won, s)];
        }

        int bestShare(int won) {
            int found = 0;
            for (int s = 1; s <= 100; s++) {
                if (leftOver(won, s) > leftOver(won, found)) {
                    found = s;
                }
            }
            return found;
        }

        // -- days

        static boolean isDay(int offer, int hundredths, int cost) {
            return offer >= 0 && offer <= 999 && hundredths >= 0 && hundredths <= 100 && cost >= 0 && cost <= 99;
        }

        void setDay(int day, int offer, int hundredths, int cost) {
            if (day >= 0 && day < MOST_DAYS) {
                dayOffers[day] = offer;
                dayChances[day] = hundredths;
                dayCosts[day] = cost;
            }
        }

        /** What all from a day on is worth, ahead of its offer, in millionths. */
        long worthFrom(int day, int many, int court) {
            long worth = MILLION * court;
            for (int k = Math.min(many, MOST_DAYS) - 1; k >= 0 && k >= day; k--) {
                long waiting = worth - MILLION * dayCosts[k];
                long offered = Math.max(MILLION * dayOffers[k], waiting);
                worth = Math.floorDiv(dayChances[k] * offered + (100 - dayChances[k]) * waiting, 100L);
            }
            return worth;
        }

        long bar(int day, int many, int court) {
            if (day < 0 || day >= MOST_DAYS) {
                return NONE;
            }
            long waiting = worthFrom(day + 1, many, court) - MILLION * dayCosts[day];
            return Math.max(0, Math.min(1000, -Math.floorDiv(-waiting, MILLION)));
        }
    }
}
