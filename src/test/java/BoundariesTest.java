import java.util.ArrayList;
import java.util.List;

/**
 * One test for each sentence of the document that names a boundary: too small, too large, empty, full,
 * a wrap-around, a refused call. The sentence under test is told with each answer that is not as due.
 *
 * <p>A refused call is made on a WITNESS, an object with something in every kind of state, of which all that
 * can be seen is compared with that of a witness without the call. No object is used for more than 512 calls,
 * but for the one of thingsFull().
 */
public final class BoundariesTest {
    private static final int NONE = -1, OUTSIDE = -2, FULL = -3;
    private static final int NULL = 1, CAST = 2, INDEX = 3, SIZE = 4, STORE = 5, OWN = 6;
    private static final int LEAST = Integer.MIN_VALUE, MOST = Integer.MAX_VALUE;
    private static final int[] NO_COLUMNS = {-1, 16, LEAST, MOST};
    private static final int[] ROW_KINDS = {4, 7, 8, 10};

    /** The columns of a witness that are no table of their own kind. */
    private static final int SHARED = 14, EMPTY = 15;
    /** Where a snapshot has what a call with a fault may change. */
    private static final int FAULT_AT = 0, THINGS_AT = 1;

    private static int wrong = 0;
    private static String sentence = "";

    private interface Call {
        long on(PlanCopies x);
    }

    private interface NumberCall {
        long on(PlanCopies x, int number);
    }

    public static void main(String[] args) {
        terms();
        newObject();
        makingTables();
        holdingTables();
        singleItems();
        rowsOfTables();
        movingItems();
        countingAndComparing();
        troubles();
        wholeObject();
        System.out.println(wrong == 0 ? "all boundaries are kept" : wrong + " answers are not as due");
        if (wrong != 0) {
            System.exit(1);
        }
    }

    private static void terms() {
        bitsOfItems();
        takenForKinds();
        severalFaults();
        callsOfOneObject();
    }

    private static void makingTables() {
        makeSizes();
        makeRefused();
        makeFull();
        deepSizes();
        deepOutside();
        deepSizeFault();
        deepFull();
    }

    private static void holdingTables() {
        share();
        asideOfNothingAndEmpty();
        asideRows();
        asideFull();
        drop();
        kind();
        length();
    }

    private static void singleItems() {
        read();
        write();
        thing();
        thingFaults();
        thingsFull();
        marked();
    }

    private static void rowsOfTables() {
        cell();
        set();
        deepest();
        row();
        take();
    }

    private static void movingItems() {
        grow();
        growRefused();
        copyEdges();
        copyRefused();
        copyWithinOne();
        copyBetweenKinds();
        copyUpToStore();
        fill();
    }

    private static void countingAndComparing() {
        size();
        alikePlain();
        alikeItems();
    }

    private static void troubles() {
        trouble();
        raise();
        passed();
        number();
    }

    private static void wholeObject() {
        fault();
        clear();
        told();
    }

    // ---- what the tests share

    private static void says(String words) {
        sentence = words;
    }

    private static void due(String what, long got, long want) {
        if (got != want) {
            wrong++;
            System.out.println(sentence + ": " + what + " answered " + got + ", due is " + want);
        }
    }

    private static void dueBits(String what, PlanCopies x, long got, long want) {
        due(what, got, want);
        due(what + ", fault()", x.fault(), 0);
    }

    private static void dueFault(String what, PlanCopies x, long got, int fault) {
        due(what, got, 0);
        due(what + ", fault()", x.fault(), fault);
    }

    private static int against(int fault) {
        return -10 - fault;
    }

    /**
     * Columns 0 to 13 hold tables of these kinds, with rows that are shared and rows that are nothing; 14 holds
     * the table of 4, 15 holds nothing; two troubles are there, one was raised, and the latest read() had INDEX.
     */
    private static PlanCopies witness() {
        PlanCopies x = new PlanCopies();
        for (int kind = 0; kind <= 7; kind++) {
            x.make(kind, kind, 2);
            x.write(kind, kind, 0, 1);
        }
        x.make(8, 8, 3);
        x.thing(8, 0, 0, 80);
        x.thing(8, 1, 1, 81);
        x.make(9, 9, 2);
        x.thing(9, 0, 1, 90);
        x.deep(10, 10, 3, 2, 0);
        x.row(10, 10, 0, 4);
        x.set(10, 10, 1, 1, 101);
        x.row(10, 10, 2, EMPTY);
        x.deep(11, 11, 2, 2, 0);
        x.set(11, 11, 0, 1, 111);
        x.row(11, 11, 1, EMPTY);
        x.make(12, 12, 3);
        x.row(12, 12, 0, 8);
        x.row(12, 12, 1, 9);
        x.deep(13, 13, 3, 2, 1);
        x.row(13, 13, 0, 10);
        x.row(13, 13, 2, EMPTY);
        x.share(SHARED, 4);
        x.trouble(2, 22);
        x.trouble(7, 0);
        x.raise(2, 3);
        x.read(4, 4, 9);
        return x;
    }

    /** A witness whose 6000 items are made, and more. */
    private static PlanCopies fullWitness() {
        PlanCopies x = witness();
        for (int call = 0; call < 15; call++) {
            x.deep(EMPTY, 10, 13, 30, 0);
        }
        x.drop(EMPTY);
        return x;
    }

    /** An object with so many items made ever (a multiple of 30 and what is left), all columns holding nothing. */
    private static PlanCopies madeEver(int items) {
        PlanCopies x = new PlanCopies();
        for (int left = items; left > 0; left -= 30) {
            x.make(0, 4, Math.min(left, 30));
        }
        x.drop(0);
        due("items made ever", x.told(1), items);
        return x;
    }

    /** All that can be seen of a witness; it is used up by that. */
    private static List<Long> snapshot(PlanCopies x) {
        List<Long> seen = new ArrayList<>();
        seen.add((long) x.fault());
        seen.add((long) x.told(2));
        seen.add((long) x.told(1));
        seen.add((long) x.told(0));
        seen.add((long) x.passed());
        seen.add((long) x.number());
        for (int column = 0; column < 16; column++) {
            seen.add((long) x.kind(column));
            seen.add((long) x.size(column));
            for (int other = 0; other < column; other++) {
                seen.add((long) x.alike(other, column));
            }
        }
        addItems(seen, x);
        addRows(seen, x);
        for (int t = 0; t < 8; t++) {
            seen.add((long) x.trouble(t, NONE));
        }
        return seen;
    }

    private static void addRead(List<Long> seen, PlanCopies x, long bits) {
        seen.add(bits);
        seen.add((long) x.fault());
    }

    private static void addItems(List<Long> seen, PlanCopies x) {
        for (int kind = 0; kind <= 13; kind++) {
            seen.add((long) x.length(kind, kind));
        }
        for (int kind = 0; kind <= 9; kind++) {
            addRead(seen, x, x.read(kind, kind, 0));
            addRead(seen, x, x.read(kind, kind, 1));
        }
        addRead(seen, x, x.read(8, 8, 2));
        for (int i = 0; i < 3; i++) {
            seen.add((long) x.marked(8, i));
            seen.add((long) x.marked(9, i));
        }
    }

    private static void addRows(List<Long> seen, PlanCopies x) {
        for (int kind = 10; kind <= 12; kind++) {
            for (int place = 0; place < 6; place++) {
                addRead(seen, x, x.cell(kind, kind, place / 2, place % 2));
            }
        }
        for (int place = 0; place < 6; place++) {
            addRead(seen, x, x.deepest(13, place / 2, place % 2, 0));
        }
        int[][] stands = {{4, 10, 0}, {8, 12, 0}, {9, 12, 1}, {10, 13, 0}};
        for (int[] at : stands) {
            x.take(EMPTY, at[1], at[1], at[2]);
            seen.add((long) x.alike(EMPTY, at[0]));
        }
    }

    private static void dueSame(String what, PlanCopies x, PlanCopies untouched, int from) {
        List<Long> got = snapshot(x);
        List<Long> want = snapshot(untouched);
        if (!got.subList(from, got.size()).equals(want.subList(from, want.size()))) {
            wrong++;
            System.out.println(sentence + ": " + what + " changed something");
        }
    }

    private static void refused(String what, int answer, Call call) {
        PlanCopies x = witness();
        due(what, call.on(x), answer);
        dueSame(what, x, witness(), FAULT_AT);
    }

    private static void refusedWhenFull(String what, int answer, Call call) {
        PlanCopies x = fullWitness();
        due(what + " when full", call.on(x), answer);
        dueSame(what + " when full", x, fullWitness(), FAULT_AT);
    }

    private static void unread(String what, int fault, Call call) {
        PlanCopies x = witness();
        dueFault(what, x, call.on(x), fault);
        dueSame(what, x, witness(), FAULT_AT + 1);
    }

    /** The columns 0 and 15 are there, and none beside them. */
    private static void columnEdges(String what, NumberCall call) {
        for (int column : NO_COLUMNS) {
            refused(what + " of column " + column, OUTSIDE, x -> call.on(x, column));
        }
        for (int column = 0; column < 16; column += 15) {
            due(what + " of column " + column + " is outside", call.on(witness(), column) == OUTSIDE ? 1 : 0, 0);
        }
    }

    private static void columnEdgesRead(String what, NumberCall call) {
        for (int column : NO_COLUMNS) {
            unread(what + " of column " + column, OUTSIDE, x -> call.on(x, column));
        }
        for (int column = 0; column < 16; column += 15) {
            PlanCopies x = witness();
            call.on(x, column);
            due(what + " of column " + column + " is outside", x.fault() == OUTSIDE ? 1 : 0, 0);
        }
    }

    /** The kinds from first to last are there, and none beside them. */
    private static void kindEdges(String what, int first, int last, NumberCall call) {
        int[] none = {first - 1, last + 1, -1, 14, LEAST, MOST};
        for (int kind : none) {
            refused(what + " of kind " + kind, OUTSIDE, x -> call.on(x, kind));
        }
        for (int kind = first; kind <= last; kind++) {
            due(what + " of kind " + kind + " is outside", call.on(witness(), kind) == OUTSIDE ? 1 : 0, 0);
        }
    }

    private static void kindEdgesRead(String what, int first, int last, NumberCall call) {
        int[] none = {first - 1, last + 1, -1, 14, LEAST, MOST};
        for (int kind : none) {
            unread(what + " of kind " + kind, OUTSIDE, x -> call.on(x, kind));
        }
        for (int kind = first; kind <= last; kind++) {
            PlanCopies x = witness();
            call.on(x, kind);
            due(what + " of kind " + kind + " is outside", x.fault() == OUTSIDE ? 1 : 0, 0);
        }
    }

    /** There is no item below 0, nor at length or above. */
    private static void indexEdges(String what, int length, NumberCall call) {
        int[] none = {-1, length, LEAST, MOST};
        for (int i : none) {
            refused(what + " at " + i, against(INDEX), x -> call.on(x, i));
        }
        due(what + " at 0", call.on(witness(), 0) >= 0 ? 1 : 0, 1);
        due(what + " at the last", call.on(witness(), length - 1) >= 0 ? 1 : 0, 1);
    }

    private static void indexEdgesRead(String what, int length, NumberCall call) {
        int[] none = {-1, length, LEAST, MOST};
        for (int i : none) {
            unread(what + " at " + i, INDEX, x -> call.on(x, i));
        }
        for (int i = 0; i < length; i += Math.max(length - 1, 1)) {
            PlanCopies x = witness();
            call.on(x, i);
            due(what + " at " + i + " has INDEX", x.fault() == INDEX ? 1 : 0, 0);
        }
    }

    // ---- the terms

    private static void wraps(int kind, long[][] bitsAndWant) {
        for (long[] pair : bitsAndWant) {
            String what = "kind " + kind + " of " + pair[0];
            PlanCopies x = new PlanCopies();
            x.make(0, kind, 3);
            due("write, " + what, x.write(0, kind, 1, pair[0]), 1);
            dueBits("write, " + what, x, x.read(0, kind, 1), pair[1]);
            dueBits("ahead of it, " + what, x, x.read(0, kind, 0), 0);
            dueBits("behind it, " + what, x, x.read(0, kind, 2), 0);
            due("fill, " + what, x.fill(0, kind, pair[0]), 3);
            dueBits("fill, " + what, x, x.read(0, kind, 2), pair[1]);
            if (kind == 4 || kind == 7) {
                int rows = kind == 4 ? 10 : 11;
                x.deep(1, rows, 1, 1, 0);
                due("set, " + what, x.set(1, rows, 0, 0, pair[0]), 1);
                dueBits("set, " + what, x, x.cell(1, rows, 0, 0), pair[1]);
            }
        }
    }

    private static void bitsOfItems() {
        says("a mark by the lowest bit; of a mark 1, 0");
        wraps(0, new long[][] {{0, 0}, {1, 1}, {2, 0}, {3, 1}, {-1, 1}, {-2, 0}, {256, 0}, {1L << 32, 0},
                {Long.MIN_VALUE, 0}, {Long.MAX_VALUE, 1}});
        says("whole ones by the lowest bits: bytes");
        wraps(1, new long[][] {{127, 127}, {128, -128}, {255, -1}, {256, 0}, {-128, -128}, {-129, 127},
                {Long.MIN_VALUE, 0}, {Long.MAX_VALUE, -1}});
        says("whole ones by the lowest bits: shorts");
        wraps(2, new long[][] {{32767, 32767}, {32768, -32768}, {65535, -1}, {65536, 0}, {-32768, -32768},
                {-32769, 32767}, {Long.MIN_VALUE, 0}, {Long.MAX_VALUE, -1}});
        says("codes 0 to 65535");
        wraps(3, new long[][] {{32768, 32768}, {65535, 65535}, {65536, 0}, {-1, 65535}, {-65536, 0},
                {Long.MIN_VALUE, 0}, {Long.MAX_VALUE, 65535}});
        says("whole ones by the lowest bits: ints");
        wraps(4, new long[][] {{MOST, MOST}, {MOST + 1L, LEAST}, {LEAST - 1L, MOST}, {0xFFFFFFFFL, -1},
                {1L << 32, 0}, {Long.MIN_VALUE, 0}, {Long.MAX_VALUE, -1}});
        says("whole ones themselves: longs");
        wraps(5, new long[][] {{Long.MAX_VALUE, Long.MAX_VALUE}, {Long.MIN_VALUE, Long.MIN_VALUE}, {-1, -1},
                {1L << 32, 1L << 32}});
        bitsOfFloats();
        bitsOfThings();
    }

    private static void bitsOfFloats() {
        says("of floats the 32 (with sign); floats by the lowest bits; no number: 7FC00000");
        long noFloat = 0x7FC00000L;
        wraps(6, new long[][] {{1, 1}, {0x3F800000L, 0x3F800000L}, {0x80000000L, LEAST}, {0x80000001L, 0x80000001},
                {0x7F7FFFFFL, 0x7F7FFFFFL}, {0x7F800000L, 0x7F800000L}, {0xFF800000L, 0xFF800000},
                {0x7F800001L, noFloat}, {0x7FBFFFFFL, noFloat}, {noFloat, noFloat}, {0x7FFFFFFFL, noFloat},
                {0xFF800001L, noFloat}, {0xFFC00000L, noFloat}, {-1, noFloat}, {1L << 32, 0},
                {0x7F800001_3F800000L, 0x3F800000L}, {Long.MIN_VALUE, 0}, {Long.MAX_VALUE, noFloat}});
        says("of doubles the 64 bits of their form; no number: 7FF8000000000000");
        long noDouble = 0x7FF8000000000000L;
        wraps(7, new long[][] {{1, 1}, {0x3FF0000000000000L, 0x3FF0000000000000L}, {Long.MIN_VALUE, Long.MIN_VALUE},
                {0x7FEFFFFFFFFFFFFFL, 0x7FEFFFFFFFFFFFFFL}, {0x7FF0000000000000L, 0x7FF0000000000000L},
                {0xFFF0000000000000L, 0xFFF0000000000000L}, {0x7FF0000000000001L, noDouble},
                {0x7FF7FFFFFFFFFFFFL, noDouble}, {noDouble, noDouble}, {Long.MAX_VALUE, noDouble},
                {0xFFF0000000000001L, noDouble}, {0xFFF8000000000000L, noDouble}, {-1, noDouble},
                {0x7F800001L, 0x7F800001L}});
    }

    private static void bitsOfThings() {
        says("of a THING its number");
        int[] numbers = {0, -1, LEAST, MOST};
        for (int number : numbers) {
            PlanCopies x = new PlanCopies();
            x.deep(0, 12, 1, 2, 0);
            x.take(1, 0, 12, 0);
            x.thing(1, 0, 0, number);
            x.thing(1, 1, 1, number);
            dueBits("a plain one", x, x.read(1, 8, 0), number);
            dueBits("a marked one", x, x.read(1, 8, 1), number);
            dueBits("a plain one of a row", x, x.cell(0, 12, 0, 0), number);
            dueBits("a marked one of a row", x, x.cell(0, 12, 0, 1), number);
        }
    }

    private static void takenForKinds() {
        says("a TABLE of KIND 9 can be taken for KIND 8; CAST: it is of another KIND");
        for (int column = 0; column <= 13; column++) {
            for (int kind = 0; kind <= 13; kind++) {
                boolean fits = column == kind || column == 9 && kind == 8;
                PlanCopies x = witness();
                due("table " + column + " for " + kind, x.length(column, kind) == against(CAST) ? 1 : 0, fits ? 0 : 1);
            }
        }
        says("NOTHING is of any");
        for (int kind = 0; kind <= 13; kind++) {
            PlanCopies x = witness();
            due("nothing for " + kind, x.length(EMPTY, kind), against(NULL));
            if (kind >= 10) {
                due("nothing as a row of " + kind, x.row(kind, kind, 0, EMPTY), 1);
            }
        }
    }

    private static void severalFaults() {
        says("Of several the first one here: CAST; then NULL, INDEX, step by step; STORE last");
        unread("CAST, INDEX", CAST, x -> x.read(4, 5, 9));
        unread("NULL, INDEX", NULL, x -> x.read(EMPTY, 5, 9));
        refused("CAST, INDEX", against(CAST), x -> x.write(4, 5, 9, 1));
        refused("NULL, INDEX", against(NULL), x -> x.write(EMPTY, 5, 9, 1));
        refused("CAST, INDEX", against(CAST), x -> x.marked(4, 9));
        refused("NULL, INDEX", against(NULL), x -> x.marked(EMPTY, 9));
        refused("CAST, NULL of the row", against(CAST), x -> x.set(10, 11, 2, 9, 1));
        refused("INDEX of i, INDEX of j", against(INDEX), x -> x.set(10, 10, 3, 9, 1));
        refused("NULL of the row, INDEX of j", against(NULL), x -> x.set(10, 10, 2, 9, 1));
        unread("NULL of the row, INDEX of j", NULL, x -> x.cell(12, 12, 2, 9));
        unread("INDEX of j, no thing", INDEX, x -> x.cell(12, 12, 1, 2));
        unread("NULL of the rows, INDEX of j", NULL, x -> x.deepest(13, 2, 9, 9));
        unread("INDEX of j, INDEX of k", INDEX, x -> x.deepest(13, 1, 2, 9));
        unread("NULL of the row, INDEX of k", NULL, x -> x.deepest(13, 0, 2, 9));
        refused("CAST of the second column, NULL of the first", against(CAST), x -> x.row(EMPTY, 10, 0, 7));
        refused("CAST of the second column, INDEX", against(CAST), x -> x.row(10, 10, 9, 7));
        refused("CAST of the first column, INDEX", against(CAST), x -> x.row(11, 10, 9, 4));
        refused("NULL, INDEX", against(NULL), x -> x.row(EMPTY, 10, 9, 4));
        refused("CAST, INDEX", against(CAST), x -> x.take(0, 10, 11, 9));
        refused("NULL, INDEX", against(NULL), x -> x.take(0, EMPTY, 11, 9));
    }

    private static void callsOfOneObject() {
        says("An object is used for at most 512 calls");
        PlanCopies x = new PlanCopies();
        x.make(0, 9, 30);
        for (int call = 1; call < 511; call++) {
            due("thing, call " + (call + 1), x.thing(0, call % 30, 1, call), 1);
        }
        due("told, call 512", x.told(2), 510);
    }

    // ---- promise 1

    private static void newObject() {
        says("1: All COLUMNS hold NOTHING, all TROUBLES are none");
        PlanCopies x = new PlanCopies();
        due("passed", x.passed(), 0);
        due("number", x.number(), NONE);
        due("fault", x.fault(), 0);
        for (int what = 0; what < 3; what++) {
            due("told " + what, x.told(what), 0);
        }
        for (int column = 0; column < 16; column++) {
            due("kind of " + column, x.kind(column), NONE);
            due("size of " + column, x.size(column), 0);
        }
        for (int t = 0; t < 8; t++) {
            due("raise of " + t, x.raise(t, 1), against(NULL));
            due("trouble " + t, x.trouble(t, NONE), NONE);
        }
    }

    // ---- promises 2 and 3

    private static void makeSizes() {
        for (int kind = 0; kind <= 13; kind++) {
            says("2: A TABLE has 0 to 30 items: none");
            PlanCopies x = new PlanCopies();
            due("make of kind " + kind, x.make(0, kind, 0), 1);
            due("length of kind " + kind, x.length(0, kind), 0);
            due("kind " + kind, x.kind(0), kind);
            due("items made", x.told(1), 0);
            dueNew(x, kind, 0, INDEX);
            says("2: A TABLE has 0 to 30 items: 30; n items, which are 0, untrue, NOTHING");
            due("make of kind " + kind, x.make(0, kind, 30), 1);
            due("length of kind " + kind, x.length(0, kind), 30);
            due("items made", x.told(1), 30);
            dueNew(x, kind, 0, kind <= 7 ? 0 : NULL);
            dueNew(x, kind, 29, kind <= 7 ? 0 : NULL);
            dueNew(x, kind, 30, INDEX);
        }
        says("2: A COLUMN gets a new TABLE: what it held is not used again");
        PlanCopies x = new PlanCopies();
        x.make(15, 4, 2);
        x.fill(15, 4, 7);
        x.share(0, 15);
        due("make", x.make(15, 4, 2), 1);
        due("new item", x.read(15, 4, 1), 0);
        due("old item", x.read(0, 4, 1), 7);
        due("two tables", x.alike(0, 15), 0);
    }

    private static void dueNew(PlanCopies x, int kind, int i, int fault) {
        long got = kind <= 9 ? x.read(0, kind, i) : kind <= 12 ? x.cell(0, kind, i, 0) : x.deepest(0, i, 0, 0);
        dueFault("item " + i + " of kind " + kind, x, got, fault);
    }

    private static void makeRefused() {
        says("2: OUTSIDE: n above 30");
        refused("31 items", OUTSIDE, x -> x.make(0, 4, 31));
        refused("most items", OUTSIDE, x -> x.make(0, 4, MOST));
        says("2: SIZE");
        refused("-1 items", against(SIZE), x -> x.make(0, 4, -1));
        refused("-1 things", against(SIZE), x -> x.make(0, 8, -1));
        refused("least items", against(SIZE), x -> x.make(0, 13, LEAST));
        says("2: OUTSIDE (a COLUMN, KIND)");
        columnEdges("make", (x, column) -> x.make(column, 4, 1));
        kindEdges("make", 0, 13, (x, kind) -> x.make(0, kind, 1));
        says("2: OUTSIDE, then the FAULT");
        refused("column 16, -1 items", OUTSIDE, x -> x.make(16, 4, -1));
        refused("kind 14, -1 items", OUTSIDE, x -> x.make(0, 14, -1));
    }

    private static void makeFull() {
        says("2: FULL: 6000 items were made ever");
        PlanCopies x = madeEver(5999);
        due("make at 5999", x.make(0, 4, 1), 1);
        due("make at 6000", x.make(1, 4, 1), FULL);
        due("none at 6000", x.make(1, 4, 0), FULL);
        due("told", x.told(1), 6000);
        due("nothing came", x.kind(1), NONE);
        PlanCopies y = madeEver(5999);
        due("30 at 5999", y.make(0, 4, 30), 1);
        due("told", y.told(1), 6029);
        due("make at 6029", y.make(1, 8, 1), FULL);
        PlanCopies z = madeEver(5999);
        due("none at 5999", z.make(0, 4, 0), 1);
        due("none again at 5999", z.make(0, 4, 0), 1);
        says("2: OUTSIDE, FULL; then the FAULT");
        refusedWhenFull("make", FULL, w -> w.make(0, 4, 1));
        refusedWhenFull("make of -1", FULL, w -> w.make(0, 4, -1));
        refusedWhenFull("make of 31", OUTSIDE, w -> w.make(0, 4, 31));
        refusedWhenFull("make of kind 14", OUTSIDE, w -> w.make(0, 14, 1));
        refusedWhenFull("make in column 16", OUTSIDE, w -> w.make(16, 4, 1));
    }

    private static void deepSizes() {
        says("3: with n items, each a new one of m items: none of them");
        for (int kind = 10; kind <= 13; kind++) {
            PlanCopies x = new PlanCopies();
            due("0 of 30, kind " + kind, x.deep(0, kind, 0, 30, 30), 1);
            due("length", x.length(0, kind), 0);
            due("items", x.told(1), 0);
            due("30 of 0, kind " + kind, x.deep(0, kind, 30, 0, 30), 1);
            due("length", x.length(0, kind), 30);
            due("items", x.told(1), 30);
            x.take(1, 0, kind, 29);
            due("a row of 0", x.length(1, ROW_KINDS[kind - 10]), 0);
        }
        says("3: of 13 each of these with a new one of l ints: none of them");
        PlanCopies x = new PlanCopies();
        due("30 of 30 of 0", x.deep(0, 13, 30, 30, 0), 1);
        due("items", x.told(1), 930);
        x.take(1, 0, 13, 29);
        x.take(2, 1, 10, 29);
        due("a row of no ints", x.length(2, 4), 0);
        dueFault("its first int", x, x.deepest(0, 29, 29, 0), INDEX);
        says("3: each a new one");
        PlanCopies y = new PlanCopies();
        y.deep(0, 13, 2, 2, 2);
        y.take(1, 0, 13, 1);
        y.set(1, 10, 1, 1, 5);
        due("the int", y.deepest(0, 1, 1, 1), 5);
        due("other table", y.deepest(0, 0, 1, 1), 0);
        due("other row", y.deepest(0, 1, 0, 1), 0);
        says("3: of 12 of KIND 8");
        y.deep(0, 12, 2, 2, 0);
        y.take(1, 0, 12, 1);
        due("its kind", y.kind(1), 8);
        due("a plain one", y.thing(1, 1, 0, 5), 1);
        dueFault("other row", y, y.cell(0, 12, 0, 1), NULL);
    }

    private static void deepOutside() {
        says("3: OUTSIDE: one of these numbers is above 30");
        for (int kind = 10; kind <= 13; kind++) {
            int rows = kind;
            due("30 and 0", witness().deep(0, rows, 30, 0, 1), 1);
            due("0 and 30", witness().deep(0, rows, 0, 30, 1), 1);
            refused("n 31", OUTSIDE, x -> x.deep(0, rows, 31, 0, 0));
            refused("m 31", OUTSIDE, x -> x.deep(0, rows, 0, 31, 0));
            refused("n most", OUTSIDE, x -> x.deep(0, rows, MOST, 0, 0));
            refused("n and m of which the product is 0 by wrap-around", OUTSIDE, x -> x.deep(0, rows, 65536, 65536, 1));
            says("3: OUTSIDE: their product above 400");
            due("20 * 20", witness().deep(0, rows, 20, 20, 1), 1);
            refused("27 * 15", OUTSIDE, x -> x.deep(0, rows, 27, 15, 1));
            refused("15 * 27", OUTSIDE, x -> x.deep(0, rows, 15, 27, 1));
        }
        due("10 * 10 * 4", witness().deep(0, 13, 10, 10, 4), 1);
        due("1 * 20 * 20", witness().deep(0, 13, 1, 20, 20), 1);
        due("30 * 30 * 0", witness().deep(0, 13, 30, 30, 0), 1);
        refused("15 * 9 * 3", OUTSIDE, x -> x.deep(0, 13, 15, 9, 3));
        refused("1 * 15 * 27", OUTSIDE, x -> x.deep(0, 13, 1, 15, 27));
        refused("20 * 20 * 2", OUTSIDE, x -> x.deep(0, 13, 20, 20, 2));
        says("3: l of 13 alone is looked at in all this");
        due("l 30", witness().deep(0, 13, 0, 0, 30), 1);
        refused("l 31", OUTSIDE, x -> x.deep(0, 13, 0, 0, 31));
        refused("l most", OUTSIDE, x -> x.deep(0, 13, 0, 0, MOST));
        int[] any = {31, -1, 0, LEAST, MOST};
        for (int l : any) {
            for (int kind = 10; kind <= 12; kind++) {
                PlanCopies x = new PlanCopies();
                due("kind " + kind + ", l " + l, x.deep(0, kind, 20, 20, l), 1);
                due("items", x.told(1), 420);
            }
        }
        says("3: OUTSIDE (a COLUMN, KIND)");
        columnEdges("deep", (x, column) -> x.deep(column, 10, 1, 1, 1));
        kindEdges("deep", 10, 13, (x, kind) -> x.deep(0, kind, 1, 1, 1));
    }

    private static void deepSizeFault() {
        says("3: SIZE: one is below 0, whatever the others are");
        for (int kind = 10; kind <= 13; kind++) {
            int rows = kind;
            refused("n -1", against(SIZE), x -> x.deep(0, rows, -1, 3, 1));
            refused("m -1", against(SIZE), x -> x.deep(0, rows, 3, -1, 1));
            refused("m -1, n 0", against(SIZE), x -> x.deep(0, rows, 0, -1, 1));
            refused("n -1, m 0", against(SIZE), x -> x.deep(0, rows, -1, 0, 1));
            refused("both least", against(SIZE), x -> x.deep(0, rows, LEAST, LEAST, 1));
        }
        refused("l -1", against(SIZE), x -> x.deep(0, 13, 2, 2, -1));
        refused("l -1, n 0", against(SIZE), x -> x.deep(0, 13, 0, 2, -1));
        refused("l -1, m 0", against(SIZE), x -> x.deep(0, 13, 2, 0, -1));
        refused("l least, n and m 0", against(SIZE), x -> x.deep(0, 13, 0, 0, LEAST));
        says("3: those below 0 being 0 there");
        refused("-30 * -30", against(SIZE), x -> x.deep(0, 10, -30, -30, 0));
        refused("-30 * -30 * 30", against(SIZE), x -> x.deep(0, 13, -30, -30, 30));
        refused("30 * 30 * -1", against(SIZE), x -> x.deep(0, 13, 30, 30, -1));
        refused("-30 * 30 * -30", against(SIZE), x -> x.deep(0, 13, -30, 30, -30));
        says("3: OUTSIDE, then the FAULT");
        refused("n -1, m 31", OUTSIDE, x -> x.deep(0, 10, -1, 31, 0));
        refused("n 31, m -1", OUTSIDE, x -> x.deep(0, 10, 31, -1, 0));
        refused("n -1, l 31", OUTSIDE, x -> x.deep(0, 13, -1, 1, 31));
        refused("kind 9, n -1", OUTSIDE, x -> x.deep(0, 9, -1, 1, 1));
        refused("column 16, n -1", OUTSIDE, x -> x.deep(16, 10, -1, 1, 1));
    }

    private static void deepFull() {
        says("3: FULL");
        PlanCopies x = madeEver(5999);
        due("at 5999", x.deep(0, 10, 20, 20, 0), 1);
        due("told", x.told(1), 6419);
        due("after that", x.deep(1, 10, 1, 1, 0), FULL);
        PlanCopies y = madeEver(6000);
        due("at 6000", y.deep(0, 10, 1, 1, 0), FULL);
        due("none at 6000", y.deep(0, 13, 0, 0, 0), FULL);
        says("3: OUTSIDE, FULL; then the FAULT");
        refusedWhenFull("deep", FULL, w -> w.deep(0, 10, 1, 1, 0));
        refusedWhenFull("deep of -1", FULL, w -> w.deep(0, 10, 1, -1, 0));
        refusedWhenFull("deep of 31", OUTSIDE, w -> w.deep(0, 10, 31, 1, 0));
        refusedWhenFull("deep of 27 * 15", OUTSIDE, w -> w.deep(0, 10, 27, 15, 0));
        refusedWhenFull("deep of kind 9", OUTSIDE, w -> w.deep(0, 9, 1, 1, 0));
        refusedWhenFull("deep in column 16", OUTSIDE, w -> w.deep(16, 10, 1, 1, 0));
    }

    // ---- promises 4 to 8

    private static void share() {
        says("4: A COLUMN holds what another one holds");
        PlanCopies x = witness();
        due("share", x.share(0, 15), 1);
        due("nothing of nothing", x.kind(0), NONE);
        due("first from last", x.share(15, 4), 1);
        due("the same", x.alike(15, 4), 2);
        due("itself", x.share(4, 4), 1);
        due("itself still", x.alike(15, 4), 2);
        due("no items made", x.told(1), witness().told(1));
        due("full does not matter", fullWitness().share(0, 4), 1);
        says("4: OUTSIDE");
        columnEdges("share", (w, column) -> w.share(column, 4));
        columnEdges("share from", (w, column) -> w.share(4, column));
    }

    private static void asideOfNothingAndEmpty() {
        says("5: NOTHING of NOTHING");
        PlanCopies x = witness();
        int made = x.told(1);
        due("aside", x.aside(0, EMPTY), 1);
        due("holds", x.kind(0), NONE);
        due("of itself", x.aside(EMPTY, EMPTY), 1);
        due("items made", x.told(1), made);
        says("5: A COLUMN gets a new TABLE like that of another one: of none, of 30");
        for (int kind = 0; kind <= 13; kind++) {
            PlanCopies y = new PlanCopies();
            for (int n = 0; n <= 30; n += 30) {
                y.make(0, kind, n);
                due("aside", y.aside(15, 0), 1);
                due("kind", y.kind(15), kind);
                due("length", y.length(15, kind), n);
                due("alike", y.alike(0, 15), 1);
            }
            due("items made", y.told(1), 60);
        }
        says("5: A COLUMN gets a new TABLE, of itself, too");
        PlanCopies z = witness();
        due("onto itself", z.aside(4, 4), 1);
        due("new", z.alike(4, SHARED), 1);
        z.write(4, 4, 0, 9);
        due("old item", z.read(SHARED, 4, 0), 1);
        due("the old row stands in its rows", z.cell(10, 10, 0, 0), 1);
        says("5: OUTSIDE");
        columnEdges("aside", (w, column) -> w.aside(column, 4));
        columnEdges("aside from", (w, column) -> w.aside(4, column));
    }

    private static void asideRows() {
        says("5: with new ROWS throughout, of ROWS, too");
        PlanCopies x = witness();
        int made = x.told(1);
        due("aside", x.aside(EMPTY, 13), 1);
        due("items made", x.told(1) - made, 3 + (3 + 2 + 2) + (2 + 1 + 1));
        due("alike", x.alike(EMPTY, 13), 1);
        x.take(0, EMPTY, 13, 0);
        x.take(1, 0, 10, 0);
        due("its table is new", x.alike(0, 10), 1);
        due("its row is new", x.alike(1, 4), 1);
        x.write(4, 4, 0, 77);
        due("as it was", x.deepest(EMPTY, 0, 0, 0), 1);
        dueFault("nothing stays nothing", x, x.deepest(EMPTY, 2, 0, 0), NULL);
        says("5: one that stands there several times is new once, and stands there as often");
        PlanCopies y = new PlanCopies();
        y.deep(0, 10, 1, 5, 0);
        y.make(1, 13, 30);
        for (int i = 0; i < 30; i++) {
            y.row(1, 13, i, 0);
        }
        y.take(2, 0, 10, 0);
        y.make(3, 10, 2);
        y.row(3, 10, 1, 2);
        y.row(1, 13, 29, 3);
        made = y.told(1);
        y.aside(4, 1);
        due("items made", y.told(1) - made, 30 + 1 + 5 + 2);
        y.take(5, 4, 13, 0);
        y.take(6, 4, 13, 28);
        due("the same table", y.alike(5, 6), 2);
        y.set(5, 10, 0, 4, 3);
        due("the same row in two tables", y.deepest(4, 29, 1, 4), 3);
        due("not the old one", y.read(2, 4, 4), 0);
        says("5: new once, in each aside()");
        y.aside(7, 1);
        y.take(8, 7, 13, 0);
        due("of the next aside()", y.alike(8, 5), 0);
        due("as the old one is now", y.alike(8, 0), 1);
        asideThings();
    }

    private static void asideThings() {
        says("5: THINGS are the same");
        PlanCopies x = witness();
        int things = x.told(2);
        x.aside(EMPTY, 12);
        due("things made", x.told(2), things);
        due("alike", x.alike(EMPTY, 12), 1);
        dueBits("number", x, x.cell(EMPTY, 12, 0, 1), 81);
        x.take(0, EMPTY, 12, 1);
        due("a row of KIND 9 stays one", x.kind(0), 9);
        due("a new row", x.alike(0, 9), 1);
        x.thing(0, 0, 2, 0);
        due("the old row has its thing", x.read(9, 9, 0), 90);
    }

    private static void asideFull() {
        says("5: FULL");
        PlanCopies x = madeEver(5989);
        x.make(0, 4, 10);
        due("at 5999", x.aside(1, 0), 1);
        due("told", x.told(1), 6009);
        due("after that", x.aside(2, 0), FULL);
        due("nothing came", x.kind(2), NONE);
        PlanCopies y = madeEver(5990);
        y.make(0, 4, 10);
        due("at 6000", y.aside(1, 0), FULL);
        says("5: OUTSIDE, FULL; then all else");
        refusedWhenFull("aside", FULL, w -> w.aside(0, 4));
        refusedWhenFull("aside of nothing", FULL, w -> w.aside(0, EMPTY));
        refusedWhenFull("aside in column 16", OUTSIDE, w -> w.aside(16, 4));
        refusedWhenFull("aside from column -1", OUTSIDE, w -> w.aside(0, -1));
    }

    private static void drop() {
        says("6: 1 if it held a TABLE, else 0");
        PlanCopies x = witness();
        x.make(0, 4, 0);
        due("of no items", x.drop(0), 1);
        due("again", x.drop(0), 0);
        due("holds", x.kind(0), NONE);
        due("nothing", x.drop(15), 0);
        due("shared", x.drop(4), 1);
        due("the other one holds it", x.read(SHARED, 4, 0), 1);
        due("the row stands there", x.cell(10, 10, 0, 0), 1);
        says("6: OUTSIDE");
        columnEdges("drop", PlanCopies::drop);
    }

    private static void kind() {
        says("7: The KIND of the TABLE that a COLUMN holds; NONE");
        PlanCopies x = new PlanCopies();
        for (int kind = 0; kind <= 13; kind++) {
            due("nothing", x.kind(15), NONE);
            x.make(15, kind, 0);
            due("of no items", x.kind(15), kind);
            x.drop(15);
        }
        says("7: OUTSIDE");
        columnEdges("kind", PlanCopies::kind);
    }

    private static void length() {
        says("8: How many items; CAST, NULL");
        for (int kind = 0; kind <= 13; kind++) {
            int other = kind == 13 ? 0 : kind + 1;
            int taken = kind;
            PlanCopies x = new PlanCopies();
            x.make(15, kind, 0);
            due("none", x.length(15, kind), 0);
            x.make(15, kind, 30);
            due("30", x.length(15, kind), 30);
            refused("another kind", against(CAST), w -> w.length(taken, other));
            refused("nothing", against(NULL), w -> w.length(EMPTY, taken));
        }
        due("9 for 8", witness().length(9, 8), 2);
        refused("8 for 9", against(CAST), w -> w.length(8, 9));
        says("8: OUTSIDE");
        columnEdges("length", (x, column) -> x.length(column, 0));
        kindEdges("length", 0, 13, (x, kind) -> x.length(0, kind));
        refused("kind 14 of nothing", OUTSIDE, x -> x.length(EMPTY, 14));
    }

    // ---- promises 9 to 12

    private static void read() {
        says("9: INDEX");
        for (int kind = 0; kind <= 9; kind++) {
            int taken = kind;
            indexEdgesRead("read of kind " + kind, kind == 8 ? 3 : 2, (x, i) -> x.read(taken, taken, i));
        }
        PlanCopies x = new PlanCopies();
        x.make(0, 4, 0);
        dueFault("the first of none", x, x.read(0, 4, 0), INDEX);
        says("9: CAST, NULL");
        unread("another kind", CAST, w -> w.read(4, 5, 0));
        unread("8 for 9", CAST, w -> w.read(8, 9, 1));
        unread("rows for ints", CAST, w -> w.read(10, 4, 0));
        unread("nothing", NULL, w -> w.read(EMPTY, 4, 0));
        says("9: NULL: the THING is NOTHING");
        unread("of 8", NULL, w -> w.read(8, 8, 2));
        unread("of 9", NULL, w -> w.read(9, 9, 1));
        unread("of 9 for 8", NULL, w -> w.read(9, 8, 1));
        says("9: OUTSIDE");
        columnEdgesRead("read", (w, column) -> w.read(column, 4, 0));
        kindEdgesRead("read", 0, 9, (w, kind) -> w.read(0, kind, 0));
        unread("kind 10 of rows", OUTSIDE, w -> w.read(10, 10, 0));
        says("9: 0 where fault() is not 0");
        PlanCopies y = witness();
        dueBits("no fault, an item that is not 0", y, y.read(4, 4, 0), 1);
        dueBits("no fault, an item that is 0", y, y.read(4, 4, 1), 0);
    }

    private static void write() {
        says("10: INDEX");
        for (int kind = 0; kind <= 7; kind++) {
            int taken = kind;
            indexEdges("write of kind " + kind, 2, (x, i) -> x.write(taken, taken, i, 0));
        }
        PlanCopies x = new PlanCopies();
        x.make(0, 4, 0);
        due("the first of none", x.write(0, 4, 0, 1), against(INDEX));
        says("10: CAST, NULL");
        refused("another kind", against(CAST), w -> w.write(4, 5, 0, 0));
        refused("things", against(CAST), w -> w.write(8, 4, 0, 0));
        refused("rows for ints", against(CAST), w -> w.write(10, 4, 0, 0));
        refused("nothing", against(NULL), w -> w.write(EMPTY, 4, 0, 0));
        says("10: OUTSIDE");
        columnEdges("write", (w, column) -> w.write(column, 4, 0, 0));
        kindEdges("write", 0, 7, (w, kind) -> w.write(0, kind, 0, 0));
        refused("kind 8 of things", OUTSIDE, w -> w.write(8, 8, 0, 0));
    }

    private static void thing() {
        says("11: marked: 0 a plain one, 1 a MARKED one, or (2) NOTHING");
        PlanCopies x = witness();
        due("plain", x.thing(8, 2, 0, LEAST), 1);
        due("its number", x.read(8, 8, 2), LEAST);
        due("marked()", x.marked(8, 2), 0);
        due("marked", x.thing(8, 2, 1, MOST), 1);
        due("its number", x.read(8, 8, 2), MOST);
        due("marked()", x.marked(8, 2), 1);
        int made = x.told(2);
        due("nothing", x.thing(8, 2, 2, 5), 1);
        dueFault("it is nothing", x, x.read(8, 8, 2), NULL);
        due("nothing into 9", x.thing(9, 0, 2, 5), 1);
        dueFault("it is nothing", x, x.read(9, 9, 0), NULL);
        due("NOTHING is not made", x.told(2), made);
        due("marked into 9", x.thing(9, 1, 1, 5), 1);
        says("11: OUTSIDE: marked");
        int[] none = {-1, 3, LEAST, MOST};
        for (int marked : none) {
            refused("marked " + marked, OUTSIDE, w -> w.thing(8, 0, marked, 5));
        }
        says("11: OUTSIDE (a COLUMN)");
        for (int marked = 0; marked <= 2; marked++) {
            int as = marked;
            columnEdges("thing", (w, column) -> w.thing(column, 0, as, 5));
        }
        says("11: OUTSIDE, then the FAULT");
        refused("marked 3 into ints", OUTSIDE, w -> w.thing(4, 9, 3, 5));
        refused("marked 3 of nothing", OUTSIDE, w -> w.thing(EMPTY, 0, 3, 5));
    }

    private static void thingFaults() {
        says("11: CAST, NULL, INDEX (of NOTHING, too)");
        thingFault("into ints", CAST, 4, 0);
        thingFault("into rows of things", CAST, 12, 0);
        thingFault("into ints, beyond", CAST, 4, 9);
        thingFault("into nothing", NULL, EMPTY, 0);
        thingFault("into nothing, beyond", NULL, EMPTY, 9);
        int[] none = {-1, 3, LEAST, MOST};
        for (int i : none) {
            thingFault("at " + i, INDEX, 8, i);
        }
        says("11: STORE: a plain one into KIND 9");
        thingFault("at the first", STORE, 9, 0, 0);
        thingFault("at the last", STORE, 9, 1, 0);
        says("11: INDEX, STORE last");
        thingFault("at -1", INDEX, 9, -1, 0);
        thingFault("beyond", INDEX, 9, 2, 0);
        PlanCopies x = new PlanCopies();
        x.make(0, 9, 0);
        due("the first of none", x.thing(0, 0, 0, 1), against(INDEX));
        due("NOTHING at the first of none", x.thing(0, 0, 2, 1), against(INDEX));
    }

    private static void thingFault(String what, int fault, int column, int i) {
        for (int marked = 0; marked <= 2; marked++) {
            thingFault(what, fault, column, i, marked);
        }
    }

    /** (A THING counts as made, though the FAULT come.) All else is as it was. */
    private static void thingFault(String what, int fault, int column, int i, int marked) {
        PlanCopies x = witness();
        int made = x.told(2);
        due(what + ", marked " + marked, x.thing(column, i, marked, 5), against(fault));
        due(what + ", marked " + marked + ", counts as made", x.told(2) - made, marked == 2 ? 0 : 1);
        dueSame(what + ", marked " + marked, x, witness(), THINGS_AT + 1);
    }

    /** The one test that needs more than 512 calls: what it looks at can not be reached by fewer. */
    private static void thingsFull() {
        says("11: FULL: 3000 THINGS were made ever (of 0, 1)");
        PlanCopies x = new PlanCopies();
        x.make(0, 8, 1);
        x.make(1, 9, 1);
        for (int made = 0; made < 2999; made++) {
            x.thing(made % 2, 0, 0, made);
        }
        due("told", x.told(2), 2999);
        due("at 2999", x.thing(0, 0, 1, 5), 1);
        due("a plain one at 3000", x.thing(0, 0, 0, 6), FULL);
        due("a marked one at 3000", x.thing(0, 0, 1, 6), FULL);
        due("NOTHING at 3000", x.thing(1, 0, 2, 6), 1);
        due("told", x.told(2), 3000);
        due("it stayed", x.read(0, 8, 0), 5);
        says("11: OUTSIDE, FULL; then the FAULT");
        due("marked 3", x.thing(0, 0, 3, 6), OUTSIDE);
        due("column 16", x.thing(16, 0, 0, 6), OUTSIDE);
        due("nothing", x.thing(2, 0, 0, 6), FULL);
        due("beyond", x.thing(0, 1, 0, 6), FULL);
        due("a plain one into KIND 9", x.thing(1, 0, 0, 6), FULL);
    }

    private static void marked() {
        says("12: 1, 0 (of NOTHING, too)");
        PlanCopies x = witness();
        due("plain", x.marked(8, 0), 0);
        due("marked", x.marked(8, 1), 1);
        due("nothing", x.marked(8, 2), 0);
        due("marked in 9", x.marked(9, 0), 1);
        due("nothing in 9", x.marked(9, 1), 0);
        says("12: CAST, NULL, INDEX");
        indexEdges("marked", 3, (w, i) -> w.marked(8, i));
        indexEdges("marked of 9", 2, (w, i) -> w.marked(9, i));
        refused("ints", against(CAST), w -> w.marked(4, 0));
        refused("rows of things", against(CAST), w -> w.marked(12, 0));
        refused("nothing", against(NULL), w -> w.marked(EMPTY, 0));
        says("12: OUTSIDE");
        columnEdges("marked", (w, column) -> w.marked(column, 0));
    }

    // ---- promises 13 to 17

    private static void cell() {
        says("13: INDEX");
        indexEdgesRead("cell of 10", 3, (x, i) -> x.cell(10, 10, i, 0));
        indexEdgesRead("cell of 11", 2, (x, i) -> x.cell(11, 11, i, 0));
        indexEdgesRead("cell of 12", 3, (x, i) -> x.cell(12, 12, i, 0));
        indexEdgesRead("cell of the row", 2, (x, j) -> x.cell(10, 10, 1, j));
        indexEdgesRead("cell of the row of doubles", 2, (x, j) -> x.cell(11, 11, 0, j));
        indexEdgesRead("cell of the row of things", 3, (x, j) -> x.cell(12, 12, 0, j));
        indexEdgesRead("cell of the row of marked things", 2, (x, j) -> x.cell(12, 12, 1, j));
        says("13: CAST, NULL");
        unread("another kind", CAST, x -> x.cell(10, 11, 0, 0));
        unread("tables of rows", CAST, x -> x.cell(13, 10, 0, 0));
        unread("nothing", NULL, x -> x.cell(EMPTY, 10, 0, 0));
        unread("no row", NULL, x -> x.cell(10, 10, 2, 0));
        unread("no row of doubles", NULL, x -> x.cell(11, 11, 1, 0));
        unread("no row of things", NULL, x -> x.cell(12, 12, 2, 0));
        unread("no thing", NULL, x -> x.cell(12, 12, 0, 2));
        says("13: OUTSIDE");
        columnEdgesRead("cell", (x, column) -> x.cell(column, 10, 0, 0));
        kindEdgesRead("cell", 10, 12, (x, kind) -> x.cell(10, kind, 0, 0));
        unread("kind 13 of tables of rows", OUTSIDE, x -> x.cell(13, 13, 0, 0));
        unread("kind 4 of ints", OUTSIDE, x -> x.cell(4, 4, 0, 0));
    }

    private static void set() {
        says("14: INDEX");
        indexEdgesOfSet("set of 10", 10, new int[] {-1, 3, LEAST, MOST}, 0);
        indexEdgesOfSet("set of 11", 11, new int[] {-1, 2, LEAST, MOST}, 0);
        indexEdges("set of the row", 2, (x, j) -> x.set(10, 10, 1, j, 0));
        indexEdges("set of the row of doubles", 2, (x, j) -> x.set(11, 11, 0, j, 0));
        says("14: CAST, NULL");
        refused("another kind", against(CAST), x -> x.set(10, 11, 0, 0, 9));
        refused("tables of rows", against(CAST), x -> x.set(13, 10, 0, 0, 9));
        refused("nothing", against(NULL), x -> x.set(EMPTY, 10, 0, 0, 9));
        refused("no row", against(NULL), x -> x.set(10, 10, 2, 0, 9));
        refused("no row of doubles", against(NULL), x -> x.set(11, 11, 1, 0, 9));
        says("14: OUTSIDE");
        columnEdges("set", (x, column) -> x.set(column, 10, 0, 0, 9));
        kindEdges("set", 10, 11, (x, kind) -> x.set(10, kind, 0, 0, 9));
        refused("kind 12 of rows of things", OUTSIDE, x -> x.set(12, 12, 0, 0, 9));
        says("14: It becomes what BITS tell, in each place where the ROW stands");
        PlanCopies x = witness();
        due("set", x.set(10, 10, 0, 1, 5), 1);
        due("the table", x.read(4, 4, 1), 5);
        due("the table of rows", x.deepest(13, 0, 0, 1), 5);
    }

    private static void indexEdgesOfSet(String what, int kind, int[] none, int j) {
        for (int i : none) {
            refused(what + " at " + i, against(INDEX), x -> x.set(kind, kind, i, j, 9));
        }
        due(what + " at 0", witness().set(kind, kind, 0, j, 9), 1);
    }

    private static void deepest() {
        says("15: INDEX");
        indexEdgesRead("deepest, i", 3, (x, i) -> x.deepest(13, i, 0, 0));
        indexEdgesRead("deepest, j", 3, (x, j) -> x.deepest(13, 0, j, 0));
        indexEdgesRead("deepest, k", 2, (x, k) -> x.deepest(13, 0, 0, k));
        says("15: CAST, NULL");
        unread("rows", CAST, x -> x.deepest(10, 0, 0, 0));
        unread("nothing", NULL, x -> x.deepest(EMPTY, 0, 0, 0));
        unread("no rows", NULL, x -> x.deepest(13, 2, 0, 0));
        unread("no row", NULL, x -> x.deepest(13, 0, 2, 0));
        says("15: OUTSIDE");
        columnEdgesRead("deepest", (x, column) -> x.deepest(column, 0, 0, 0));
        says("15: Item k of ROW j of item i");
        PlanCopies x = new PlanCopies();
        x.deep(15, 13, 2, 3, 4);
        x.take(0, 15, 13, 1);
        x.set(0, 10, 2, 3, LEAST);
        dueBits("the last one", x, x.deepest(15, 1, 2, 3), LEAST);
        dueBits("the first one", x, x.deepest(15, 0, 0, 0), 0);
    }

    private static void row() {
        says("16: taken for the KIND of its items (4, 7, 8, 10), or NOTHING");
        for (int kind = 10; kind <= 13; kind++) {
            for (int from = 0; from <= 13; from++) {
                boolean fits = ROW_KINDS[kind - 10] == from || kind == 12 && from == 9;
                int rows = kind;
                int item = from;
                if (fits) {
                    PlanCopies x = witness();
                    due("row of " + kind + " from " + from, x.row(kind, kind, 1, from), 1);
                    x.take(EMPTY, kind, kind, 1);
                    due("it stands there", x.alike(EMPTY, from), 2);
                } else {
                    refused("row of " + kind + " from " + from, against(CAST), x -> x.row(rows, rows, 1, item));
                }
            }
            PlanCopies x = witness();
            due("nothing into " + kind, x.row(kind, kind, 0, EMPTY), 1);
            x.take(0, kind, kind, 0);
            due("nothing is there", x.kind(0), NONE);
        }
        says("16: CAST, NULL, INDEX");
        indexEdges("row of 10", 3, (x, i) -> x.row(10, 10, i, 4));
        indexEdges("row of 11", 2, (x, i) -> x.row(11, 11, i, 7));
        indexEdges("row of 12", 3, (x, i) -> x.row(12, 12, i, 8));
        indexEdges("row of 13", 3, (x, i) -> x.row(13, 13, i, 10));
        refused("NOTHING, beyond", against(INDEX), x -> x.row(10, 10, 3, EMPTY));
        refused("the column is of another kind", against(CAST), x -> x.row(11, 10, 0, 4));
        refused("the column is of plain items", against(CAST), x -> x.row(4, 10, 0, 4));
        refused("of another kind, NOTHING", against(CAST), x -> x.row(11, 10, 0, EMPTY));
        refused("the column holds nothing", against(NULL), x -> x.row(EMPTY, 10, 0, 4));
        refused("both hold nothing", against(NULL), x -> x.row(EMPTY, 10, 0, EMPTY));
        says("16: OUTSIDE");
        columnEdges("row", (x, column) -> x.row(column, 10, 0, 4));
        columnEdges("row from", (x, column) -> x.row(10, 10, 0, column));
        kindEdges("row", 10, 13, (x, kind) -> x.row(10, kind, 0, 4));
        refused("kind 9 of things", OUTSIDE, x -> x.row(9, 9, 0, 4));
    }

    private static void take() {
        says("17: (or NOTHING, if that is)");
        for (int kind = 10; kind <= 13; kind++) {
            PlanCopies x = witness();
            due("take", x.take(0, kind, kind, kind == 11 ? 1 : 2), 1);
            due("holds", x.kind(0), NONE);
        }
        says("17: A COLUMN gets the TABLE that is item i");
        PlanCopies y = witness();
        due("take", y.take(15, 12, 12, 1), 1);
        due("the same", y.alike(15, 9), 2);
        due("onto itself", y.take(13, 13, 13, 0), 1);
        due("the same", y.alike(13, 10), 2);
        due("no items made", y.told(1), witness().told(1));
        says("17: CAST, NULL, INDEX");
        indexEdges("take of 10", 3, (x, i) -> x.take(0, 10, 10, i));
        indexEdges("take of 11", 2, (x, i) -> x.take(0, 11, 11, i));
        indexEdges("take of 12", 3, (x, i) -> x.take(0, 12, 12, i));
        indexEdges("take of 13", 3, (x, i) -> x.take(0, 13, 13, i));
        refused("another kind", against(CAST), x -> x.take(0, 10, 11, 0));
        refused("plain items", against(CAST), x -> x.take(0, 4, 10, 0));
        refused("nothing", against(NULL), x -> x.take(0, EMPTY, 10, 0));
        says("17: OUTSIDE");
        columnEdges("take", (x, column) -> x.take(column, 10, 10, 1));
        columnEdges("take from", (x, column) -> x.take(0, column, 10, 0));
        kindEdges("take", 10, 13, (x, kind) -> x.take(0, 10, kind, 0));
        refused("kind 9 of things", OUTSIDE, x -> x.take(0, 9, 9, 0));
    }

    // ---- promises 18 to 20

    private static void grow() {
        says("18: the first ones, as many as there are, then 0, untrue, NOTHING");
        for (int kind = 0; kind <= 9; kind++) {
            int length = kind == 8 ? 3 : 2;
            int[] sizes = {0, 1, length, length + 1, 30};
            for (int n : sizes) {
                PlanCopies x = witness();
                long first = x.read(kind, kind, 0);
                int made = x.told(1);
                x.share(EMPTY, kind);
                due("grow of kind " + kind + " to " + n, x.grow(kind, n), 1);
                due("kind", x.kind(kind), kind);
                due("length", x.length(kind, kind), n);
                due("items made", x.told(1) - made, n);
                due("the old one's length", x.length(EMPTY, kind), length);
                dueFault("beyond", x, x.read(kind, kind, n), INDEX);
                if (n > 0) {
                    due("the first one", x.read(kind, kind, 0), first);
                    due("its own table", x.alike(kind, EMPTY) == 2 ? 1 : 0, 0);
                }
                if (n > length) {
                    dueFault("the last one", x, x.read(kind, kind, n - 1), kind <= 7 ? 0 : NULL);
                }
            }
        }
        growRows();
    }

    private static void growRows() {
        says("18: (ROWS, THINGS in it are the same.)");
        PlanCopies x = witness();
        int things = x.told(2);
        for (int kind = 8; kind <= 13; kind++) {
            due("grow", x.grow(kind, 30), 1);
            due("kind", x.kind(kind), kind);
        }
        due("things made", x.told(2), things);
        due("of 6 tables 30 each", x.told(1) - witness().told(1), 6 * 30);
        x.take(EMPTY, 10, 10, 0);
        due("the row of ints", x.alike(EMPTY, 4), 2);
        x.take(EMPTY, 13, 13, 0);
        x.take(0, EMPTY, 10, 0);
        due("the row of the table of rows", x.alike(0, 4), 2);
        dueFault("the last row", x, x.cell(10, 10, 29, 0), NULL);
        dueFault("the last table", x, x.deepest(13, 29, 0, 0), NULL);
        due("a marked one", x.marked(9, 0), 1);
        due("still a plain one", x.thing(9, 29, 0, 1), against(STORE));
    }

    private static void growRefused() {
        says("18: OUTSIDE: n above 30");
        refused("31", OUTSIDE, x -> x.grow(4, 31));
        refused("most", OUTSIDE, x -> x.grow(4, MOST));
        refused("31 of nothing", OUTSIDE, x -> x.grow(EMPTY, 31));
        columnEdges("grow", (x, column) -> x.grow(column, 1));
        refused("-1 of column 16", OUTSIDE, x -> x.grow(16, -1));
        says("18: NULL; SIZE");
        refused("nothing", against(NULL), x -> x.grow(EMPTY, 1));
        refused("nothing to none", against(NULL), x -> x.grow(EMPTY, 0));
        refused("nothing to -1", against(NULL), x -> x.grow(EMPTY, -1));
        refused("-1", against(SIZE), x -> x.grow(4, -1));
        refused("-1 of rows", against(SIZE), x -> x.grow(13, -1));
        refused("least", against(SIZE), x -> x.grow(4, LEAST));
        says("18: FULL: as make()");
        PlanCopies x = madeEver(5998);
        x.make(0, 4, 1);
        due("at 5999", x.grow(0, 30), 1);
        due("told", x.told(1), 6029);
        due("after that", x.grow(0, 1), FULL);
        due("it stayed", x.length(0, 4), 30);
        PlanCopies y = madeEver(5999);
        y.make(0, 4, 1);
        due("at 6000", y.grow(0, 1), FULL);
        due("none at 6000", y.grow(0, 0), FULL);
        refusedWhenFull("grow of nothing", FULL, w -> w.grow(EMPTY, 1));
        refusedWhenFull("grow to -1", FULL, w -> w.grow(4, -1));
        refusedWhenFull("grow to 31", OUTSIDE, w -> w.grow(4, 31));
        refusedWhenFull("grow of column 16", OUTSIDE, w -> w.grow(16, 1));
    }

    private static void copyEdges() {
        says("19: n items: none, one, all");
        for (int kind = 0; kind <= 13; kind++) {
            PlanCopies x = witness();
            int length = x.length(kind, kind);
            x.make(EMPTY, kind, length);
            due("none at the ends", x.copy(kind, length, EMPTY, length, 0), 0);
            due("none at the first", x.copy(kind, 0, EMPTY, 0, 0), 0);
            due("nothing came", x.size(EMPTY), kind <= 7 ? length : 0);
            due("the last to the first", x.copy(kind, length - 1, EMPTY, 0, 1), 1);
            due("the first to the last", x.copy(kind, 0, EMPTY, length - 1, 1), 1);
            due("all", x.copy(kind, 0, EMPTY, 0, length), length);
            due("alike", x.alike(kind, EMPTY), 1);
            x.make(EMPTY, kind, 0);
            due("none of none", x.copy(EMPTY, 0, EMPTY, 0, 0), 0);
            due("none of none to others", x.copy(EMPTY, 0, kind, length, 0), 0);
            due("one of none", x.copy(EMPTY, 0, kind, 0, 1), against(INDEX));
        }
        PlanCopies y = new PlanCopies();
        y.make(0, 5, 30);
        y.make(15, 5, 30);
        y.fill(0, 5, -1);
        due("all of 30", y.copy(0, 0, 15, 0, 30), 30);
        due("came", y.alike(0, 15), 1);
    }

    private static void copyRefused() {
        says("19: INDEX: i, j or n is below 0, or there are not so many");
        int[][] none = {{-1, 0, 0}, {0, -1, 0}, {0, 0, -1}, {-1, 0, 1}, {0, -1, 1}, {1, 1, -1}, {LEAST, 0, 0},
                {0, LEAST, 0}, {0, 0, LEAST}, {3, 0, 0}, {0, 3, 0}, {MOST, 0, 0}, {0, MOST, 0}, {2, 0, 1}, {0, 2, 1},
                {1, 0, 2}, {0, 1, 2}, {0, 0, 3}, {0, 0, MOST}, {1, 1, MOST}, {2, 2, MOST}, {MOST, 0, 1}, {0, MOST, 1},
                {MOST, MOST, MOST}, {LEAST, 0, LEAST}, {0, LEAST, LEAST}, {MOST, MOST, 2}, {-1, 0, MOST}};
        for (int[] at : none) {
            String what = "copy from " + at[0] + " to " + at[1] + ", " + at[2];
            refused(what, against(INDEX), x -> x.copy(4, at[0], 4, at[1], at[2]));
            refused(what + ", doubles", against(INDEX), x -> x.copy(7, at[0], 7, at[1], at[2]));
            refused(what + ", marked things", against(INDEX), x -> x.copy(9, at[0], 9, at[1], at[2]));
            refused(what + ", rows", against(INDEX), x -> x.copy(11, at[0], 11, at[1], at[2]));
        }
        says("19: NULL: one is NOTHING");
        refused("the first", against(NULL), x -> x.copy(EMPTY, 0, 4, 0, 0));
        refused("the second", against(NULL), x -> x.copy(4, 0, EMPTY, 0, 0));
        refused("both", against(NULL), x -> x.copy(EMPTY, 0, EMPTY, 0, 0));
        refused("the first, ahead of INDEX", against(NULL), x -> x.copy(EMPTY, -1, 4, 0, 0));
        refused("the second, ahead of INDEX", against(NULL), x -> x.copy(4, 0, EMPTY, 0, 31));
        says("19: OUTSIDE");
        columnEdges("copy", (x, column) -> x.copy(column, 0, 0, 0, 0));
        columnEdges("copy to", (x, column) -> x.copy(0, 0, column, 0, 0));
        refused("column 16, ahead of INDEX and NULL", OUTSIDE, x -> x.copy(EMPTY, -1, 16, -1, -1));
    }

    /** Of five items, told by 1 to 5 (marks by the lowest bit of these), n come from i to j: each as it was ahead. */
    private static void dueMoved(int kind, int i, int j, int n, boolean shared) {
        PlanCopies x = new PlanCopies();
        x.make(0, kind, 5);
        for (int at = 0; at < 5; at++) {
            putNumbered(x, kind, at);
        }
        x.share(1, 0);
        due("n", x.copy(0, i, shared ? 1 : 0, j, n), n);
        for (int at = 0; at < 5; at++) {
            int number = at >= j && at < j + n ? at - j + i + 1 : at + 1;
            int want = kind == 0 ? number % 2 : number;
            due("kind " + kind + " from " + i + " to " + j + ", " + n + ": item " + at, numbered(x, kind, at), want);
        }
    }

    private static void putNumbered(PlanCopies x, int kind, int at) {
        if (kind <= 7) {
            x.write(0, kind, at, at + 1);
        } else if (kind <= 9) {
            x.thing(0, at, kind == 9 || at % 2 == 0 ? 1 : 0, at + 1);
        } else {
            x.make(2, ROW_KINDS[kind - 10], at + 1);
            x.row(0, kind, at, 2);
        }
    }

    private static long numbered(PlanCopies x, int kind, int at) {
        if (kind <= 9) {
            return x.read(0, kind, at);
        }
        x.take(2, 0, kind, at);
        return x.length(2, ROW_KINDS[kind - 10]);
    }

    private static void copyWithinOne() {
        says("19: to another one (or the same), as they were ahead");
        for (int kind = 0; kind <= 13; kind++) {
            for (int at = 0; at < 2; at++) {
                boolean shared = at == 1;
                dueMoved(kind, 0, 1, 4, shared);
                dueMoved(kind, 1, 0, 4, shared);
                dueMoved(kind, 0, 0, 5, shared);
                dueMoved(kind, 0, 2, 3, shared);
                dueMoved(kind, 2, 0, 3, shared);
                dueMoved(kind, 3, 1, 2, shared);
                dueMoved(kind, 0, 4, 1, shared);
            }
        }
    }

    private static void copyBetweenKinds() {
        says("19: STORE: they are of two KINDS, one of 0 to 7");
        for (int kind = 0; kind <= 13; kind++) {
            for (int other = 0; other <= 13; other++) {
                int from = kind;
                int to = other;
                String what = "kind " + from + " to " + to;
                if (from != to && Math.min(from, to) <= 7) {
                    refused(what, against(STORE), x -> x.copy(from, 0, to, 0, 1));
                    refused(what + ", none", against(STORE), x -> x.copy(from, 0, to, 0, 0));
                    refused(what + ", ahead of INDEX", against(STORE), x -> x.copy(from, -1, to, 0, 31));
                } else {
                    due(what + ", none", witness().copy(from, 0, to, 0, 0), 0);
                    refused(what + ", -1", against(INDEX), x -> x.copy(from, 0, to, 0, -1));
                }
            }
        }
    }

    private static void copyUpToStore() {
        says("19: STORE at one that can not stand there (NOTHING can)");
        for (int kind = 8; kind <= 13; kind++) {
            for (int other = 8; other <= 13; other++) {
                PlanCopies x = witness();
                x.make(EMPTY, kind, 2);
                due("NOTHING of " + kind + " into " + other, x.copy(EMPTY, 0, other, 0, 2), 2);
                due("nothing is left in " + other, x.size(other), 0);
                int from = kind;
                int to = other;
                boolean fits = kind == other || kind == 9 && other == 8;
                if (!fits) {
                    refused("item of " + kind + " into " + other, against(STORE), w -> w.copy(from, 0, to, 0, 1));
                } else {
                    due("item of " + kind + " into " + other, witness().copy(from, 0, to, 0, 1), 1);
                }
            }
        }
        due("a MARKED one of 8 into 9", witness().copy(8, 1, 9, 1, 1), 1);
        due("of 9 in 12 into 12", witness().copy(12, 1, 12, 2, 1), 1);
        says("19: those ahead of it have come");
        PlanCopies x = new PlanCopies();
        x.make(0, 8, 5);
        x.thing(0, 0, 1, 1);
        x.thing(0, 2, 1, 3);
        x.thing(0, 3, 0, 4);
        x.thing(0, 4, 1, 5);
        x.make(1, 9, 7);
        for (int i = 0; i < 7; i++) {
            x.thing(1, i, 1, 90 + i);
        }
        due("up to the plain one", x.copy(0, 0, 1, 1, 5), against(STORE));
        long[] want = {90, 1, 0, 3, 94, 95, 96};
        for (int i = 0; i < 7; i++) {
            due("item " + i, x.read(1, 9, i), want[i]);
        }
        says("19: INDEX; then, item by item");
        due("one more than there are", x.copy(0, 2, 1, 0, 4), against(INDEX));
        due("none has come", x.read(1, 9, 0), 90);
    }

    private static void fill() {
        says("20: All items become what BITS tell: how many");
        for (int kind = 0; kind <= 7; kind++) {
            PlanCopies x = new PlanCopies();
            x.make(15, kind, 0);
            due("none", x.fill(15, kind, 1), 0);
            x.make(15, kind, 30);
            due("30", x.fill(15, kind, 1), 30);
            due("the first", x.read(15, kind, 0), 1);
            due("the last", x.read(15, kind, 29), 1);
        }
        says("20: CAST, NULL");
        refused("another kind", against(CAST), x -> x.fill(4, 5, 9));
        refused("things", against(CAST), x -> x.fill(8, 4, 9));
        refused("rows", against(CAST), x -> x.fill(10, 4, 9));
        refused("nothing", against(NULL), x -> x.fill(EMPTY, 4, 9));
        says("20: OUTSIDE");
        columnEdges("fill", (x, column) -> x.fill(column, 4, 9));
        kindEdges("fill", 0, 7, (x, kind) -> x.fill(0, kind, 9));
        refused("kind 8 of things", OUTSIDE, x -> x.fill(8, 8, 9));
    }

    // ---- promises 21 and 22

    private static void size() {
        says("21: of NOTHING 0; of none");
        PlanCopies x = new PlanCopies();
        due("nothing", x.size(15), 0);
        for (int kind = 0; kind <= 13; kind++) {
            x.make(15, kind, 0);
            due("none of kind " + kind, x.size(15), 0);
            x.make(15, kind, 30);
            due("30 of kind " + kind, x.size(15), kind <= 7 ? 30 : 0);
        }
        says("21: of 8, 9 its THINGS");
        PlanCopies y = witness();
        due("8", y.size(8), 2);
        due("9", y.size(9), 1);
        says("21: of 10 to 13 those of all its items together (each time that a ROW stands there)");
        due("10", y.size(10), 4);
        due("11", y.size(11), 2);
        due("12", y.size(12), 3);
        due("13", y.size(13), 4 + 2);
        PlanCopies z = new PlanCopies();
        z.make(0, 4, 30);
        z.make(1, 10, 30);
        z.make(2, 13, 30);
        for (int i = 0; i < 30; i++) {
            z.row(1, 10, i, 0);
            z.row(2, 13, i, 1);
        }
        due("30 times 30 times the same 30", z.size(2), 27000);
        says("21: OUTSIDE");
        columnEdges("size", PlanCopies::size);
    }

    private static void alikePlain() {
        says("22: 2 the same TABLE, or both NOTHING");
        PlanCopies x = witness();
        due("both nothing", x.alike(EMPTY, EMPTY), 2);
        x.drop(0);
        due("two that hold nothing", x.alike(0, EMPTY), 2);
        due("the same table", x.alike(4, SHARED), 2);
        due("a table and nothing", x.alike(4, EMPTY), 0);
        due("nothing and a table", x.alike(EMPTY, 4), 0);
        x.make(0, 4, 0);
        due("none and nothing", x.alike(0, EMPTY), 0);
        says("22: 1 TABLES of one KIND (8 and 9 are two), as long");
        for (int kind = 0; kind <= 13; kind++) {
            PlanCopies y = new PlanCopies();
            for (int other = 0; other <= 13; other++) {
                y.make(0, kind, 0);
                y.make(15, other, 0);
                due("none of " + kind + " and of " + other, y.alike(0, 15), kind == other ? 1 : 0);
            }
            y.make(0, kind, 29);
            y.make(15, kind, 30);
            due("29 and 30 of " + kind, y.alike(0, 15), 0);
            due("30 and 29 of " + kind, y.alike(15, 0), 0);
        }
        says("22: with the same BITS of all items");
        for (int kind = 0; kind <= 7; kind++) {
            PlanCopies y = new PlanCopies();
            y.make(0, kind, 30);
            y.make(1, kind, 30);
            y.write(0, kind, 29, 1);
            due("the last one of " + kind + " differs", y.alike(0, 1), 0);
            y.write(1, kind, 29, 1);
            due("none of " + kind + " differs", y.alike(0, 1), 1);
            y.write(0, kind, 0, -1);
            due("the first one of " + kind + " differs", y.alike(0, 1), 0);
        }
        alikeFloats();
        says("22: OUTSIDE");
        columnEdges("alike", (w, column) -> w.alike(column, 0));
        columnEdges("alike to", (w, column) -> w.alike(0, column));
    }

    private static void alikeFloats() {
        long[] lowest = {0x80000000L, Long.MIN_VALUE};
        for (int kind = 6; kind <= 7; kind++) {
            PlanCopies x = new PlanCopies();
            x.make(0, kind, 1);
            x.make(1, kind, 1);
            x.write(0, kind, 0, lowest[kind - 6]);
            due("0 and -0 of " + kind, x.alike(0, 1), 0);
            x.fill(0, kind, -1);
            x.fill(1, kind, kind == 6 ? 0x7F800001L : 0x7FF0000000000001L);
            due("no number and no number of " + kind, x.alike(0, 1), 1);
        }
    }

    private static void alikeItems() {
        says("22: THINGS: the same number, both MARKED or not; NOTHING as NOTHING");
        PlanCopies x = new PlanCopies();
        x.make(0, 8, 2);
        x.make(1, 8, 2);
        due("NOTHING", x.alike(0, 1), 1);
        x.thing(0, 1, 0, 0);
        due("a thing 0 and NOTHING", x.alike(0, 1), 0);
        due("NOTHING and a thing 0", x.alike(1, 0), 0);
        x.thing(1, 1, 1, 0);
        due("plain and marked", x.alike(0, 1), 0);
        x.thing(0, 1, 1, 0);
        due("both marked", x.alike(0, 1), 1);
        x.thing(0, 1, 1, LEAST);
        due("another number", x.alike(0, 1), 0);
        x.make(2, 9, 2);
        x.copy(0, 0, 2, 0, 2);
        due("the same things in 8 and 9", x.alike(0, 2), 0);
        says("22: ROWS likewise");
        for (int kind = 10; kind <= 13; kind++) {
            PlanCopies y = new PlanCopies();
            y.deep(0, kind, 2, 2, 1);
            y.deep(1, kind, 2, 2, 1);
            due("rows of " + kind, y.alike(0, 1), 1);
            y.row(0, kind, 1, 15);
            due("NOTHING and a row of " + kind, y.alike(0, 1), 0);
            due("a row of " + kind + " and NOTHING", y.alike(1, 0), 0);
            y.row(1, kind, 1, 15);
            due("NOTHING and NOTHING of " + kind, y.alike(0, 1), 1);
            y.make(2, ROW_KINDS[kind - 10], 0);
            y.row(1, kind, 1, 2);
            due("NOTHING and a row of none of " + kind, y.alike(0, 1), 0);
            y.row(0, kind, 1, 2);
            due("the same row of " + kind, y.alike(0, 1), 1);
            y.make(2, ROW_KINDS[kind - 10], 1);
            y.row(0, kind, 1, 2);
            due("a longer row of " + kind, y.alike(0, 1), 0);
        }
        alikeDeeper();
    }

    private static void alikeDeeper() {
        PlanCopies x = new PlanCopies();
        x.deep(0, 13, 2, 2, 2);
        x.aside(1, 0);
        x.take(2, 1, 13, 1);
        x.set(2, 10, 1, 1, 1);
        due("the last int differs", x.alike(0, 1), 0);
        x.make(3, 8, 1);
        x.make(4, 9, 1);
        x.make(5, 12, 1);
        x.make(6, 12, 1);
        x.row(5, 12, 0, 3);
        x.row(6, 12, 0, 4);
        due("a row of 8 and a row of 9", x.alike(5, 6), 0);
        x.row(5, 12, 0, 4);
        due("the same row of 9", x.alike(5, 6), 1);
    }

    // ---- promises 23 to 26

    private static void trouble() {
        says("23: TROUBLE t (0 to 7) is there with a number n, or (n is NONE) not");
        PlanCopies x = new PlanCopies();
        for (int t = 0; t < 8; t++) {
            due("none yet", x.trouble(t, t), NONE);
        }
        for (int t = 0; t < 8; t++) {
            due("the number that it had", x.trouble(t, MOST), t);
            due("most", x.trouble(t, NONE), MOST);
            due("none", x.trouble(t, 0), NONE);
            due("0", x.trouble(t, NONE), 0);
            due("not there", x.raise(t, 1), against(NULL));
        }
        says("23: OUTSIDE: t, n below NONE");
        int[] none = {-1, 8, LEAST, MOST};
        for (int t : none) {
            refused("t " + t, OUTSIDE, w -> w.trouble(t, 5));
            refused("t " + t + ", NONE", OUTSIDE, w -> w.trouble(t, NONE));
        }
        refused("n -2", OUTSIDE, w -> w.trouble(2, -2));
        refused("n least", OUTSIDE, w -> w.trouble(7, LEAST));
    }

    private static void raise() {
        says("24: OWN; NULL: TROUBLE t is not there");
        for (int frames = 1; frames <= 8; frames++) {
            PlanCopies x = witness();
            due("number 22", x.raise(2, frames), against(OWN));
            due("number 0", x.raise(7, frames), against(OWN));
            due("not there", x.raise(0, frames), against(NULL));
            x.trouble(7, MOST);
            due("number most", x.raise(7, frames), against(OWN));
            x.trouble(7, NONE);
            due("not there any more", x.raise(7, frames), against(NULL));
        }
        says("24: OUTSIDE");
        int[] none = {-1, 8, LEAST, MOST};
        for (int t : none) {
            refused("t " + t, OUTSIDE, x -> x.raise(t, 1));
        }
        int[] noFrames = {0, 9, -1, LEAST, MOST};
        for (int frames : noFrames) {
            refused("frames " + frames, OUTSIDE, x -> x.raise(7, frames));
            refused("frames " + frames + ", not there", OUTSIDE, x -> x.raise(0, frames));
        }
    }

    private static void passed() {
        says("25: the figures that were put, as one number; 0 before");
        due("before", new PlanCopies().passed(), 0);
        int[] want = {1, 21, 321, 4321, 54321, 654321, 7654321, 87654321};
        PlanCopies x = new PlanCopies();
        x.trouble(0, 5);
        for (int frames = 8; frames >= 1; frames--) {
            x.raise(0, frames);
            due("OWN, " + frames, x.passed(), want[frames - 1]);
            x.raise(1, 9 - frames);
            due("NULL, " + (9 - frames), x.passed(), want[8 - frames]);
        }
        says("25: Of the latest raise(), a refused one changes nothing");
        x.raise(0, 9);
        x.raise(8, 1);
        due("refused", x.passed(), 87654321);
    }

    private static void number() {
        says("26: the number of the TROUBLE, if it was OWN; NONE");
        PlanCopies x = new PlanCopies();
        due("before", x.number(), NONE);
        x.trouble(0, 0);
        x.trouble(7, MOST);
        due("ahead of raise()", x.number(), NONE);
        x.raise(0, 8);
        due("0", x.number(), 0);
        x.raise(7, 1);
        due("most", x.number(), MOST);
        x.raise(6, 1);
        due("NULL", x.number(), NONE);
        says("26: Of the latest raise()");
        x.raise(7, 1);
        x.raise(6, 9);
        x.raise(8, 1);
        due("refused ones change nothing", x.number(), MOST);
        x.trouble(7, NONE);
        due("of the raise(), not of now", x.number(), MOST);
    }

    // ---- promises 27 to 29

    private static void fault() {
        says("27: 0: none, or ahead of any");
        PlanCopies x = new PlanCopies();
        due("ahead of any", x.fault(), 0);
        x.make(0, 4, 1);
        x.length(0, 5);
        x.write(1, 4, 0, 0);
        x.set(0, 10, 0, 0, 0);
        x.marked(0, 0);
        x.raise(0, 1);
        x.make(0, 4, 31);
        due("other calls have none", x.fault(), 0);
        says("27: Of the latest read(), cell(), deepest(): its FAULT; OUTSIDE");
        x.read(0, 4, 1);
        due("read", x.fault(), INDEX);
        x.cell(0, 10, 0, 0);
        due("cell", x.fault(), CAST);
        x.deepest(1, 0, 0, 0);
        due("deepest", x.fault(), NULL);
        x.read(0, 10, 0);
        due("read, outside", x.fault(), OUTSIDE);
        x.read(0, 4, 0);
        due("read, none", x.fault(), 0);
        x.cell(0, 9, 0, 0);
        due("cell, outside", x.fault(), OUTSIDE);
        x.deep(2, 13, 1, 1, 1);
        due("still, after another call", x.fault(), OUTSIDE);
        x.deepest(2, 0, 0, 0);
        due("deepest, none", x.fault(), 0);
        x.deepest(16, 0, 0, 0);
        due("deepest, outside", x.fault(), OUTSIDE);
        due("told twice", x.fault(), OUTSIDE);
        x.take(3, 2, 13, 0);
        x.cell(3, 10, 0, 0);
        due("cell, none", x.fault(), 0);
    }

    private static void clear() {
        says("28: how many COLUMNS held a TABLE");
        PlanCopies x = new PlanCopies();
        due("none", x.clear(), 0);
        for (int column = 0; column < 16; column++) {
            x.make(column, column % 14, 0);
        }
        due("all", x.clear(), 16);
        due("again", x.clear(), 0);
        x.make(0, 4, 1);
        x.share(15, 0);
        due("the same one twice", x.clear(), 2);
        says("28: All is as at the beginning (but what was made ever)");
        PlanCopies y = witness();
        int items = y.told(1);
        int things = y.told(2);
        due("clear", y.clear(), 15);
        due("items", y.told(1), items);
        due("things", y.told(2), things);
        due("columns", y.told(0), 0);
        due("passed", y.passed(), 0);
        due("number", y.number(), NONE);
        due("fault", y.fault(), 0);
        for (int column = 0; column < 16; column++) {
            due("kind of " + column, y.kind(column), NONE);
        }
        for (int t = 0; t < 8; t++) {
            due("trouble " + t, y.trouble(t, NONE), NONE);
        }
        PlanCopies z = fullWitness();
        z.clear();
        due("still full", z.make(0, 4, 1), FULL);
    }

    private static void told() {
        says("29: 0 COLUMNS that hold a TABLE");
        PlanCopies x = new PlanCopies();
        for (int column = 0; column < 16; column++) {
            due("told", x.told(0), column);
            x.make(column, 4, 0);
        }
        due("all", x.told(0), 16);
        x.drop(15);
        due("one less", x.told(0), 15);
        says("29: 1 items made ever (of each TABLE, each ROW that make(), deep(), grow(), aside() made)");
        PlanCopies y = new PlanCopies();
        y.make(0, 10, 30);
        due("make", y.told(1), 30);
        y.deep(1, 13, 2, 3, 4);
        due("deep", y.told(1), 30 + 2 + 6 + 24);
        y.grow(0, 5);
        due("grow", y.told(1), 62 + 5);
        y.aside(2, 1);
        due("aside", y.told(1), 67 + 32);
        y.take(3, 1, 13, 0);
        y.row(0, 10, 0, 15);
        y.share(4, 1);
        y.copy(1, 0, 2, 0, 2);
        y.clear();
        due("by nothing else, and for ever", y.told(1), 99);
        says("29: 2 THINGS made ever");
        y.make(0, 8, 1);
        y.thing(0, 0, 0, 0);
        y.thing(0, 0, 1, 0);
        y.thing(0, 0, 2, 0);
        y.drop(0);
        due("things", y.told(2), 2);
        says("29: OUTSIDE");
        int[] none = {-1, 3, LEAST, MOST};
        for (int what : none) {
            refused("told " + what, OUTSIDE, w -> w.told(what));
        }
    }
}
