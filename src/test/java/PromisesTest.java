/** Each promise of the document by hand: ordinary inputs, the edges that it names, wrong inputs. */
public final class PromisesTest {
    private static final int NONE = -1, OUTSIDE = -2, FULL = -3;
    private static final int NULL = -11, CAST = -12, INDEX = -13, SIZE = -14, STORE = -15, OWN = -16;
    private static final int[] NO_COLUMNS = {-1, 16, Integer.MIN_VALUE, Integer.MAX_VALUE};

    private static int wrong = 0;
    private static int promise = 0;

    private static void due(String what, long got, long want) {
        if (got != want) {
            wrong++;
            System.out.println("promise " + promise + ": " + what + " answered " + got + ", due is " + want);
        }
    }

    private static void dueBits(String what, PlanCopies x, long got, long want) {
        due(what, got, want);
        due(what + ", fault()", x.fault(), 0);
    }

    private static void dueFault(String what, PlanCopies x, long got, int fault) {
        due(what, got, 0);
        due(what + ", fault()", x.fault(), fault);
    }

    public static void main(String[] args) {
        promise = 1;
        newObject();
        promise = 2;
        make();
        promise = 3;
        deep();
        promise = 4;
        share();
        promise = 5;
        aside();
        asideOfSharedRows();
        promise = 6;
        drop();
        promise = 7;
        kind();
        promise = 8;
        length();
        promise = 9;
        read();
        promise = 10;
        write();
        promise = 11;
        thing();
        thingsFull();
        promise = 12;
        marked();
        promise = 13;
        cell();
        promise = 14;
        set();
        promise = 15;
        deepest();
        promise = 16;
        row();
        promise = 17;
        take();
        promise = 18;
        grow();
        promise = 19;
        copyPlain();
        copyItems();
        copyRows();
        promise = 20;
        fill();
        promise = 21;
        size();
        promise = 22;
        alike();
        promise = 23;
        trouble();
        promise = 24;
        raise();
        promise = 25;
        passed();
        promise = 26;
        number();
        promise = 27;
        fault();
        promise = 28;
        clear();
        promise = 29;
        told();
        System.out.println(wrong == 0 ? "all promises are kept" : wrong + " answers are not as due");
        if (wrong != 0) {
            System.exit(1);
        }
    }

    /** An object whose 6000 items are made. */
    private static PlanCopies full() {
        PlanCopies x = new PlanCopies();
        for (int call = 0; call < 200; call++) {
            due("make below 6000", x.make(15, 4, 30), 1);
        }
        due("items made", x.told(1), 6000);
        x.drop(15);
        return x;
    }

    private static void newObject() {
        PlanCopies x = new PlanCopies();
        for (int column = 0; column < 16; column++) {
            due("kind of a new column", x.kind(column), NONE);
        }
        for (int t = 0; t < 8; t++) {
            due("raise of a new trouble", x.raise(t, 1), NULL);
            due("a new trouble", x.trouble(t, NONE), NONE);
        }
        PlanCopies y = new PlanCopies();
        due("passed", y.passed(), 0);
        due("number", y.number(), NONE);
        due("fault", y.fault(), 0);
        for (int what = 0; what < 3; what++) {
            due("told", y.told(what), 0);
        }
    }

    private static void make() {
        PlanCopies x = new PlanCopies();
        for (int kind = 0; kind <= 13; kind++) {
            due("make", x.make(kind, kind, kind), 1);
            due("its kind", x.kind(kind), kind);
            due("its length", x.length(kind, kind), kind);
        }
        for (int kind = 1; kind <= 7; kind++) {
            dueBits("item of kind " + kind, x, x.read(kind, kind, kind - 1), 0);
        }
        for (int kind = 8; kind <= 9; kind++) {
            dueFault("thing of kind " + kind, x, x.read(kind, kind, 0), 1);
        }
        for (int kind = 10; kind <= 12; kind++) {
            dueFault("row of kind " + kind, x, x.cell(kind, kind, 0, 0), 1);
        }
        due("30 items", x.make(0, 0, 30), 1);
        due("31 items", x.make(0, 0, 31), OUTSIDE);
        due("most items", x.make(0, 0, Integer.MAX_VALUE), OUTSIDE);
        due("no items", x.make(1, 4, 0), 1);
        due("length of none", x.length(1, 4), 0);
        due("-1 items", x.make(0, 4, -1), SIZE);
        due("fewest items", x.make(0, 4, Integer.MIN_VALUE), SIZE);
        due("kind -1", x.make(0, -1, 1), OUTSIDE);
        due("kind 14", x.make(0, 14, 1), OUTSIDE);
        due("kind 14, no size", x.make(0, 14, -1), OUTSIDE);
        due("what is refused changes nothing", x.length(0, 0), 30);
        for (int column : NO_COLUMNS) {
            due("no column", x.make(column, 4, 1), OUTSIDE);
        }
        makeFull();
    }

    private static void makeFull() {
        PlanCopies x = full();
        due("make when full", x.make(0, 4, 1), FULL);
        due("none when full", x.make(0, 4, 0), FULL);
        due("size when full", x.make(0, 4, -1), FULL);
        due("outside when full", x.make(0, 4, 31), OUTSIDE);
        due("nothing was made", x.kind(0), NONE);
        PlanCopies y = new PlanCopies();
        for (int call = 0; call < 199; call++) {
            y.make(0, 4, 30);
        }
        y.make(0, 4, 29);
        due("at 5999", y.told(1), 5999);
        due("beyond 6000", y.make(0, 4, 30), 1);
        due("at 6029", y.told(1), 6029);
        due("after that", y.make(0, 4, 1), FULL);
    }

    private static void deep() {
        PlanCopies x = new PlanCopies();
        due("rows of ints", x.deep(0, 10, 2, 3, 99), 1);
        due("rows of doubles", x.deep(1, 11, 2, 3, -99), 1);
        due("rows of things", x.deep(2, 12, 2, 3, Integer.MIN_VALUE), 1);
        due("tables of rows", x.deep(3, 13, 2, 3, 4), 1);
        due("items", x.told(1), 3 * 8 + 2 + 6 + 24);
        due("kind 10", x.kind(0), 10);
        dueBits("an int", x, x.cell(0, 10, 1, 2), 0);
        dueBits("a double", x, x.cell(1, 11, 1, 2), 0);
        dueFault("a thing", x, x.cell(2, 12, 1, 2), 1);
        dueBits("deepest", x, x.deepest(3, 1, 2, 3), 0);
        dueFault("beyond", x, x.deepest(3, 1, 2, 4), 3);
        x.take(4, 2, 12, 0);
        due("rows of things are of kind 8", x.kind(4), 8);
        x.set(0, 10, 0, 0, 5);
        due("each row is its own", x.cell(0, 10, 1, 0), 0);
        deepNumbers();
    }

    private static void deepNumbers() {
        PlanCopies x = new PlanCopies();
        due("400", x.deep(0, 10, 20, 20, 0), 1);
        due("401 and more", x.deep(0, 10, 21, 20, 0), OUTSIDE);
        due("400 of 13", x.deep(0, 13, 20, 20, 1), 1);
        due("800 of 13", x.deep(0, 13, 20, 20, 2), OUTSIDE);
        due("30 * 30 * 0", x.deep(0, 13, 30, 30, 0), 1);
        due("n 31", x.deep(0, 10, 31, 0, 0), OUTSIDE);
        due("m 31", x.deep(0, 10, 0, 31, 0), OUTSIDE);
        due("l 31", x.deep(0, 13, 0, 0, 31), OUTSIDE);
        due("l 31 of 12", x.deep(0, 12, 0, 0, 31), 1);
        due("n below", x.deep(0, 10, -1, 3, 0), SIZE);
        due("m below", x.deep(0, 10, 0, -1, 0), SIZE);
        due("l below", x.deep(0, 13, 0, 0, -1), SIZE);
        due("l below of 30 * 30", x.deep(0, 13, 30, 30, -1), SIZE);
        due("two below", x.deep(0, 13, -30, -30, 30), SIZE);
        due("below and above", x.deep(0, 10, -1, 31, 0), OUTSIDE);
        due("least", x.deep(0, 13, Integer.MIN_VALUE, Integer.MIN_VALUE, 1), SIZE);
        due("most", x.deep(0, 13, Integer.MAX_VALUE, 1, 1), OUTSIDE);
        due("kind 9", x.deep(0, 9, 1, 1, 1), OUTSIDE);
        due("kind 14", x.deep(0, 14, 1, 1, 1), OUTSIDE);
        due("it stayed", x.kind(0), 12);
        for (int column : NO_COLUMNS) {
            due("no column", x.deep(column, 10, 1, 1, 0), OUTSIDE);
        }
        PlanCopies y = full();
        due("full", y.deep(0, 10, 1, 1, 0), FULL);
        due("full ahead of size", y.deep(0, 10, 1, -1, 0), FULL);
        due("outside ahead of full", y.deep(0, 10, 31, 1, 0), OUTSIDE);
    }

    private static void share() {
        PlanCopies x = new PlanCopies();
        x.make(0, 4, 2);
        due("share", x.share(1, 0), 1);
        x.write(1, 4, 0, 6);
        due("the same table", x.read(0, 4, 0), 6);
        due("with itself", x.share(0, 0), 1);
        due("still there", x.kind(0), 4);
        due("nothing", x.share(1, 9), 1);
        due("holds nothing", x.kind(1), NONE);
        for (int column : NO_COLUMNS) {
            due("no column", x.share(column, 0), OUTSIDE);
            due("from no column", x.share(0, column), OUTSIDE);
        }
        due("as it was", x.kind(0), 4);
        due("nothing made", x.told(1), 2);
    }

    private static void aside() {
        PlanCopies x = new PlanCopies();
        x.make(0, 5, 2);
        x.write(0, 5, 1, Long.MIN_VALUE);
        due("aside", x.aside(1, 0), 1);
        due("like it", x.alike(0, 1), 1);
        due("its item", x.read(1, 5, 1), Long.MIN_VALUE);
        x.write(1, 5, 0, 3);
        due("its own", x.read(0, 5, 0), 0);
        due("counted", x.told(1), 4);
        x.make(2, 9, 1);
        x.thing(2, 0, 1, 77);
        due("of things", x.aside(3, 2), 1);
        due("kind stays", x.kind(3), 9);
        due("the thing", x.read(3, 9, 0), 77);
        due("no thing was made", x.told(2), 1);
        due("onto itself", x.aside(0, 0), 1);
        due("onto itself, kind", x.kind(0), 5);
        due("of nothing", x.aside(0, 14), 1);
        due("nothing", x.kind(0), NONE);
        for (int column : NO_COLUMNS) {
            due("no column", x.aside(column, 1), OUTSIDE);
            due("from no column", x.aside(1, column), OUTSIDE);
        }
        PlanCopies y = full();
        due("full", y.aside(0, 1), FULL);
        due("outside ahead of full", y.aside(16, 1), OUTSIDE);
    }

    private static void asideOfSharedRows() {
        PlanCopies x = new PlanCopies();
        x.make(0, 4, 5);
        x.make(1, 10, 3);
        x.row(1, 10, 0, 0);
        x.row(1, 10, 2, 0);
        x.make(2, 10, 1);
        x.row(2, 10, 0, 0);
        x.make(3, 13, 4);
        x.row(3, 13, 0, 1);
        x.row(3, 13, 1, 2);
        x.row(3, 13, 2, 1);
        int made = x.told(1);
        due("aside", x.aside(4, 3), 1);
        due("each row made once", x.told(1) - made, 4 + 3 + 1 + 5);
        due("alike", x.alike(3, 4), 1);
        x.take(5, 4, 13, 1);
        x.set(5, 10, 0, 4, 9);
        due("shared across rows", x.deepest(4, 0, 2, 4), 9);
        due("shared in the same row", x.deepest(4, 2, 0, 4), 9);
        due("old one is as it was", x.read(0, 4, 4), 0);
        due("again", x.aside(6, 3), 1);
        due("new once more", x.deepest(6, 0, 0, 4), 0);
        x.take(7, 4, 13, 0);
        x.take(8, 4, 13, 2);
        due("the same row", x.alike(7, 8), 2);
        x.make(9, 12, 2);
        x.make(10, 9, 1);
        x.thing(10, 0, 1, 8);
        x.row(9, 12, 0, 10);
        x.aside(11, 9);
        x.take(12, 11, 12, 0);
        due("a row of marked things stays one", x.kind(12), 9);
        due("new row", x.alike(10, 12), 1);
    }

    private static void drop() {
        PlanCopies x = new PlanCopies();
        x.make(15, 4, 1);
        x.share(0, 15);
        due("drop", x.drop(15), 1);
        due("dropped", x.kind(15), NONE);
        due("the other holds it", x.kind(0), 4);
        due("drop again", x.drop(15), 0);
        for (int column : NO_COLUMNS) {
            due("no column", x.drop(column), OUTSIDE);
        }
    }

    private static void kind() {
        PlanCopies x = new PlanCopies();
        for (int kind = 0; kind <= 13; kind++) {
            due("none yet", x.kind(kind), NONE);
            x.make(kind, kind, 0);
            due("kind", x.kind(kind), kind);
        }
        for (int column : NO_COLUMNS) {
            due("no column", x.kind(column), OUTSIDE);
        }
    }

    private static void length() {
        PlanCopies x = new PlanCopies();
        for (int kind = 0; kind <= 13; kind++) {
            x.make(0, kind, 7);
            for (int taken = 0; taken <= 13; taken++) {
                boolean fits = taken == kind || (taken == 8 && kind == 9);
                due("kind " + kind + " for " + taken, x.length(0, taken), fits ? 7 : CAST);
            }
        }
        due("nothing", x.length(1, 13), NULL);
        due("kind -1", x.length(0, -1), OUTSIDE);
        due("kind 14", x.length(1, 14), OUTSIDE);
        for (int column : NO_COLUMNS) {
            due("no column", x.length(column, 4), OUTSIDE);
        }
    }

    private static void read() {
        PlanCopies x = new PlanCopies();
        x.make(0, 8, 3);
        x.make(1, 9, 1);
        x.thing(0, 1, 0, Integer.MIN_VALUE);
        x.thing(1, 0, 1, -4);
        dueBits("a thing", x, x.read(0, 8, 1), Integer.MIN_VALUE);
        dueBits("a marked thing", x, x.read(1, 9, 0), -4);
        dueBits("a marked thing as a thing", x, x.read(1, 8, 0), -4);
        dueFault("a thing as a marked one", x, x.read(0, 9, 1), 2);
        dueFault("no thing", x, x.read(0, 8, 0), 1);
        dueFault("below", x, x.read(0, 8, -1), 3);
        dueFault("above", x, x.read(0, 8, 3), 3);
        dueFault("far above", x, x.read(0, 8, Integer.MAX_VALUE), 3);
        dueFault("another kind ahead of the index", x, x.read(0, 4, 9), 2);
        dueFault("nothing ahead of the index", x, x.read(2, 4, 9), 1);
        dueFault("kind 10", x, x.read(0, 10, 0), OUTSIDE);
        dueFault("kind -1", x, x.read(0, -1, 0), OUTSIDE);
        for (int column : NO_COLUMNS) {
            dueFault("no column", x, x.read(column, 4, 0), OUTSIDE);
        }
        dueBits("after a fault", x, x.read(0, 8, 1), Integer.MIN_VALUE);
    }

    private static long written(int kind, long bits) {
        PlanCopies x = new PlanCopies();
        x.make(3, kind, 3);
        due("write", x.write(3, kind, 1, bits), 1);
        due("ahead of it", x.read(3, kind, 0), 0);
        due("behind it", x.read(3, kind, 2), 0);
        return x.read(3, kind, 1);
    }

    private static void write() {
        due("mark 1", written(0, -1), 1);
        due("mark 2", written(0, 2), 0);
        due("byte 127", written(1, 127), 127);
        due("byte 128", written(1, 128), -128);
        due("byte 256", written(1, 256), 0);
        due("short 32768", written(2, 32768), -32768);
        due("short 65535", written(2, 65535), -1);
        due("code -1", written(3, -1), 65535);
        due("code 65536", written(3, 65536 + 97), 97);
        due("int", written(4, 0x1_8000_0000L), Integer.MIN_VALUE);
        due("long", written(5, Long.MIN_VALUE + 1), Long.MIN_VALUE + 1);
        writeFloats();
        PlanCopies x = new PlanCopies();
        x.make(0, 4, 2);
        x.make(1, 8, 2);
        due("another kind ahead of the index", x.write(0, 5, 9, 1), CAST);
        due("things", x.write(1, 4, 0, 1), CAST);
        due("nothing ahead of the index", x.write(2, 4, 9, 1), NULL);
        due("below", x.write(0, 4, -1, 1), INDEX);
        due("above", x.write(0, 4, 2, 1), INDEX);
        due("kind 8", x.write(1, 8, 0, 1), OUTSIDE);
        due("kind -1", x.write(0, -1, 0, 1), OUTSIDE);
        for (int column : NO_COLUMNS) {
            due("no column", x.write(column, 4, 0, 1), OUTSIDE);
        }
        due("it stayed", x.read(0, 4, 0), 0);
    }

    private static void writeFloats() {
        due("float 1", written(6, 0x3F800000L), 0x3F800000L);
        due("float -0", written(6, 0x80000000L), Integer.MIN_VALUE);
        due("float infinity", written(6, 0x7F800000L), 0x7F800000L);
        due("float -infinity", written(6, 0xFF800000L), (int) 0xFF800000);
        due("float no number", written(6, 0x7F800001L), 0x7FC00000L);
        due("float no number, below", written(6, 0xFFFFFFFFL), 0x7FC00000L);
        due("float by the lowest bits", written(6, 0x5_3F800000L), 0x3F800000L);
        due("double 1", written(7, 0x3FF0000000000000L), 0x3FF0000000000000L);
        due("double -0", written(7, Long.MIN_VALUE), Long.MIN_VALUE);
        due("double infinity", written(7, 0x7FF0000000000000L), 0x7FF0000000000000L);
        due("double -infinity", written(7, 0xFFF0000000000000L), 0xFFF0000000000000L);
        due("double no number", written(7, 0x7FF0000000000001L), 0x7FF8000000000000L);
        due("double no number, below", written(7, -1), 0x7FF8000000000000L);
    }

    private static void thing() {
        PlanCopies x = new PlanCopies();
        x.make(0, 8, 2);
        x.make(1, 9, 2);
        x.make(2, 4, 2);
        due("plain", x.thing(0, 0, 0, 5), 1);
        due("marked", x.thing(0, 1, 1, -6), 1);
        due("plain, read", x.read(0, 8, 0), 5);
        due("marked, read", x.read(0, 8, 1), -6);
        due("plain, marked()", x.marked(0, 0), 0);
        due("marked, marked()", x.marked(0, 1), 1);
        due("marked into 9", x.thing(1, 0, 1, 7), 1);
        due("plain into 9", x.thing(1, 0, 0, 8), STORE);
        due("it stayed", x.read(1, 9, 0), 7);
        due("index ahead of store", x.thing(1, 2, 0, 8), INDEX);
        due("below", x.thing(0, -1, 0, 8), INDEX);
        due("cast", x.thing(2, 9, 0, 8), CAST);
        due("null", x.thing(3, 9, 0, 8), NULL);
        due("made, though faults came", x.told(2), 8);
        due("nothing", x.thing(1, 0, 2, 8), 1);
        dueFault("nothing there", x, x.read(1, 9, 0), 1);
        due("nothing, index", x.thing(1, 2, 2, 8), INDEX);
        due("nothing, cast", x.thing(2, 0, 2, 8), CAST);
        due("nothing, null", x.thing(3, 0, 2, 8), NULL);
        due("marked -1", x.thing(0, 0, -1, 8), OUTSIDE);
        due("marked 3", x.thing(0, 0, 3, 8), OUTSIDE);
        for (int column : NO_COLUMNS) {
            due("no column", x.thing(column, 0, 0, 8), OUTSIDE);
        }
        due("nothing more was made", x.told(2), 8);
    }

    /** 3000 things take more than 512 calls, where answers are free: the class keeps its limit even so. */
    private static void thingsFull() {
        PlanCopies x = new PlanCopies();
        x.make(0, 8, 1);
        for (int call = 0; call < 3000; call++) {
            due("below 3000", x.thing(0, 0, call % 2, call), 1);
        }
        due("plain when full", x.thing(0, 0, 0, 0), FULL);
        due("marked when full, ahead of faults", x.thing(1, 9, 1, 0), FULL);
        due("outside when full", x.thing(0, 0, 3, 0), OUTSIDE);
        due("things", x.told(2), 3000);
        due("it stayed", x.read(0, 8, 0), 2999);
        due("nothing", x.thing(0, 0, 2, 0), 1);
    }

    private static void marked() {
        PlanCopies x = new PlanCopies();
        x.make(0, 8, 3);
        x.thing(0, 1, 0, 5);
        x.thing(0, 2, 1, 5);
        due("of nothing", x.marked(0, 0), 0);
        due("of a plain one", x.marked(0, 1), 0);
        due("of a marked one", x.marked(0, 2), 1);
        x.make(1, 9, 1);
        due("of nothing of 9", x.marked(1, 0), 0);
        x.thing(1, 0, 1, 5);
        due("of a marked one of 9", x.marked(1, 0), 1);
        due("below", x.marked(0, -1), INDEX);
        due("above", x.marked(0, 3), INDEX);
        x.make(2, 12, 1);
        due("cast", x.marked(2, 5), CAST);
        due("null", x.marked(3, 5), NULL);
        for (int column : NO_COLUMNS) {
            due("no column", x.marked(column, 0), OUTSIDE);
        }
    }

    private static void cell() {
        PlanCopies x = new PlanCopies();
        x.deep(0, 10, 2, 3, 0);
        x.deep(1, 11, 2, 3, 0);
        x.deep(2, 12, 2, 3, 0);
        x.set(0, 10, 1, 2, -8);
        x.set(1, 11, 1, 0, Long.MIN_VALUE);
        x.take(3, 2, 12, 1);
        x.thing(3, 2, 0, -9);
        dueBits("an int", x, x.cell(0, 10, 1, 2), -8);
        dueBits("a double", x, x.cell(1, 11, 1, 0), Long.MIN_VALUE);
        dueBits("a thing", x, x.cell(2, 12, 1, 2), -9);
        dueFault("no thing", x, x.cell(2, 12, 1, 1), 1);
        dueFault("i below", x, x.cell(0, 10, -1, 0), 3);
        dueFault("i above", x, x.cell(0, 10, 2, 0), 3);
        dueFault("j below", x, x.cell(0, 10, 0, -1), 3);
        dueFault("j above", x, x.cell(0, 10, 0, 3), 3);
        x.row(0, 10, 0, 15);
        dueFault("no row, ahead of j", x, x.cell(0, 10, 0, 3), 1);
        dueFault("cast ahead of i", x, x.cell(0, 11, 9, 0), 2);
        dueFault("null ahead of i", x, x.cell(15, 11, 9, 0), 1);
        dueFault("kind 9", x, x.cell(0, 9, 0, 0), OUTSIDE);
        dueFault("kind 13", x, x.cell(0, 13, 0, 0), OUTSIDE);
        for (int column : NO_COLUMNS) {
            dueFault("no column", x, x.cell(column, 10, 0, 0), OUTSIDE);
        }
        dueBits("after a fault", x, x.cell(0, 10, 1, 2), -8);
    }

    private static void set() {
        PlanCopies x = new PlanCopies();
        x.deep(0, 10, 2, 3, 0);
        x.deep(1, 11, 2, 3, 0);
        x.deep(2, 12, 2, 3, 0);
        due("an int", x.set(0, 10, 0, 1, 0x7_FFFF_FFFFL), 1);
        due("by the lowest bits", x.cell(0, 10, 0, 1), -1);
        due("a double", x.set(1, 11, 1, 2, 0x7FF0000000000009L), 1);
        due("no number", x.cell(1, 11, 1, 2), 0x7FF8000000000000L);
        due("i below", x.set(0, 10, -1, 0, 1), INDEX);
        due("i above", x.set(0, 10, 2, 0, 1), INDEX);
        due("j below", x.set(0, 10, 0, -1, 1), INDEX);
        due("j above", x.set(0, 10, 0, 3, 1), INDEX);
        x.row(0, 10, 0, 15);
        due("no row, ahead of j", x.set(0, 10, 0, 3, 1), NULL);
        due("cast ahead of i", x.set(0, 11, 9, 0, 1), CAST);
        due("null ahead of i", x.set(15, 11, 9, 0, 1), NULL);
        due("kind 9", x.set(0, 9, 0, 0, 1), OUTSIDE);
        due("kind 12", x.set(2, 12, 0, 0, 1), OUTSIDE);
        for (int column : NO_COLUMNS) {
            due("no column", x.set(column, 10, 0, 0, 1), OUTSIDE);
        }
    }

    private static void deepest() {
        PlanCopies x = new PlanCopies();
        x.deep(0, 13, 2, 3, 4);
        x.take(1, 0, 13, 1);
        x.set(1, 10, 2, 3, 55);
        dueBits("an int", x, x.deepest(0, 1, 2, 3), 55);
        dueFault("i below", x, x.deepest(0, -1, 0, 0), 3);
        dueFault("i above", x, x.deepest(0, 2, 0, 0), 3);
        dueFault("j below", x, x.deepest(0, 0, -1, 0), 3);
        dueFault("j above", x, x.deepest(0, 0, 3, 0), 3);
        dueFault("k below", x, x.deepest(0, 0, 0, -1), 3);
        dueFault("k above", x, x.deepest(0, 0, 0, 4), 3);
        x.row(1, 10, 0, 15);
        dueFault("no row, ahead of k", x, x.deepest(0, 1, 0, 4), 1);
        x.row(0, 13, 0, 15);
        dueFault("no rows, ahead of j", x, x.deepest(0, 0, 3, 0), 1);
        dueFault("cast ahead of i", x, x.deepest(1, 9, 0, 0), 2);
        dueFault("null ahead of i", x, x.deepest(15, 9, 0, 0), 1);
        for (int column : NO_COLUMNS) {
            dueFault("no column", x, x.deepest(column, 0, 0, 0), OUTSIDE);
        }
        dueBits("after a fault", x, x.deepest(0, 1, 2, 3), 55);
    }

    private static void row() {
        PlanCopies x = new PlanCopies();
        for (int kind = 0; kind <= 13; kind++) {
            x.make(kind, kind, 2);
        }
        for (int kind = 10; kind <= 13; kind++) {
            for (int from = 0; from <= 13; from++) {
                boolean fits = kind == 10 && from == 4 || kind == 11 && from == 7
                        || kind == 12 && (from == 8 || from == 9) || kind == 13 && from == 10;
                due("row of " + kind + " from " + from, x.row(kind, kind, 1, from), fits ? 1 : CAST);
                if (fits) {
                    x.take(14, kind, kind, 1);
                    due("the same table", x.alike(14, from), 2);
                }
            }
            due("nothing into " + kind, x.row(kind, kind, 1, 15), 1);
            x.take(14, kind, kind, 1);
            due("nothing there", x.kind(14), NONE);
        }
        due("below", x.row(10, 10, -1, 4), INDEX);
        due("above", x.row(10, 10, 2, 4), INDEX);
        due("cast of the column", x.row(10, 11, 9, 7), CAST);
        due("cast of the other ahead of null", x.row(15, 10, 9, 7), CAST);
        due("cast of the other ahead of index", x.row(10, 10, 9, 7), CAST);
        due("null", x.row(15, 10, 9, 4), NULL);
        due("kind 9", x.row(9, 9, 0, 4), OUTSIDE);
        due("kind 14", x.row(10, 14, 0, 4), OUTSIDE);
        for (int column : NO_COLUMNS) {
            due("no column", x.row(column, 10, 0, 4), OUTSIDE);
            due("from no column", x.row(10, 10, 0, column), OUTSIDE);
        }
    }

    private static void take() {
        PlanCopies x = new PlanCopies();
        x.deep(0, 10, 2, 3, 0);
        due("take", x.take(1, 0, 10, 1), 1);
        x.write(1, 4, 2, 6);
        due("the same table", x.cell(0, 10, 1, 2), 6);
        x.deep(2, 13, 1, 2, 3);
        due("rows", x.take(3, 2, 13, 0), 1);
        due("of kind 10", x.kind(3), 10);
        due("onto itself", x.take(2, 2, 13, 0), 1);
        due("the same rows", x.alike(2, 3), 2);
        x.make(4, 12, 1);
        due("nothing", x.take(1, 4, 12, 0), 1);
        due("holds nothing", x.kind(1), NONE);
        x.share(1, 0);
        due("below", x.take(1, 0, 10, -1), INDEX);
        due("above", x.take(1, 0, 10, 2), INDEX);
        due("cast ahead of index", x.take(1, 0, 11, 9), CAST);
        due("null ahead of index", x.take(1, 15, 11, 9), NULL);
        due("kind 9", x.take(1, 0, 9, 0), OUTSIDE);
        due("kind 14", x.take(1, 0, 14, 0), OUTSIDE);
        for (int column : NO_COLUMNS) {
            due("no column", x.take(column, 0, 10, 0), OUTSIDE);
            due("from no column", x.take(1, column, 10, 0), OUTSIDE);
        }
        due("it stayed", x.alike(0, 1), 2);
    }

    private static void grow() {
        PlanCopies x = new PlanCopies();
        x.make(0, 1, 2);
        x.write(0, 1, 1, -3);
        x.share(1, 0);
        due("grow", x.grow(0, 4), 1);
        due("length", x.length(0, 1), 4);
        due("what was there", x.read(0, 1, 1), -3);
        dueBits("behind it", x, x.read(0, 1, 3), 0);
        due("the old one is as it was", x.length(1, 1), 2);
        due("shrink", x.grow(0, 1), 1);
        due("shorter", x.length(0, 1), 1);
        due("as long", x.grow(1, 2), 1);
        due("items", x.told(1), 2 + 4 + 1 + 2);
        due("to 30", x.grow(0, 30), 1);
        due("to 31", x.grow(0, 31), OUTSIDE);
        due("to -1", x.grow(0, -1), SIZE);
        due("null ahead of size", x.grow(9, -1), NULL);
        due("31 of nothing", x.grow(9, 31), OUTSIDE);
        due("it stayed", x.length(0, 1), 30);
        due("to 0", x.grow(0, 0), 1);
        for (int column : NO_COLUMNS) {
            due("no column", x.grow(column, 1), OUTSIDE);
        }
        growRows();
        PlanCopies y = full();
        due("full ahead of null", y.grow(0, 1), FULL);
        due("outside ahead of full", y.grow(0, 31), OUTSIDE);
    }

    private static void growRows() {
        PlanCopies x = new PlanCopies();
        x.deep(0, 10, 2, 3, 0);
        x.take(1, 0, 10, 1);
        due("rows", x.grow(0, 3), 1);
        x.write(1, 4, 2, 5);
        due("are the same", x.cell(0, 10, 1, 2), 5);
        dueFault("nothing behind", x, x.cell(0, 10, 2, 0), 1);
        x.make(2, 9, 1);
        x.thing(2, 0, 1, 4);
        due("things", x.grow(2, 2), 1);
        due("kind stays", x.kind(2), 9);
        due("the thing", x.read(2, 9, 0), 4);
        due("no thing was made", x.told(2), 1);
    }

    private static void copyPlain() {
        PlanCopies x = new PlanCopies();
        x.make(0, 4, 5);
        x.make(1, 4, 3);
        for (int i = 0; i < 5; i++) {
            x.write(0, 4, i, i + 1);
        }
        due("three", x.copy(0, 2, 1, 0, 3), 3);
        due("first", x.read(1, 4, 0), 3);
        due("last", x.read(1, 4, 2), 5);
        due("forth within itself", x.copy(0, 0, 0, 1, 4), 4);
        for (int i = 0; i < 5; i++) {
            due("moved forth " + i, x.read(0, 4, i), Math.max(i, 1));
        }
        due("back within itself", x.copy(0, 1, 0, 0, 4), 4);
        for (int i = 0; i < 5; i++) {
            due("moved back " + i, x.read(0, 4, i), Math.min(i + 1, 4));
        }
        due("none at the end", x.copy(0, 5, 1, 3, 0), 0);
        due("none beyond the end", x.copy(0, 6, 1, 3, 0), INDEX);
        due("none beyond the other end", x.copy(0, 5, 1, 4, 0), INDEX);
        due("i below", x.copy(0, -1, 1, 0, 1), INDEX);
        due("j below", x.copy(0, 0, 1, -1, 1), INDEX);
        due("n below", x.copy(0, 0, 1, 0, -1), INDEX);
        due("not so many here", x.copy(0, 4, 1, 0, 2), INDEX);
        due("not so many there", x.copy(0, 0, 1, 2, 2), INDEX);
        due("far too many", x.copy(0, 1, 1, 1, Integer.MAX_VALUE), INDEX);
        due("far too far", x.copy(0, Integer.MAX_VALUE, 1, 0, 1), INDEX);
        due("fewest", x.copy(0, Integer.MIN_VALUE, 1, 0, Integer.MIN_VALUE), INDEX);
        due("null here", x.copy(9, 0, 1, 0, 0), NULL);
        due("null there, ahead of index", x.copy(0, -1, 9, 0, 0), NULL);
        x.make(2, 5, 3);
        due("two kinds, ahead of index", x.copy(0, -1, 2, 0, 0), STORE);
        x.make(3, 8, 3);
        due("things among ints", x.copy(3, 0, 0, 0, 0), STORE);
        due("ints among things", x.copy(0, 0, 3, 0, 0), STORE);
        for (int column : NO_COLUMNS) {
            due("no column", x.copy(column, 0, 1, 0, 0), OUTSIDE);
            due("no other column", x.copy(0, 0, column, 0, 0), OUTSIDE);
        }
    }

    private static void copyItems() {
        PlanCopies x = new PlanCopies();
        x.make(0, 8, 4);
        x.thing(0, 0, 1, 10);
        x.thing(0, 2, 1, 12);
        x.thing(0, 3, 0, 13);
        x.make(1, 9, 4);
        x.thing(1, 1, 1, 99);
        due("until the plain one", x.copy(0, 0, 1, 0, 4), STORE);
        due("first has come", x.read(1, 9, 0), 10);
        dueFault("nothing has come", x, x.read(1, 9, 1), 1);
        due("third has come", x.read(1, 9, 2), 12);
        dueFault("the plain one has not", x, x.read(1, 9, 3), 1);
        due("index, ahead of items", x.copy(0, 3, 1, 3, 2), INDEX);
        due("9 into 8", x.copy(1, 0, 0, 1, 3), 3);
        due("came", x.read(0, 8, 3), 12);
        due("marked still", x.marked(0, 3), 1);
        x.share(2, 0);
        due("forth within one table", x.copy(0, 0, 2, 1, 3), 3);
        due("first stays", x.read(0, 8, 0), 10);
        due("first to second", x.read(0, 8, 1), 10);
        due("second to third", x.read(0, 8, 2), 10);
        dueFault("third to fourth", x, x.read(0, 8, 3), 1);
        due("no thing was made", x.told(2), 4);
        x.make(3, 8, 2);
        x.thing(3, 0, 1, 20);
        x.thing(3, 1, 0, 21);
        x.make(4, 9, 3);
        due("farther back in the other", x.copy(3, 0, 4, 1, 2), STORE);
        due("still the first one first", x.read(4, 9, 1), 20);
    }

    private static void copyRows() {
        for (int kind = 8; kind <= 13; kind++) {
            for (int other = 8; other <= 13; other++) {
                PlanCopies x = new PlanCopies();
                x.make(0, kind, 2);
                x.make(1, other, 2);
                due("nothing of " + kind + " into " + other, x.copy(0, 0, 1, 0, 2), 2);
                putItem(x, kind);
                boolean fits = kind == other || (kind == 9 && other == 8);
                due("item of " + kind + " into " + other, x.copy(0, 0, 1, 0, 2), fits ? 2 : STORE);
            }
        }
        PlanCopies x = new PlanCopies();
        x.make(0, 9, 1);
        x.make(1, 12, 1);
        x.row(1, 12, 0, 0);
        x.make(2, 12, 1);
        due("a row of marked things", x.copy(1, 0, 2, 0, 1), 1);
        x.take(3, 2, 12, 0);
        due("is the same", x.alike(0, 3), 2);
    }

    private static void putItem(PlanCopies x, int kind) {
        if (kind <= 9) {
            due("thing", x.thing(0, 1, kind - 8, 3), 1);
        } else {
            int[] items = {4, 7, 8, 10};
            x.make(2, items[kind - 10], 1);
            due("row", x.row(0, kind, 1, 2), 1);
        }
    }

    private static void fill() {
        PlanCopies x = new PlanCopies();
        long[] want = {1, -1, -1, 65535, -1, -1, 0x7FC00000L, 0x7FF8000000000000L};
        for (int kind = 0; kind <= 7; kind++) {
            x.make(0, kind, 3);
            due("fill", x.fill(0, kind, -1), 3);
            for (int i = 0; i < 3; i++) {
                due("filled " + kind, x.read(0, kind, i), want[kind]);
            }
        }
        x.make(1, 4, 0);
        due("none", x.fill(1, 4, 1), 0);
        due("cast", x.fill(0, 6, 1), CAST);
        due("null", x.fill(2, 6, 1), NULL);
        x.make(3, 8, 1);
        due("kind 8", x.fill(3, 8, 1), OUTSIDE);
        due("kind -1", x.fill(0, -1, 1), OUTSIDE);
        for (int column : NO_COLUMNS) {
            due("no column", x.fill(column, 4, 1), OUTSIDE);
        }
    }

    private static void size() {
        PlanCopies x = new PlanCopies();
        due("of nothing", x.size(0), 0);
        for (int kind = 0; kind <= 7; kind++) {
            x.make(0, kind, 3);
            due("of kind " + kind, x.size(0), 3);
        }
        x.make(0, 8, 3);
        due("of no things", x.size(0), 0);
        x.thing(0, 1, 0, 0);
        x.thing(0, 2, 1, 0);
        due("of two things", x.size(0), 2);
        x.make(1, 9, 3);
        x.thing(1, 1, 1, 0);
        due("of a marked one", x.size(1), 1);
        x.make(2, 12, 4);
        x.row(2, 12, 0, 0);
        x.row(2, 12, 1, 1);
        x.row(2, 12, 3, 0);
        due("of rows of things", x.size(2), 2 + 1 + 2);
        x.deep(3, 11, 2, 5, 0);
        due("of doubles", x.size(3), 10);
        x.deep(4, 13, 2, 3, 4);
        x.take(5, 4, 13, 0);
        x.row(4, 13, 1, 5);
        due("each time that it stands there", x.size(4), 24);
        x.row(5, 10, 0, 15);
        due("nothing counts 0", x.size(4), 16);
        for (int column : NO_COLUMNS) {
            due("no column", x.size(column), OUTSIDE);
        }
    }

    private static void alike() {
        PlanCopies x = new PlanCopies();
        due("both nothing", x.alike(0, 1), 2);
        x.make(0, 4, 2);
        due("one nothing", x.alike(0, 1), 0);
        due("other nothing", x.alike(1, 0), 0);
        due("itself", x.alike(0, 0), 2);
        x.share(1, 0);
        due("shared", x.alike(0, 1), 2);
        x.make(1, 4, 2);
        due("same bits", x.alike(0, 1), 1);
        x.write(1, 4, 1, 1);
        due("other bits", x.alike(0, 1), 0);
        x.make(1, 4, 3);
        due("longer", x.alike(0, 1), 0);
        x.make(1, 2, 2);
        due("other kind", x.alike(0, 1), 0);
        x.make(0, 7, 1);
        x.make(1, 7, 1);
        x.write(0, 7, 0, Long.MIN_VALUE);
        due("0 and -0", x.alike(0, 1), 0);
        x.write(0, 7, 0, -1);
        x.write(1, 7, 0, 0x7FF0000000000001L);
        due("both no number", x.alike(0, 1), 1);
        for (int column : NO_COLUMNS) {
            due("no column", x.alike(column, 0), OUTSIDE);
            due("no other column", x.alike(0, column), OUTSIDE);
        }
        alikeThings();
        alikeRows();
    }

    private static void alikeThings() {
        PlanCopies x = new PlanCopies();
        x.make(0, 8, 2);
        x.make(1, 8, 2);
        due("nothing as nothing", x.alike(0, 1), 1);
        x.thing(0, 1, 0, 0);
        due("a thing and nothing", x.alike(0, 1), 0);
        due("nothing and a thing", x.alike(1, 0), 0);
        x.thing(1, 1, 0, 0);
        due("the same number", x.alike(0, 1), 1);
        x.thing(1, 1, 0, 1);
        due("another number", x.alike(0, 1), 0);
        x.thing(1, 1, 1, 0);
        due("plain and marked", x.alike(0, 1), 0);
        x.thing(0, 1, 1, 0);
        due("both marked", x.alike(0, 1), 1);
        x.make(1, 9, 2);
        x.thing(1, 1, 1, 0);
        due("8 and 9", x.alike(0, 1), 0);
        x.make(2, 12, 1);
        x.make(3, 12, 1);
        x.row(2, 12, 0, 0);
        x.row(3, 12, 0, 1);
        due("rows of 8 and of 9", x.alike(2, 3), 0);
    }

    private static void alikeRows() {
        PlanCopies x = new PlanCopies();
        x.deep(0, 13, 2, 2, 2);
        x.deep(1, 13, 2, 2, 2);
        due("rows", x.alike(0, 1), 1);
        x.take(2, 1, 13, 1);
        x.set(2, 10, 1, 1, 1);
        due("another int", x.alike(0, 1), 0);
        x.row(2, 10, 1, 15);
        due("a row and nothing", x.alike(0, 1), 0);
        due("nothing and a row", x.alike(1, 0), 0);
        x.take(3, 0, 13, 1);
        x.row(3, 10, 1, 15);
        due("nothing as nothing", x.alike(0, 1), 1);
        x.row(0, 13, 0, 3);
        due("longer rows", x.alike(0, 1), 0);
        x.row(0, 13, 0, 2);
        x.row(1, 13, 0, 2);
        due("the same row", x.alike(0, 1), 1);
    }

    private static void trouble() {
        PlanCopies x = new PlanCopies();
        due("first", x.trouble(0, 7), NONE);
        due("another", x.trouble(7, 0), NONE);
        due("changed", x.trouble(0, Integer.MAX_VALUE), 7);
        due("gone", x.trouble(0, NONE), Integer.MAX_VALUE);
        due("none", x.trouble(0, NONE), NONE);
        due("n below", x.trouble(7, -2), OUTSIDE);
        due("n far below", x.trouble(7, Integer.MIN_VALUE), OUTSIDE);
        due("it stayed", x.trouble(7, 1), 0);
        due("t -1", x.trouble(-1, 1), OUTSIDE);
        due("t 8", x.trouble(8, 1), OUTSIDE);
    }

    private static void raise() {
        PlanCopies x = new PlanCopies();
        x.trouble(7, 0);
        due("own", x.raise(7, 1), OWN);
        due("null", x.raise(6, 8), NULL);
        due("frames 0", x.raise(7, 0), OUTSIDE);
        due("frames 9", x.raise(7, 9), OUTSIDE);
        due("t -1", x.raise(-1, 1), OUTSIDE);
        due("t 8", x.raise(8, 1), OUTSIDE);
        x.trouble(7, NONE);
        due("gone", x.raise(7, 1), NULL);
    }

    private static void passed() {
        PlanCopies x = new PlanCopies();
        x.trouble(1, 3);
        int[] want = {1, 21, 321, 4321, 54321, 654321, 7654321, 87654321};
        for (int frames = 1; frames <= 8; frames++) {
            x.raise(1, frames);
            due("own", x.passed(), want[frames - 1]);
        }
        x.raise(0, 9);
        due("refused", x.passed(), 87654321);
        for (int frames = 1; frames <= 8; frames++) {
            x.raise(0, frames);
            due("null", x.passed(), want[frames - 1]);
        }
    }

    private static void number() {
        PlanCopies x = new PlanCopies();
        x.trouble(1, 3);
        x.trouble(2, 0);
        x.raise(1, 2);
        due("own", x.number(), 3);
        x.trouble(1, 4);
        due("of the raise, not of now", x.number(), 3);
        x.raise(1, 0);
        due("refused", x.number(), 3);
        x.raise(2, 2);
        due("own 0", x.number(), 0);
        x.raise(3, 2);
        due("null", x.number(), NONE);
    }

    private static void fault() {
        PlanCopies x = new PlanCopies();
        x.make(0, 4, 1);
        x.length(0, 5);
        x.write(0, 4, 9, 9);
        due("ahead of any", x.fault(), 0);
        x.read(0, 4, 1);
        due("of read", x.fault(), 3);
        x.write(0, 4, 0, 9);
        due("of the latest read, whatever else came", x.fault(), 3);
        x.cell(0, 10, 0, 0);
        due("of cell", x.fault(), 2);
        x.deepest(1, 0, 0, 0);
        due("of deepest", x.fault(), 1);
        x.deepest(16, 0, 0, 0);
        due("outside", x.fault(), OUTSIDE);
        x.read(0, 4, 0);
        due("none", x.fault(), 0);
    }

    private static void clear() {
        PlanCopies x = new PlanCopies();
        due("nothing", x.clear(), 0);
        x.make(0, 8, 2);
        x.share(15, 0);
        x.thing(0, 0, 0, 1);
        x.trouble(5, 5);
        x.raise(5, 5);
        x.read(0, 4, 0);
        due("two", x.clear(), 2);
        for (int column = 0; column < 16; column++) {
            due("nothing held", x.kind(column), NONE);
        }
        due("passed", x.passed(), 0);
        due("number", x.number(), NONE);
        due("fault", x.fault(), 0);
        due("trouble", x.trouble(5, NONE), NONE);
        due("items made ever", x.told(1), 2);
        due("things made ever", x.told(2), 1);
        PlanCopies y = full();
        y.clear();
        due("full still", y.make(0, 4, 1), FULL);
    }

    private static void told() {
        PlanCopies x = new PlanCopies();
        x.make(0, 10, 3);
        due("make", x.told(1), 3);
        x.deep(1, 13, 2, 3, 4);
        due("deep", x.told(1), 3 + 32);
        x.grow(0, 5);
        due("grow", x.told(1), 35 + 5);
        x.aside(2, 1);
        due("aside", x.told(1), 40 + 32);
        x.share(3, 1);
        x.take(4, 1, 13, 0);
        x.make(5, 4, -1);
        x.make(5, 4, 31);
        x.grow(0, -1);
        x.deep(5, 10, 2, -1, 0);
        due("as before", x.told(1), 72);
        due("columns", x.told(0), 5);
        x.drop(4);
        due("one less", x.told(0), 4);
        x.make(6, 8, 1);
        x.thing(6, 0, 0, 0);
        x.thing(6, 0, 1, 0);
        x.thing(6, 0, 2, 0);
        due("things", x.told(2), 2);
        due("what -1", x.told(-1), OUTSIDE);
        due("what 3", x.told(3), OUTSIDE);
    }
}
