/**
 * Plans kept aside: sixteen columns of tables, whose items are plain ones, things, rows or tables of rows.
 *
 * <p>Plain items are held as their BITS, already in the form in which they are told again, so that
 * reading and comparing need no arithmetic on floats or doubles.
 */
public final class PlanCopies {
    public static final int NONE = -1, OUTSIDE = -2, FULL = -3;

    private static final int NO_FAULT = 0, NULL = 1, CAST = 2, INDEX = 3, SIZE = 4, STORE = 5, OWN = 6;
    private static final int FAULT_BASE = -10;

    private static final int MARKS = 0, BYTES = 1, SHORTS = 2, CODES = 3, INTS = 4;
    private static final int FLOATS = 6, DOUBLES = 7, THINGS = 8, MARKED_THINGS = 9;
    private static final int INT_ROWS = 10, DOUBLE_ROWS = 11, THING_ROWS = 12, INT_ROW_TABLES = 13;

    private static final int COLUMNS = 16, TROUBLES = 8, MOST_FRAMES = 8;
    private static final int MOST_ITEMS = 30, MOST_DEEP_ITEMS = 400;
    private static final int ITEMS_EVER = 6000, THINGS_EVER = 3000;
    /** A table of rows of ints, its rows, their ints: no table reaches deeper. */
    private static final int MOST_LEVELS = 3;

    private static final int MARKED_THING = 1, NO_THING = 2;

    private static final int FLOAT_INFINITY = 0x7F800000, FLOAT_NO_NUMBER = 0x7FC00000;
    private static final long DOUBLE_INFINITY = 0x7FF0000000000000L, DOUBLE_NO_NUMBER = 0x7FF8000000000000L;

    private final Table[] columns = new Table[COLUMNS];
    private final int[] troubles = new int[TROUBLES];
    private int itemsMade;
    private int thingsMade;
    private int asidesMade;
    private int latestPassed;
    private int latestNumber;
    private int latestFault;

    public PlanCopies() {
        begin();
    }

    public int make(int column, int kind, int n) {
        if (!isColumn(column) || !isKind(kind, MARKS, INT_ROW_TABLES) || n > MOST_ITEMS) {
            return OUTSIDE;
        }
        if (isFull()) {
            return FULL;
        }
        if (n < 0) {
            return against(SIZE);
        }
        columns[column] = newTable(kind, n);
        return 1;
    }

    public int deep(int column, int kind, int n, int m, int l) {
        if (!isColumn(column) || !isKind(kind, INT_ROWS, INT_ROW_TABLES)) {
            return OUTSIDE;
        }
        // Kinds 10 to 12 have no third number: 1 changes neither the product nor the faults.
        int third = kind == INT_ROW_TABLES ? l : 1;
        if (isTooDeep(n, m, third)) {
            return OUTSIDE;
        }
        if (isFull()) {
            return FULL;
        }
        if (n < 0 || m < 0 || third < 0) {
            return against(SIZE);
        }
        columns[column] = newDeepTable(kind, n, m, third);
        return 1;
    }

    public int share(int column, int from) {
        if (!isColumn(column) || !isColumn(from)) {
            return OUTSIDE;
        }
        columns[column] = columns[from];
        return 1;
    }

    public int aside(int column, int from) {
        if (!isColumn(column) || !isColumn(from)) {
            return OUTSIDE;
        }
        if (isFull()) {
            return FULL;
        }
        asidesMade++;
        columns[column] = twinOf(columns[from], MOST_LEVELS);
        return 1;
    }

    public int drop(int column) {
        if (!isColumn(column)) {
            return OUTSIDE;
        }
        int held = columns[column] != null ? 1 : 0;
        columns[column] = null;
        return held;
    }

    public int kind(int column) {
        if (!isColumn(column)) {
            return OUTSIDE;
        }
        Table table = columns[column];
        return table != null ? table.kind : NONE;
    }

    public int length(int column, int kind) {
        if (!isColumn(column) || !isKind(kind, MARKS, INT_ROW_TABLES)) {
            return OUTSIDE;
        }
        Table table = columns[column];
        if (!fits(table, kind)) {
            return against(CAST);
        }
        return table != null ? table.count() : against(NULL);
    }

    public long read(int column, int kind, int i) {
        if (!isColumn(column) || !isKind(kind, MARKS, MARKED_THINGS)) {
            return noBits(OUTSIDE);
        }
        Table table = columns[column];
        return fits(table, kind) ? bitsAt(table, i) : noBits(CAST);
    }

    public int write(int column, int kind, int i, long bits) {
        if (!isColumn(column) || !isKind(kind, MARKS, DOUBLES)) {
            return OUTSIDE;
        }
        Table table = columns[column];
        return fits(table, kind) ? putBits(table, i, bits) : against(CAST);
    }

    public int thing(int column, int i, int marked, int number) {
        if (!isColumn(column) || marked < 0 || marked > NO_THING) {
            return OUTSIDE;
        }
        if (marked != NO_THING && thingsMade >= THINGS_EVER) {
            return FULL;
        }
        // Made ahead of every fault, since it counts as made even then.
        Thing item = marked != NO_THING ? newThing(number, marked == MARKED_THING) : null;
        Table table = columns[column];
        return fits(table, THINGS) ? place(table, i, item) : against(CAST);
    }

    public int marked(int column, int i) {
        if (!isColumn(column)) {
            return OUTSIDE;
        }
        Table table = columns[column];
        int fault = faultTaken(table, THINGS, i);
        if (fault != NO_FAULT) {
            return against(fault);
        }
        return itemAt(table, i) instanceof Thing found && found.marked ? 1 : 0;
    }

    public long cell(int column, int kind, int i, int j) {
        if (!isColumn(column) || !isKind(kind, INT_ROWS, THING_ROWS)) {
            return noBits(OUTSIDE);
        }
        Table table = columns[column];
        int fault = faultTaken(table, kind, i);
        return fault == NO_FAULT ? bitsAt(rowAt(table, i), j) : noBits(fault);
    }

    public int set(int column, int kind, int i, int j, long bits) {
        if (!isColumn(column) || !isKind(kind, INT_ROWS, DOUBLE_ROWS)) {
            return OUTSIDE;
        }
        Table table = columns[column];
        int fault = faultTaken(table, kind, i);
        return fault == NO_FAULT ? putBits(rowAt(table, i), j, bits) : against(fault);
    }

    public long deepest(int column, int i, int j, int k) {
        if (!isColumn(column)) {
            return noBits(OUTSIDE);
        }
        Table table = columns[column];
        int fault = faultTaken(table, INT_ROW_TABLES, i);
        if (fault != NO_FAULT) {
            return noBits(fault);
        }
        Table rows = rowAt(table, i);
        fault = faultAt(rows, j);
        return fault == NO_FAULT ? bitsAt(rowAt(rows, j), k) : noBits(fault);
    }

    public int row(int column, int kind, int i, int from) {
        if (!isColumn(column) || !isColumn(from) || !isKind(kind, INT_ROWS, INT_ROW_TABLES)) {
            return OUTSIDE;
        }
        Table table = columns[column];
        Table item = columns[from];
        if (!fits(table, kind) || !fits(item, kindOfRows(kind))) {
            return against(CAST);
        }
        return place(table, i, item);
    }

    public int take(int column, int from, int kind, int i) {
        if (!isColumn(column) || !isColumn(from) || !isKind(kind, INT_ROWS, INT_ROW_TABLES)) {
            return OUTSIDE;
        }
        Table table = columns[from];
        int fault = faultTaken(table, kind, i);
        if (fault != NO_FAULT) {
            return against(fault);
        }
        columns[column] = rowAt(table, i);
        return 1;
    }

    public int grow(int column, int n) {
        if (!isColumn(column) || n > MOST_ITEMS) {
            return OUTSIDE;
        }
        if (isFull()) {
            return FULL;
        }
        Table old = columns[column];
        if (old == null) {
            return against(NULL);
        }
        if (n < 0) {
            return against(SIZE);
        }
        Table grown = newTable(old.kind, n);
        transfer(old, 0, grown, 0, Math.min(n, old.count()));
        columns[column] = grown;
        return 1;
    }

    public int copy(int column, int i, int other, int j, int n) {
        if (!isColumn(column) || !isColumn(other)) {
            return OUTSIDE;
        }
        Table from = columns[column];
        Table to = columns[other];
        if (from == null || to == null) {
            return against(NULL);
        }
        if (from.kind != to.kind && (from instanceof Plain || to instanceof Plain)) {
            return against(STORE);
        }
        return transfer(from, i, to, j, n);
    }

    public int fill(int column, int kind, long bits) {
        if (!isColumn(column) || !isKind(kind, MARKS, DOUBLES)) {
            return OUTSIDE;
        }
        Table table = columns[column];
        if (!fits(table, kind)) {
            return against(CAST);
        }
        if (table == null) {
            return against(NULL);
        }
        for (int i = 0; i < table.count(); i++) {
            putBits(table, i, bits);
        }
        return table.count();
    }

    public int size(int column) {
        return isColumn(column) ? singleItems(columns[column], MOST_LEVELS) : OUTSIDE;
    }

    public int alike(int column, int other) {
        if (!isColumn(column) || !isColumn(other)) {
            return OUTSIDE;
        }
        Table one = columns[column];
        Table two = columns[other];
        if (one == two) {
            return 2;
        }
        return areAlike(one, two, MOST_LEVELS) ? 1 : 0;
    }

    public int trouble(int t, int n) {
        if (!isTrouble(t) || n < NONE) {
            return OUTSIDE;
        }
        int before = troubles[t];
        troubles[t] = n;
        return before;
    }

    public int raise(int t, int frames) {
        if (!isTrouble(t) || frames < 1 || frames > MOST_FRAMES) {
            return OUTSIDE;
        }
        latestPassed = 0;
        for (int frame = frames; frame >= 1; frame--) {
            latestPassed = latestPassed * 10 + frame;
        }
        latestNumber = troubles[t];
        return against(latestNumber != NONE ? OWN : NULL);
    }

    public int passed() {
        return latestPassed;
    }

    public int number() {
        return latestNumber;
    }

    public int fault() {
        return latestFault;
    }

    public int clear() {
        int held = heldColumns();
        begin();
        return held;
    }

    public int told(int what) {
        switch (what) {
            case 0:
                return heldColumns();
            case 1:
                return itemsMade;
            case 2:
                return thingsMade;
            default:
                return OUTSIDE;
        }
    }

    /** What was made ever is left as it is: clear() keeps it, and a new object has it at 0. */
    private void begin() {
        for (int column = 0; column < COLUMNS; column++) {
            columns[column] = null;
        }
        for (int t = 0; t < TROUBLES; t++) {
            troubles[t] = NONE;
        }
        latestPassed = 0;
        latestNumber = NONE;
        latestFault = NO_FAULT;
    }

    private int heldColumns() {
        int held = 0;
        for (int column = 0; column < COLUMNS; column++) {
            if (columns[column] != null) {
                held++;
            }
        }
        return held;
    }

    private boolean isFull() {
        return itemsMade >= ITEMS_EVER;
    }

    private static boolean isColumn(int column) {
        return column >= 0 && column < COLUMNS;
    }

    private static boolean isTrouble(int t) {
        return t >= 0 && t < TROUBLES;
    }

    private static boolean isKind(int kind, int first, int last) {
        return kind >= first && kind <= last;
    }

    private static boolean isTooDeep(int n, int m, int l) {
        if (n > MOST_ITEMS || m > MOST_ITEMS || l > MOST_ITEMS) {
            return true;
        }
        return Math.max(n, 0) * Math.max(m, 0) * Math.max(l, 0) > MOST_DEEP_ITEMS;
    }

    private static int against(int fault) {
        return FAULT_BASE - fault;
    }

    private long noBits(int fault) {
        latestFault = fault;
        return 0;
    }

    private Table newTable(int kind, int n) {
        itemsMade += n;
        return isKind(kind, MARKS, DOUBLES) ? new Plain(kind, n) : new Holder(kind, n);
    }

    private Table newDeepTable(int kind, int n, int m, int l) {
        Table table = newTable(kind, n);
        for (int i = 0; i < n; i++) {
            Table row = newTable(kindOfRows(kind), m);
            place(table, i, row);
            if (kind == INT_ROW_TABLES) {
                placeNewRows(row, l);
            }
        }
        return table;
    }

    private void placeNewRows(Table rows, int l) {
        for (int j = 0; j < rows.count(); j++) {
            place(rows, j, newTable(INTS, l));
        }
    }

    private Thing newThing(int number, boolean marked) {
        thingsMade++;
        return new Thing(number, marked);
    }

    /** The new table for an old one; one met again in the same aside() has its new one already. */
    private Table twinOf(Table table, int levels) {
        if (table == null || levels == 0) {
            return null;
        }
        if (table.twinMadeBy == asidesMade) {
            return table.twin;
        }
        Table twin = newTable(table.kind, table.count());
        table.twinMadeBy = asidesMade;
        table.twin = twin;
        transfer(table, 0, twin, 0, table.count());
        if (twin instanceof Holder holder) {
            renewRows(holder, levels - 1);
        }
        return twin;
    }

    private void renewRows(Holder holder, int levels) {
        for (int i = 0; i < holder.items.length; i++) {
            if (holder.items[i] instanceof Table row) {
                holder.items[i] = twinOf(row, levels);
            }
        }
    }

    private static int kindOfRows(int kind) {
        switch (kind) {
            case INT_ROWS:
                return INTS;
            case DOUBLE_ROWS:
                return DOUBLES;
            case THING_ROWS:
                return THINGS;
            case INT_ROW_TABLES:
                return INT_ROWS;
            default:
                return NONE;
        }
    }

    private static boolean fits(Table table, int kind) {
        return table == null || table.kind == kind || (kind == THINGS && table.kind == MARKED_THINGS);
    }

    private static boolean canStand(Item item, int kind) {
        if (item instanceof Thing found) {
            return kind == THINGS || (kind == MARKED_THINGS && found.marked);
        }
        if (item instanceof Table table) {
            return fits(table, kindOfRows(kind));
        }
        return true;
    }

    private static int faultAt(Table table, int i) {
        if (table == null) {
            return NULL;
        }
        return i >= 0 && i < table.count() ? NO_FAULT : INDEX;
    }

    private static int faultTaken(Table table, int kind, int i) {
        return fits(table, kind) ? faultAt(table, i) : CAST;
    }

    private static Item itemAt(Table table, int i) {
        if (table instanceof Holder holder && i >= 0 && i < holder.items.length) {
            return holder.items[i];
        }
        return null;
    }

    private static Table rowAt(Table table, int i) {
        return itemAt(table, i) instanceof Table row ? row : null;
    }

    private long bitsAt(Table table, int i) {
        latestFault = faultAt(table, i);
        if (latestFault != NO_FAULT) {
            return 0;
        }
        if (table instanceof Plain plain) {
            return plain.bits[i];
        }
        return itemAt(table, i) instanceof Thing found ? found.number : noBits(NULL);
    }

    private static int putBits(Table table, int i, long bits) {
        int fault = faultAt(table, i);
        if (fault != NO_FAULT) {
            return against(fault);
        }
        if (table instanceof Plain plain) {
            plain.bits[i] = keptBits(plain.kind, bits);
        }
        return 1;
    }

    private static int place(Table table, int i, Item item) {
        int fault = faultAt(table, i);
        if (fault != NO_FAULT) {
            return against(fault);
        }
        if (table instanceof Holder holder && canStand(item, holder.kind)) {
            holder.items[i] = item;
            return 1;
        }
        return against(STORE);
    }

    private static int transfer(Table from, int i, Table to, int j, int n) {
        if (!hasStretch(from, i, n) || !hasStretch(to, j, n)) {
            return against(INDEX);
        }
        if (from instanceof Plain source && to instanceof Plain target) {
            System.arraycopy(source.bits, i, target.bits, j, n);
            return n;
        }
        return transferItems(from, i, to, j, n);
    }

    private static int transferItems(Table from, int i, Table to, int j, int n) {
        // Within one table the last item goes first where the first would overwrite what is still to go.
        boolean lastFirst = from == to && i < j;
        for (int k = 0; k < n; k++) {
            int at = lastFirst ? n - 1 - k : k;
            int answer = place(to, j + at, itemAt(from, i + at));
            if (answer != 1) {
                return answer;
            }
        }
        return n;
    }

    private static boolean hasStretch(Table table, int i, int n) {
        return i >= 0 && n >= 0 && i <= table.count() - n;
    }

    private static long keptBits(int kind, long bits) {
        switch (kind) {
            case MARKS:
                return bits & 1;
            case BYTES:
                return (byte) bits;
            case SHORTS:
                return (short) bits;
            case CODES:
                return (char) bits;
            case INTS:
                return (int) bits;
            case FLOATS:
                return keptFloat((int) bits);
            case DOUBLES:
                return keptDouble(bits);
            default:
                return bits;
        }
    }

    private static int keptFloat(int bits) {
        return (bits & Integer.MAX_VALUE) > FLOAT_INFINITY ? FLOAT_NO_NUMBER : bits;
    }

    private static long keptDouble(long bits) {
        return (bits & Long.MAX_VALUE) > DOUBLE_INFINITY ? DOUBLE_NO_NUMBER : bits;
    }

    private static int singleItems(Table table, int levels) {
        if (table instanceof Plain plain) {
            return plain.bits.length;
        }
        int singles = 0;
        if (table instanceof Holder holder && levels > 0) {
            for (int i = 0; i < holder.items.length; i++) {
                singles += holder.items[i] instanceof Thing ? 1 : singleItems(rowAt(holder, i), levels - 1);
            }
        }
        return singles;
    }

    private static boolean areAlike(Table one, Table two, int levels) {
        if (one == two) {
            return true;
        }
        if (one == null || two == null || levels == 0) {
            return false;
        }
        if (one.kind != two.kind || one.count() != two.count()) {
            return false;
        }
        if (one instanceof Plain a && two instanceof Plain b) {
            return haveSameBits(a, b);
        }
        for (int i = 0; i < one.count(); i++) {
            if (!areItemsAlike(itemAt(one, i), itemAt(two, i), levels)) {
                return false;
            }
        }
        return true;
    }

    private static boolean haveSameBits(Plain one, Plain two) {
        for (int i = 0; i < one.bits.length && i < two.bits.length; i++) {
            if (one.bits[i] != two.bits[i]) {
                return false;
            }
        }
        return one.bits.length == two.bits.length;
    }

    private static boolean areItemsAlike(Item one, Item two, int levels) {
        if (one instanceof Thing a && two instanceof Thing b) {
            return a.number == b.number && a.marked == b.marked;
        }
        if (one instanceof Table a && two instanceof Table b) {
            return areAlike(a, b, levels - 1);
        }
        return one == null && two == null;
    }

    /** What can stand in a table that holds no plain items. */
    private abstract static class Item {
    }

    private static final class Thing extends Item {
        final int number;
        final boolean marked;

        Thing(int number, boolean marked) {
            this.number = number;
            this.marked = marked;
        }
    }

    private abstract static class Table extends Item {
        final int kind;
        /** The aside(), by its count, that made twin: an older one's twin is not to be used again. */
        int twinMadeBy;
        Table twin;

        Table(int kind) {
            this.kind = kind;
        }

        abstract int count();
    }

    /** Kinds 0 to 7. */
    private static final class Plain extends Table {
        final long[] bits;

        Plain(int kind, int n) {
            super(kind);
            bits = new long[n];
        }

        @Override
        int count() {
            return bits.length;
        }
    }

    /** Kinds 8 to 13: the items are things or tables, or nothing. */
    private static final class Holder extends Table {
        final Item[] items;

        Holder(int kind, int n) {
            super(kind);
            items = new Item[n];
        }

        @Override
        int count() {
            return items.length;
        }
    }
}
